section
-- ===== PART A: goes FIRST, ahead of the names: the tables' words, and 'selects' of the private methods out of them =====
/-- a private method of a class that the tables say can be made, by its rows of tables_1 -/
def lw_okq (q : MethodName × Nat) : Prop := (q.1.cls ≠ "java/lang/invoke/MethodHandle" ∧ q.1.cls ≠ "java/lang/invoke/VarHandle") ∧ Cond.instantiable q.1.cls q.2 ∈ tables_1 ∧ Cond.privateMethod q.1 ∈ tables_1 ∧ Cond.instanceMethod q.1 ∈ tables_1
theorem lw_p0 : lw_okq (⟨"NetWires", "letHappen", "(LNetWires$Event;)I"⟩, 12) := ⟨⟨by decide +kernel, by decide +kernel⟩, List.mem_of_getElem? (i := 18) (by decide +kernel), List.mem_of_getElem? (i := 157) (by decide +kernel), List.mem_of_getElem? (i := 158) (by decide +kernel)⟩
theorem lw_p1 : lw_okq (⟨"NetWires", "receive", "(LNetWires$Event;)I"⟩, 12) := ⟨⟨by decide +kernel, by decide +kernel⟩, List.mem_of_getElem? (i := 18) (by decide +kernel), List.mem_of_getElem? (i := 161) (by decide +kernel), List.mem_of_getElem? (i := 162) (by decide +kernel)⟩
theorem lw_p2 : lw_okq (⟨"NetWires", "areParted", "(II)Z"⟩, 12) := ⟨⟨by decide +kernel, by decide +kernel⟩, List.mem_of_getElem? (i := 18) (by decide +kernel), List.mem_of_getElem? (i := 165) (by decide +kernel), List.mem_of_getElem? (i := 166) (by decide +kernel)⟩
theorem lw_p3 : lw_okq (⟨"java/lang/Throwable", "fillInStackTrace", "(I)Ljava/lang/Throwable;"⟩, 6) := ⟨⟨by decide +kernel, by decide +kernel⟩, List.mem_of_getElem? (i := 244) (by decide +kernel), List.mem_of_getElem? (i := 242) (by decide +kernel), List.mem_of_getElem? (i := 243) (by decide +kernel)⟩
theorem lw_p4 : lw_okq (⟨"NetWires", "launchThroughNoise", "(II[B)I"⟩, 12) := ⟨⟨by decide +kernel, by decide +kernel⟩, List.mem_of_getElem? (i := 18) (by decide +kernel), List.mem_of_getElem? (i := 353) (by decide +kernel), List.mem_of_getElem? (i := 354) (by decide +kernel)⟩
theorem lw_p5 : lw_okq (⟨"NetWires", "launch", "(III[B)I"⟩, 12) := ⟨⟨by decide +kernel, by decide +kernel⟩, List.mem_of_getElem? (i := 18) (by decide +kernel), List.mem_of_getElem? (i := 363) (by decide +kernel), List.mem_of_getElem? (i := 364) (by decide +kernel)⟩
theorem lw_p6 : lw_okq (⟨"NetWires", "addMessage", "(III[B)V"⟩, 12) := ⟨⟨by decide +kernel, by decide +kernel⟩, List.mem_of_getElem? (i := 18) (by decide +kernel), List.mem_of_getElem? (i := 370) (by decide +kernel), List.mem_of_getElem? (i := 371) (by decide +kernel)⟩
theorem lw_p7 : lw_okq (⟨"NetWires", "takeNumber", "()I"⟩, 12) := ⟨⟨by decide +kernel, by decide +kernel⟩, List.mem_of_getElem? (i := 18) (by decide +kernel), List.mem_of_getElem? (i := 376) (by decide +kernel), List.mem_of_getElem? (i := 377) (by decide +kernel)⟩
theorem lw_p8 : lw_okq (⟨"NetWires", "setTimer", "(III)Z"⟩, 12) := ⟨⟨by decide +kernel, by decide +kernel⟩, List.mem_of_getElem? (i := 18) (by decide +kernel), List.mem_of_getElem? (i := 435) (by decide +kernel), List.mem_of_getElem? (i := 436) (by decide +kernel)⟩
theorem lw_p9 : lw_okq (⟨"NetWires", "dropTimer", "(II)Z"⟩, 12) := ⟨⟨by decide +kernel, by decide +kernel⟩, List.mem_of_getElem? (i := 18) (by decide +kernel), List.mem_of_getElem? (i := 439) (by decide +kernel), List.mem_of_getElem? (i := 440) (by decide +kernel)⟩
theorem lw_p10 : lw_okq (⟨"NetWiresModel", "fail", "(I)I"⟩, 28) := ⟨⟨by decide +kernel, by decide +kernel⟩, List.mem_of_getElem? (i := 549) (by decide +kernel), List.mem_of_getElem? (i := 652) (by decide +kernel), List.mem_of_getElem? (i := 653) (by decide +kernel)⟩
theorem lw_p11 : lw_okq (⟨"NetWiresModel", "set", "(III)Z"⟩, 28) := ⟨⟨by decide +kernel, by decide +kernel⟩, List.mem_of_getElem? (i := 549) (by decide +kernel), List.mem_of_getElem? (i := 661) (by decide +kernel), List.mem_of_getElem? (i := 662) (by decide +kernel)⟩
theorem lw_p12 : lw_okq (⟨"NetWiresModel", "drop", "(II)Z"⟩, 28) := ⟨⟨by decide +kernel, by decide +kernel⟩, List.mem_of_getElem? (i := 549) (by decide +kernel), List.mem_of_getElem? (i := 669) (by decide +kernel), List.mem_of_getElem? (i := 670) (by decide +kernel)⟩
theorem lw_p13 : lw_okq (⟨"NetWiresModel", "find", "(II)I"⟩, 28) := ⟨⟨by decide +kernel, by decide +kernel⟩, List.mem_of_getElem? (i := 549) (by decide +kernel), List.mem_of_getElem? (i := 673) (by decide +kernel), List.mem_of_getElem? (i := 674) (by decide +kernel)⟩
theorem lw_p14 : lw_okq (⟨"NetWiresModel", "event", "(IIII)I"⟩, 28) := ⟨⟨by decide +kernel, by decide +kernel⟩, List.mem_of_getElem? (i := 549) (by decide +kernel), List.mem_of_getElem? (i := 677) (by decide +kernel), List.mem_of_getElem? (i := 678) (by decide +kernel)⟩
theorem lw_p15 : lw_okq (⟨"NetWiresModel", "unset", "(II)Z"⟩, 28) := ⟨⟨by decide +kernel, by decide +kernel⟩, List.mem_of_getElem? (i := 549) (by decide +kernel), List.mem_of_getElem? (i := 685) (by decide +kernel), List.mem_of_getElem? (i := 686) (by decide +kernel)⟩
def lw_privs_1 : List (MethodName × Nat) := [(⟨"NetWires", "letHappen", "(LNetWires$Event;)I"⟩, 12), (⟨"NetWires", "receive", "(LNetWires$Event;)I"⟩, 12), (⟨"NetWires", "areParted", "(II)Z"⟩, 12), (⟨"java/lang/Throwable", "fillInStackTrace", "(I)Ljava/lang/Throwable;"⟩, 6), (⟨"NetWires", "launchThroughNoise", "(II[B)I"⟩, 12), (⟨"NetWires", "launch", "(III[B)I"⟩, 12), (⟨"NetWires", "addMessage", "(III[B)V"⟩, 12), (⟨"NetWires", "takeNumber", "()I"⟩, 12), (⟨"NetWires", "setTimer", "(III)Z"⟩, 12), (⟨"NetWires", "dropTimer", "(II)Z"⟩, 12), (⟨"NetWiresModel", "fail", "(I)I"⟩, 28), (⟨"NetWiresModel", "set", "(III)Z"⟩, 28), (⟨"NetWiresModel", "drop", "(II)Z"⟩, 28), (⟨"NetWiresModel", "find", "(II)I"⟩, 28), (⟨"NetWiresModel", "event", "(IIII)I"⟩, 28), (⟨"NetWiresModel", "unset", "(II)Z"⟩, 28)]
theorem lw_r1 : ∀ q ∈ lw_privs_1, lw_okq q := List.forall_mem_cons.mpr ⟨lw_p0, List.forall_mem_cons.mpr ⟨lw_p1, List.forall_mem_cons.mpr ⟨lw_p2, List.forall_mem_cons.mpr ⟨lw_p3, List.forall_mem_cons.mpr ⟨lw_p4, List.forall_mem_cons.mpr ⟨lw_p5, List.forall_mem_cons.mpr ⟨lw_p6, List.forall_mem_cons.mpr ⟨lw_p7, List.forall_mem_cons.mpr ⟨lw_p8, List.forall_mem_cons.mpr ⟨lw_p9, List.forall_mem_cons.mpr ⟨lw_p10, List.forall_mem_cons.mpr ⟨lw_p11, List.forall_mem_cons.mpr ⟨lw_p12, List.forall_mem_cons.mpr ⟨lw_p13, List.forall_mem_cons.mpr ⟨lw_p14, List.forall_mem_cons.mpr ⟨lw_p15, fun _ h => absurd h List.not_mem_nil⟩⟩⟩⟩⟩⟩⟩⟩⟩⟩⟩⟩⟩⟩⟩⟩
theorem lw_p16 : lw_okq (⟨"NetWiresModel", "areParted", "(II)Z"⟩, 28) := ⟨⟨by decide +kernel, by decide +kernel⟩, List.mem_of_getElem? (i := 549) (by decide +kernel), List.mem_of_getElem? (i := 701) (by decide +kernel), List.mem_of_getElem? (i := 702) (by decide +kernel)⟩
theorem lw_p17 : lw_okq (⟨"NetWiresModel", "drawn", "(I)I"⟩, 28) := ⟨⟨by decide +kernel, by decide +kernel⟩, List.mem_of_getElem? (i := 549) (by decide +kernel), List.mem_of_getElem? (i := 705) (by decide +kernel), List.mem_of_getElem? (i := 706) (by decide +kernel)⟩
theorem lw_p18 : lw_okq (⟨"NetWiresModel", "go", "(IIIII)Z"⟩, 28) := ⟨⟨by decide +kernel, by decide +kernel⟩, List.mem_of_getElem? (i := 549) (by decide +kernel), List.mem_of_getElem? (i := 711) (by decide +kernel), List.mem_of_getElem? (i := 712) (by decide +kernel)⟩
theorem lw_p19 : lw_okq (⟨"NetWiresModel", "nth", "(IZ)I"⟩, 28) := ⟨⟨by decide +kernel, by decide +kernel⟩, List.mem_of_getElem? (i := 549) (by decide +kernel), List.mem_of_getElem? (i := 719) (by decide +kernel), List.mem_of_getElem? (i := 720) (by decide +kernel)⟩
theorem lw_p20 : lw_okq (⟨"NetWiresModel", "least", "()I"⟩, 28) := ⟨⟨by decide +kernel, by decide +kernel⟩, List.mem_of_getElem? (i := 549) (by decide +kernel), List.mem_of_getElem? (i := 727) (by decide +kernel), List.mem_of_getElem? (i := 728) (by decide +kernel)⟩
theorem lw_p21 : lw_okq (⟨"NetWiresModel", "happen", "(I)I"⟩, 28) := ⟨⟨by decide +kernel, by decide +kernel⟩, List.mem_of_getElem? (i := 549) (by decide +kernel), List.mem_of_getElem? (i := 731) (by decide +kernel), List.mem_of_getElem? (i := 732) (by decide +kernel)⟩
def lw_privs_2 : List (MethodName × Nat) := [(⟨"NetWiresModel", "areParted", "(II)Z"⟩, 28), (⟨"NetWiresModel", "drawn", "(I)I"⟩, 28), (⟨"NetWiresModel", "go", "(IIIII)Z"⟩, 28), (⟨"NetWiresModel", "nth", "(IZ)I"⟩, 28), (⟨"NetWiresModel", "least", "()I"⟩, 28), (⟨"NetWiresModel", "happen", "(I)I"⟩, 28)]
theorem lw_r2 : ∀ q ∈ lw_privs_2, lw_okq q := List.forall_mem_cons.mpr ⟨lw_p16, List.forall_mem_cons.mpr ⟨lw_p17, List.forall_mem_cons.mpr ⟨lw_p18, List.forall_mem_cons.mpr ⟨lw_p19, List.forall_mem_cons.mpr ⟨lw_p20, List.forall_mem_cons.mpr ⟨lw_p21, fun _ h => absurd h List.not_mem_nil⟩⟩⟩⟩⟩⟩
def lw_privs : List (MethodName × Nat) := lw_privs_1 ++ (lw_privs_2)
def lw_tbl : List Cond := k2_sels lw_privs ++ tables_1
theorem lw_privs_ok : ∀ q ∈ lw_privs, lw_okq q := by
  show ∀ q ∈ lw_privs_1 ++ (lw_privs_2), lw_okq q
  exact List.forall_mem_append.mpr ⟨lw_r1, lw_r2⟩
end
section
/-! ===== BEGIN exceptions that leave a method, and their catching by the caller (launches without stack traces) ===== -/
section VXA
/-! The laws vx_back, vx_callV, vx_callS, vx_callSW, vx_throw0, vx_throwS follow proofs of the library, with one case more: JvmDerived/Free/Laws.lean (Back.of_free), Shelf42/LK1.lean (callV, callS), Shelf/KitTraced.lean (throwNew0V, throwNewS). -/
/-- where a method has thrown q: the class by its name, the cell, what was written, the world -/
def vx_T (XC : String → State → State → Prop) (st : State) (q : Addr) (t : State) (mc ms : Nat) (free : Addr → Prop) : Prop :=
  ∃ (E : String) (ce : Cell) (L : List Loc), XC E st t ∧ t.heap[q]? = some ce ∧ ce.vm = .none ∧ st.vm.findClass E = some ce.cls ∧ st.WarmedH t.vm ∧ st.sameButNew ({ t with vm := st.vm } : State) L mc ms ∧ ∀ z ∈ L, free z.base
def vx_Q (Qc : Array Value → State → Outcome → State → Prop) (XC : String → State → State → Prop) (mc ms : Nat) (free : Addr → Prop) : Array Value → State → Outcome → State → Prop := fun a st o t =>
  (Qc a st o t ∧ ∃ L, FrameEnd st o t L mc ms ∧ ∀ q ∈ L, free q.base) ∨ ∃ q, o = .threw q ∧ vx_T XC st q t mc ms free
/-- a callee that returns or throws -/
def vx_Met (l : Launch) (y : MethodName) (ws : List Cond) (rm : Room) (Pc : Array Value → State → Prop) (Qc : Array Value → State → Outcome → State → Prop) (XC : String → State → State → Prop) (mc ms : Nat) (free : Addr → Prop) : Prop :=
  MetFree l y (headSpec ws rm) Pc (fun _ _ _ _ _ => True) (vx_Q Qc XC mc ms free)
def vx_Post (XC : String → State → State → Prop) (mc ms : Nat) (free : Addr → Prop) : Pt → Array Value → Addr → Pt → Prop := fun A a q B =>
  ∃ (g : JFrame) (mk : MethodId) (t : State) (L : List Loc) (E : String) (ce : Cell), B.U.heap = t.heap ∧ B.U.vm = t.vm ∧ XC E (A.U.calling g mk a) t ∧ t.heap[q]? = some ce ∧ ce.vm = .none ∧ A.U.vm.findClass E = some ce.cls ∧ B.locs = A.locs ++ L ∧ (∀ z ∈ L, free z.base) ∧ B.cells = A.cells + mc ∧ B.slots = A.slots + ms
def vx_Back (l : Launch) (R : Room) (p : Program) (e : Env) (below : List Frame) (s : State) (sargs : Array Value) (y : MethodName) (len W9 : Nat)
    (Pre : Pt → Array Value → Prop) (Post : Pt → Array Value → Option Value → Pt → Prop) (PostX : Pt → Array Value → Addr → Pt → Prop) : Prop :=
  ∀ (m : MethodId) (meth : Method) (c : Code) (A : Pt) (g : JFrame) (ig : Instr) (mk : MethodId) (a : Array Value),
    Stand p l e R s m sargs below meth c A.U A.locs A.cells A.slots → g.method = m → g.locals.size = c.maxLocals → decode c.code g.pc = .ok (ig, len) →
    2 * g.monitorRoom + (g.stack.map fun v => v.category).sum ≤ W9 → A.U.methodNamed? y = some mk → Pre A a →
    (∃ (v : Option Value) (B : Pt), Stand p l e R s m sargs below meth c B.U B.locs B.cells B.slots ∧ Post A a v B ∧
      Steps p.tables e below (doInvoke e (A.U.setTop g) [] mk a).1 (B.U.setTop { g with pc := g.pc + len, stack := v.toList ++ g.stack })) ∨
    (∃ (q : Addr) (B : Pt), Stand p l e R s m sargs below meth c B.U B.locs B.cells B.slots ∧ PostX A a q B ∧
      Steps p.tables e below (doInvoke e (A.U.setTop g) [] mk a).1 ((B.U.setTop g).pushFrame (.throwing q)))
section Payer
variable {l : Launch} {R : Room} {p : Program} {e : Env} {below : List Frame} {s : State} {sargs : Array Value} {y : MethodName} {len W9 : Nat}
theorem vx_back {ws : List Cond} {rm : Room} {Pc : Array Value → State → Prop} {Qc : Array Value → State → Outcome → State → Prop} {XC : String → State → State → Prop} {mc ms : Nat} {free : Addr → Prop} {bytes : ByteArray} {maxL : Nat} {ret : Option FieldType}
    (hM : vx_Met l y ws rm Pc Qc XC mc ms free) (hblind : FrameBlind Pc) (hrc : rm.cells = mc) (hrs : rm.slots = ms)
    (hframes : rm.frames + 1 ≤ R.frames) (hlocals : W9 + (maxL + 11) + rm.locals ≤ R.locals)
    (hws : ∀ w ∈ ws, ∀ a' U, s.WarmedH U.vm → w.before a' U = true) (hcode : Cond.code y bytes maxL ret ∈ ws) (hinit : ∀ a' U, s.WarmedH U.vm → (Cond.initialized y.cls).before a' U = true) :
    vx_Back l R p e below s sargs y len W9 (PreOf R mc ms Pc) (PostOf Qc mc ms free) (vx_Post XC mc ms free) := by
  intro m meth c A g ig mk a X hg hsize hdg hW hn hp
  have h1 : (headSpec ws rm).pre.before a A.U = true := atoms_intro fun w hw => hws w hw _ _ X.warmed
  have h2 : (Cond.code y bytes maxL ret).before a A.U = true := hws _ hcode _ _ X.warmed
  have h3 : (Cond.initialized y.cls).before a A.U = true := hinit _ _ X.warmed
  have h4 : A.cells + (headSpec ws rm).room.cells ≤ R.cells := by rw [show (headSpec ws rm).room.cells = mc from hrc]; exact hp.1
  have h5 : A.slots + (headSpec ws rm).room.slots ≤ R.slots := by rw [show (headSpec ws rm).room.slots = ms from hrs]; exact hp.2.1
  have hPc : Pc a (A.U.calling g mk a) := hblind _ _ _ _ hp.2.2
  obtain ⟨U, Ls, c0, s0⟩ := A
  dsimp only [Pt.U, Pt.locs, Pt.cells, Pt.slots] at h1 h2 h3 h4 h5 X hn hPc ⊢
  obtain ⟨methY, cY, hmY, hcY, -, hlY, -, -, -, -⟩ := Cond.code_spec hn h2
  obtain ⟨kY, hkY, -⟩ := className_of_methodNamed hn
  have hinitY : kY.init = .initialized := Cond.initialized_spec (findClass_of_methodNamed hn) hkY h3
  have h : At U g.method c below := by rw [hg]; exact X.here
  have hlocals9 : W9 + (maxL + 11) + (headSpec ws rm).room.locals ≤ R.locals := hlocals
  have happ : (headSpec ws rm).appliesLoose y e.platform (U.calling g mk a) = true :=
    Spec.appliesLoose_calling (g := g) h hdg hn hkY hinitY
      (X.room_calling (g := g) (R' := (headSpec ws rm).room) hsize hmY hcY hframes (by rw [hlY]; omega) h4 h5) h1
  obtain ⟨mid, hmid⟩ := h.above
  have hfr : (U.setTop g).frames = (.java g :: mid) ++ below := by rw [State.frames_setTop' g h.top, hmid]; rfl
  obtain ⟨o, s₂, hsteps, -, hend, hq⟩ := Steps.callFree hM p X.admits X.cas X.clock (acts := []) hfr happ hPc trivial
  have hq' : vx_Q Qc XC mc ms free a (U.calling g mk a) o s₂ := hq
  rw [State.frames_setTop' g h.top] at hend
  obtain ⟨g₀, hg0⟩ := Option.isSome_iff_exists.mp h.top
  obtain ⟨r, hr⟩ := State.topJava?_eq_some.mp hg0
  have hr' : (({ U with heap := s₂.heap, slotsUsed := s₂.slotsUsed } : State).setVm s₂.vm).frames = .java g₀ :: r := hr
  rcases hq' with ⟨hqc, L, hfe, hL⟩ | ⟨q, rfl, E, ce, L, hx, hce, hcv, hcl, hW₂, hsm, hL⟩
  · obtain ⟨⟨v, rfl⟩, hW₂, e2, q2, q3, q4, q5, q6⟩ := id hfe
    have e3 : s₂ = ({ (U.calling g mk a).setFrames s₂.frames with heap := s₂.heap, slotsUsed := s₂.slotsUsed } : State).setVm s₂.vm := by
      have : s₂ = ({ s₂ with vm := (U.calling g mk a).vm } : State).setVm s₂.vm := rfl
      rw [e2] at this
      exact this
    obtain ⟨c₂, i₂, len₂, hc₂, hd₂, hf₂⟩ := hend
    have hW' : U.WarmedH s₂.vm := hW₂
    have hcc : c₂ = c := by
      have h1 : s₂.code? g.method = U.code? g.method := by
        rw [State.code?_eq, State.code?_eq, hW'.alike.method?]
      exact Option.some.inj (hc₂.symm.trans (h1.trans h.code))
    subst hcc
    have hlen : len₂ = len := by rw [hdg] at hd₂; cases hd₂; rfl
    subst hlen
    have hs₂ : s₂ = (({ U with heap := s₂.heap, slotsUsed := s₂.slotsUsed } : State).setVm s₂.vm).setTop { g with pc := g.pc + len₂, stack := v.toList ++ g.stack } := by
      refine e3.trans ?_
      rw [hf₂, State.calling_eq h.top, State.setFrames_setFrames, State.setTop_of_frames _ hr', hr]
      rfl
    have hsame : U.sameButNew ({ U with heap := s₂.heap, slotsUsed := s₂.slotsUsed } : State) L mc ms := by
      refine ⟨?_, q2, q3, q4, q5, q6⟩
      obtain ⟨t, ht, -⟩ := State.frames_cons hr
      show ({ U with heap := s₂.heap, slotsUsed := s₂.slotsUsed } : State) = { U.setFrames U.frames with heap := s₂.heap, slotsUsed := s₂.slotsUsed }
      rw [State.setFrames_self ht]
    subst hg
    refine Or.inl ⟨v, ⟨(({ U with heap := s₂.heap, slotsUsed := s₂.slotsUsed } : State).setVm s₂.vm), Ls ++ L, c0 + mc, s0 + ms⟩,
      ⟨X.admits, X.cas, X.clock, X.frames, X.room, X.hears, X.method, X.code, (X.here.setHeapUsed s₂.heap s₂.slotsUsed).setVm hW'.alike, X.tail, State.WarmedH.trans X.warmed hW', X.limits, X.bytes, X.same.trans (hsame.setVm s.vm)⟩,
      ⟨g, mk, s₂, L, rfl, rfl, hqc, rfl, hL, rfl, rfl⟩, ?_⟩
    show Steps p.tables e below _ ((({ U with heap := s₂.heap, slotsUsed := s₂.slotsUsed } : State).setVm s₂.vm).setTop { g with pc := g.pc + len₂, stack := v.toList ++ g.stack })
    rw [← hs₂]
    exact hsteps
  · obtain ⟨e2, q2, q3, q4, q5, q6⟩ := id hsm
    have e3 : s₂ = ({ (U.calling g mk a).setFrames s₂.frames with heap := s₂.heap, slotsUsed := s₂.slotsUsed } : State).setVm s₂.vm := by
      have : s₂ = ({ s₂ with vm := (U.calling g mk a).vm } : State).setVm s₂.vm := rfl
      rw [e2] at this
      exact this
    have hf₂ : s₂.frames = .throwing q :: .java g :: U.frames.tail := hend
    have hW' : U.WarmedH s₂.vm := hW₂
    have hs₂ : s₂ = ((({ U with heap := s₂.heap, slotsUsed := s₂.slotsUsed } : State).setVm s₂.vm).setTop g).pushFrame (.throwing q) := by
      refine e3.trans ?_
      rw [hf₂, State.calling_eq h.top, State.setFrames_setFrames, State.pushFrame, State.frames_setTop _ hr', State.setTop_of_frames _ hr', State.setFrames_setFrames, hr]
      rfl
    have hsame : U.sameButNew ({ U with heap := s₂.heap, slotsUsed := s₂.slotsUsed } : State) L mc ms := by
      refine ⟨?_, q2, q3, q4, q5, q6⟩
      obtain ⟨t, ht, -⟩ := State.frames_cons hr
      show ({ U with heap := s₂.heap, slotsUsed := s₂.slotsUsed } : State) = { U.setFrames U.frames with heap := s₂.heap, slotsUsed := s₂.slotsUsed }
      rw [State.setFrames_self ht]
    subst hg
    refine Or.inr ⟨q, ⟨(({ U with heap := s₂.heap, slotsUsed := s₂.slotsUsed } : State).setVm s₂.vm), Ls ++ L, c0 + mc, s0 + ms⟩,
      ⟨X.admits, X.cas, X.clock, X.frames, X.room, X.hears, X.method, X.code, (X.here.setHeapUsed s₂.heap s₂.slotsUsed).setVm hW'.alike, X.tail, State.WarmedH.trans X.warmed hW', X.limits, X.bytes, X.same.trans (hsame.setVm s.vm)⟩,
      ⟨g, mk, s₂, L, E, ce, rfl, rfl, hx, hce, hcv, hcl, rfl, hL, rfl, rfl⟩, ?_⟩
    show Steps p.tables e below _ (((({ U with heap := s₂.heap, slotsUsed := s₂.slotsUsed } : State).setVm s₂.vm).setTop g).pushFrame (.throwing q))
    rw [← hs₂]
    exact hsteps
end Payer
section Calls
variable {p : Program} {l : Launch} {e : Env} {R : Room} {s : State} {m : MethodId} {args : Array Value} {below : List Frame} {meth : Method} {c : Code} {T : State} {locs : List Loc} {cells slots : Nat}
theorem vx_callV (X : Stand p l e R s m args below meth c T locs cells slots) (hexec : p.tables.exec = Jvm.exec) {own C : String} {index : Nat} {y : MethodName} {bytes : ByteArray} {maxL : Nat} {ret : Option FieldType}
    (hown : s.vm.findClass own = some m.cls) (hlink : (Cond.methodLink own index y).before args s = true) (hinst : (Cond.instanceMethod y).before args s = true) (hsel : (Cond.selects C y y).before args s = true)
    (hcode : (Cond.code y bytes maxL ret).before args s = true) (hy : y.cls ≠ "java/lang/invoke/MethodHandle" ∧ y.cls ≠ "java/lang/invoke/VarHandle")
    {W9 : Nat} {Pre : Pt → Array Value → Prop} {Post : Pt → Array Value → Option Value → Pt → Prop} {PostX : Pt → Array Value → Addr → Pt → Prop} (hK : vx_Back l R p e below s args y 3 W9 Pre Post PostX)
    {b : Addr} {cellB : Cell} (hcell : T.heap[b]? = some cellB) (hobj : cellB.vm.isStatics = false) (hcls : s.vm.findClass C = some cellB.cls)
    {g : JFrame} (hg : g.method = m) (hsize : g.locals.size = c.maxLocals) {argsL rest : List Value} (hlen : ∀ sig, parseMethodDescriptor y.desc = some sig → argsL.length = sig.parameters.length)
    (hstack : g.stack = argsL.reverse ++ .ref b :: rest) (hW : 2 * g.monitorRoom + (rest.map fun v => v.category).sum ≤ W9) (hdg : decode c.code g.pc = .ok (.invokevirtual index, 3))
    (hpre : ∀ vm₁, s.WarmedH vm₁ → Pre ⟨T.setVm vm₁, locs, cells, slots⟩ (Value.ref b :: argsL).toArray) :
    (∃ (v : Option Value) (vm₁ : Vm) (B : Pt), s.WarmedH vm₁ ∧ Stand p l e R s m args below meth c B.U B.locs B.cells B.slots ∧ Post ⟨T.setVm vm₁, locs, cells, slots⟩ (Value.ref b :: argsL).toArray v B ∧
      ∀ target, Steps p.tables e below (B.U.setTop { g with pc := g.pc + 3, stack := v.toList ++ rest }) target → Steps p.tables e below (T.setTop g) target) ∨
    (∃ (q : Addr) (vm₁ : Vm) (B : Pt), s.WarmedH vm₁ ∧ Stand p l e R s m args below meth c B.U B.locs B.cells B.slots ∧ PostX ⟨T.setVm vm₁, locs, cells, slots⟩ (Value.ref b :: argsL).toArray q B ∧
      Steps p.tables e below (T.setTop g) ((B.U.setTop { g with stack := rest }).pushFrame (.throwing q))) := by
  obtain ⟨mk, methM, hnamed, hmethM, hstM, habM⟩ := Cond.instanceMethod_spec hinst
  obtain ⟨methM', cM, hmethM', -, -, -, -, -, -, hsigM⟩ := Cond.code_spec hnamed hcode
  cases hmethM.symm.trans hmethM'
  obtain ⟨c2, r2, m2, q1, q2, q3, q4, kP, hkP, hkPi⟩ := Cond.selects_spec hsel
  cases hcls.symm.trans q1
  cases (State.methodFound?_of_named hnamed hy).symm.trans q2
  cases hnamed.symm.trans q3
  have hselP : selectMethod e.platform s.vm cellB.cls mk = .method mk := by rw [Launch.admits_selectMethod X.admits]; exact q4
  obtain ⟨vm₁, X₁, hstep₁⟩ := X.invokevirtual hexec hown hlink hnamed hmethM hstM hkP hkPi hy (a := b) (cell := cellB) hcell
    (fun z h => by rw [h] at hobj; cases hobj) hselP hmethM habM hkP hkPi (g := g) hg (argsL := argsL) (rest := rest) (hlen _ hsigM) hstack hdg
  rcases hK m meth c ⟨T.setVm vm₁, locs, cells, slots⟩ { g with stack := rest } (.invokevirtual index) mk (Value.ref b :: argsL).toArray X₁ hg hsize hdg hW (X₁.named hnamed) (hpre vm₁ X₁.warmed) with ⟨v, B, X', hpost, hsteps⟩ | ⟨q, B, X', hpost, hsteps⟩
  · exact Or.inl ⟨v, vm₁, B, X₁.warmed, X', hpost, fun target h => hstep₁ _ fun acts => by rw [doInvoke_state]; exact hsteps.trans h⟩
  · exact Or.inr ⟨q, vm₁, B, X₁.warmed, X', hpost, hstep₁ _ fun acts => by rw [doInvoke_state]; exact hsteps⟩
theorem vx_callS (X : Stand p l e R s m args below meth c T locs cells slots) (hexec : p.tables.exec = Jvm.exec) {own : String} {index : Nat} {y : MethodName} {bytes : ByteArray} {maxL : Nat} {ret : Option FieldType}
    (hown : s.vm.findClass own = some m.cls) (hlink : (Cond.methodLink own index y).before args s = true) (hstat : (Cond.static y).before args s = true) (hinit : (Cond.initialized y.cls).before args s = true)
    (hcode : (Cond.code y bytes maxL ret).before args s = true) (hy : y.cls ≠ "java/lang/invoke/MethodHandle" ∧ y.cls ≠ "java/lang/invoke/VarHandle")
    {W9 : Nat} {Pre : Pt → Array Value → Prop} {Post : Pt → Array Value → Option Value → Pt → Prop} {PostX : Pt → Array Value → Addr → Pt → Prop} (hK : vx_Back l R p e below s args y 3 W9 Pre Post PostX)
    {g : JFrame} (hg : g.method = m) (hsize : g.locals.size = c.maxLocals) {argsL rest : List Value} (hlen : ∀ sig, parseMethodDescriptor y.desc = some sig → argsL.length = sig.parameters.length)
    (hstack : g.stack = argsL.reverse ++ rest) (hW : 2 * g.monitorRoom + (rest.map fun v => v.category).sum ≤ W9) (hdg : decode c.code g.pc = .ok (.invokestatic index, 3))
    (hpre : ∀ vm₁, s.WarmedH vm₁ → Pre ⟨T.setVm vm₁, locs, cells, slots⟩ argsL.toArray) :
    (∃ (v : Option Value) (vm₁ : Vm) (B : Pt), s.WarmedH vm₁ ∧ Stand p l e R s m args below meth c B.U B.locs B.cells B.slots ∧ Post ⟨T.setVm vm₁, locs, cells, slots⟩ argsL.toArray v B ∧
      ∀ target, Steps p.tables e below (B.U.setTop { g with pc := g.pc + 3, stack := v.toList ++ rest }) target → Steps p.tables e below (T.setTop g) target) ∨
    (∃ (q : Addr) (vm₁ : Vm) (B : Pt), s.WarmedH vm₁ ∧ Stand p l e R s m args below meth c B.U B.locs B.cells B.slots ∧ PostX ⟨T.setVm vm₁, locs, cells, slots⟩ argsL.toArray q B ∧
      Steps p.tables e below (T.setTop g) ((B.U.setTop { g with stack := rest }).pushFrame (.throwing q))) := by
  obtain ⟨mk, hnamed⟩ := Cond.code_named hcode
  obtain ⟨methM, cM, hmethM, -, -, -, -, -, -, hsigM⟩ := Cond.code_spec hnamed hcode
  have hstatic : methM.isStatic = true := Cond.static_spec hnamed hmethM hstat
  obtain ⟨kP, hkP, -⟩ := className_of_methodNamed hnamed
  have hinitP : kP.init = .initialized := Cond.initialized_spec (findClass_of_methodNamed hnamed) hkP hinit
  obtain ⟨vm₁, X₁, hstep₁⟩ := X.invokestatic hexec hown hlink hnamed hmethM hstatic hkP hinitP hy (g := g) hg (argsL := argsL) (rest := rest) (hlen _ hsigM) hstack hdg
  rcases hK m meth c ⟨T.setVm vm₁, locs, cells, slots⟩ { g with stack := rest } (.invokestatic index) mk argsL.toArray X₁ hg hsize hdg hW (X₁.named hnamed) (hpre vm₁ X₁.warmed) with ⟨v, B, X', hpost, hsteps⟩ | ⟨q, B, X', hpost, hsteps⟩
  · exact Or.inl ⟨v, vm₁, B, X₁.warmed, X', hpost, fun target h => hstep₁ _ fun acts => by rw [doInvoke_state]; exact hsteps.trans h⟩
  · exact Or.inr ⟨q, vm₁, B, X₁.warmed, X', hpost, hstep₁ _ fun acts => by rw [doInvoke_state]; exact hsteps⟩
end Calls
theorem vx_cls {s : State} {T : State} {vm₁ : Vm} {E : String} {k : ClassId} (hW : s.WarmedH vm₁) (h : (T.setVm vm₁).vm.findClass E = some k) : s.vm.findClass E = some k := by
  have h1 : vm₁.findClass E = some k := h
  rw [hW.alike.findClass] at h1
  exact h1
/-- the method's frame g, with q thrown over it -/
def vx_W (p : Program) (l : Launch) (e : Env) (R : Room) (s : State) (m : MethodId) (args : Array Value) (below : List Frame) (meth : Method) (c : Code) (H : Heap) (locs : List Loc) (cells slots : Nat) (Q : State → Prop) (g : JFrame) (q : Addr) : Prop :=
  ∀ T : State, T.heap = H → Stand p l e R s m args below meth c T locs cells slots → ∃ t, Steps p.tables e below ((T.setTop g).pushFrame (.throwing q)) t ∧ Q t
def vx_Run (p : Program) (l : Launch) (e : Env) (R : Room) (s : State) (m : MethodId) (args : Array Value) (below : List Frame) (meth : Method) (c : Code) (H : Heap) (locs : List Loc) (cells slots mc ms : Nat) (g : JFrame) (rest : List Value) (Qa : State → Outcome → State → Prop) (XC : String → State → State → Prop) (free : Addr → Prop) : Prop :=
  ∀ T : State, T.heap = H → Stand p l e R s m args below meth c T locs cells slots →
    (∃ (v : Option Value) (st₀ t T' : State) (L : List Loc), st₀.heap = H ∧ Stand p l e R s m args below meth c T' (locs ++ L) (cells + mc) (slots + ms) ∧ (∀ q ∈ L, free q.base) ∧ T'.heap = t.heap ∧ T'.vm = t.vm ∧ Qa st₀ (.returned v) t ∧
      Goes p e below T g T' { g with pc := g.pc + 3, stack := v.toList ++ rest }) ∨
    (∃ (q : Addr) (st₀ t T' : State) (L : List Loc) (E : String) (ce : Cell), st₀.heap = H ∧ Stand p l e R s m args below meth c T' (locs ++ L) (cells + mc) (slots + ms) ∧ (∀ z ∈ L, free z.base) ∧ T'.heap = t.heap ∧ T'.vm = t.vm ∧ XC E st₀ t ∧ t.heap[q]? = some ce ∧ ce.vm = .none ∧ s.vm.findClass E = some ce.cls ∧
      Steps p.tables e below (T.setTop g) ((T'.setTop { g with stack := rest }).pushFrame (.throwing q)))
def vx_X {S : Type} (px : S → Prop) (B : String → S → State → Prop) (A : Nat → Prop) : String → State → State → Prop := fun E st t => ∃ u : S, px u ∧ B E u t ∧ va_F A st t
section Runs
variable {p : Program} {l : Launch} {e : Env} {R : Room} {s : State} {m : MethodId} {args : Array Value} {below : List Frame} {meth : Method} {c : Code} {H : Heap} {locs : List Loc} {cells slots : Nat}
variable {y : MethodName} {bytes cc : ByteArray} {maxL nL mc ms n index : Nat} {ret : Option FieldType} {ws : List Cond} {rm : Room} {Pc : Array Value → State → Prop} {Qc : Array Value → State → Outcome → State → Prop} {XC : String → State → State → Prop} {free : Addr → Prop} {Ts : List Cond} {own C : String} {b : Addr} {As rest : List Value} {g : JFrame}
theorem vx_callBack (cb : CallB R s args own index y bytes maxL ret ws rm mc ms n) (hM : vx_Met l y ws rm Pc Qc XC mc ms free) (hbl : FrameBlind Pc) : vx_Back l R p e below s args y 3 8 (PreOf R mc ms Pc) (PostOf Qc mc ms free) (vx_Post XC mc ms free) := by
  obtain ⟨hrc, hrs, hfr, hlo, hws, hcw, -, hini, -⟩ := cb
  exact vx_back (bytes := bytes) (maxL := maxL) (ret := ret) hM hbl hrc hrs hfr hlo hws hcw (fun a' U hW => word_at hW (Or.inl (by first | rfl | simp [Cond.onTables, Cond.keeps, Cond.steady])) hini)
theorem vx_runV (S : CallFix p m c cc nL s args Ts own) (hM : vx_Met l y ws rm Pc Qc XC mc ms free) (cw : CallW R s args own C index y bytes maxL ret ws rm mc ms n) (hp : PreV s H C b Pc As)
    (hg : g.method = m) (hn : As.length = n) (hsize : g.locals.size = nL) (hstack : g.stack = As.reverse ++ .ref b :: rest) (hW : 2 * g.monitorRoom + (rest.map fun v => v.category).sum ≤ 8) (hdg : decode cc g.pc = .ok (.invokevirtual index, 3)) (hf : cells + mc ≤ R.cells ∧ slots + ms ≤ R.slots) :
    vx_Run p l e R s m args below meth c H locs cells slots mc ms g rest (Qc (Value.ref b :: As).toArray) XC free := by
  have hK : vx_Back l R p e below s args y 3 8 (PreOf R mc ms Pc) (PostOf Qc mc ms free) (vx_Post XC mc ms free) := vx_callBack cw.1 hM hp.1
  obtain ⟨⟨-, -, -, -, -, -, hcode, -, hy, hlen, hl⟩, hin, hse⟩ := cw
  obtain ⟨hx, hb, hml, ho, -⟩ := S
  obtain ⟨-, ⟨cellB, hcB, hoB, hclB⟩, hPc⟩ := hp
  intro T hT X
  rcases vx_callV X hx (C := C) (bytes := bytes) (maxL := maxL) (ret := ret) ho hl hin hse hcode hy hK (by rw [hT]; exact hcB) hoB hclB hg (hsize.trans hml.symm) (argsL := As) (rest := rest) (fun sig h => hn.trans (hlen sig h)) hstack hW (by rw [hb]; exact hdg)
    (fun vm₁ hW₁ => ⟨hf.1, hf.2, hPc (T.setVm vm₁) hT hW₁⟩) with ⟨v, vm₁, ⟨U', l2, c2, s2⟩, hW₁, X', ⟨g', mk, t, L, e1, e2, hq, h1, hL, h2, h3⟩, st⟩ | ⟨q, vm₁, ⟨U', l2, c2, s2⟩, hW₁, X', ⟨g', mk, t, L, E, ce, e1, e2, hq, hce, hcv, hcl, h1, hL, h2, h3⟩, st⟩
  · dsimp only [Pt.U, Pt.locs, Pt.cells, Pt.slots] at X' e1 e2 h1 h2 h3 st
    subst h1; subst h2; subst h3
    exact Or.inl ⟨v, (T.setVm vm₁).calling g' mk (Value.ref b :: As).toArray, t, U', L, hT, X', hL, e1, e2, hq, st⟩
  · dsimp only [Pt.U, Pt.locs, Pt.cells, Pt.slots] at X' e1 e2 h1 h2 h3 st hcl
    subst h1; subst h2; subst h3
    exact Or.inr ⟨q, (T.setVm vm₁).calling g' mk (Value.ref b :: As).toArray, t, U', L, E, ce, hT, X', hL, e1, e2, hq, hce, hcv, vx_cls hW₁ hcl, st⟩
theorem vx_runS (S : CallFix p m c cc nL s args Ts own) (hM : vx_Met l y ws rm Pc Qc XC mc ms free) (cw : CallB R s args own index y bytes maxL ret ws rm mc ms n ∧ (Cond.static y).before args s = true) (hp : PreS s H Pc As)
    (hg : g.method = m) (hn : As.length = n) (hsize : g.locals.size = nL) (hstack : g.stack = As.reverse ++ rest) (hW : 2 * g.monitorRoom + (rest.map fun v => v.category).sum ≤ 8) (hdg : decode cc g.pc = .ok (.invokestatic index, 3)) (hf : cells + mc ≤ R.cells ∧ slots + ms ≤ R.slots) :
    vx_Run p l e R s m args below meth c H locs cells slots mc ms g rest (Qc As.toArray) XC free := by
  have hK : vx_Back l R p e below s args y 3 8 (PreOf R mc ms Pc) (PostOf Qc mc ms free) (vx_Post XC mc ms free) := vx_callBack cw.1 hM hp.1
  obtain ⟨⟨-, -, -, -, -, -, hcode, hini, hy, hlen, hl⟩, hstt⟩ := cw
  obtain ⟨hx, hb, hml, ho, -⟩ := S
  intro T hT X
  rcases vx_callS X hx (bytes := bytes) (maxL := maxL) (ret := ret) ho hl hstt hini hcode hy hK hg (hsize.trans hml.symm) (argsL := As) (rest := rest) (fun sig h => hn.trans (hlen sig h)) hstack hW (by rw [hb]; exact hdg)
    (fun vm₁ hW₁ => ⟨hf.1, hf.2, hp.2 (T.setVm vm₁) hT hW₁⟩) with ⟨v, vm₁, ⟨U', l2, c2, s2⟩, hW₁, X', ⟨g', mk, t, L, e1, e2, hq, h1, hL, h2, h3⟩, st⟩ | ⟨q, vm₁, ⟨U', l2, c2, s2⟩, hW₁, X', ⟨g', mk, t, L, E, ce, e1, e2, hq, hce, hcv, hcl, h1, hL, h2, h3⟩, st⟩
  · dsimp only [Pt.U, Pt.locs, Pt.cells, Pt.slots] at X' e1 e2 h1 h2 h3 st
    subst h1; subst h2; subst h3
    exact Or.inl ⟨v, (T.setVm vm₁).calling g' mk As.toArray, t, U', L, hT, X', hL, e1, e2, hq, st⟩
  · dsimp only [Pt.U, Pt.locs, Pt.cells, Pt.slots] at X' e1 e2 h1 h2 h3 st hcl
    subst h1; subst h2; subst h3
    exact Or.inr ⟨q, (T.setVm vm₁).calling g' mk As.toArray, t, U', L, E, ce, hT, X', hL, e1, e2, hq, hce, hcv, vx_cls hW₁ hcl, st⟩
end Runs
section Rows
variable {p : Program} {l : Launch} {e : Env} {R : Room} {s : State} {m : MethodId} {args : Array Value} {below : List Frame} {meth : Method} {c : Code} {H : Heap} {locs : List Loc} {cells slots : Nat} {Q : State → Prop}
variable {mc ms : Nat} {free : Addr → Prop} {A0 A1 : Nat → Prop} {H0 : Heap} {a : Array Value} {pc : Nat} {ls : Array Slot} {st0 rest : List Value}
theorem vx_keep {st₀ t T' : State} {L : List Loc} (h0 : st₀.heap = H) (e1 : T'.heap = t.heap) (hS : va_S A0 H0 H locs) (hA : ∀ q, q < H.size → A1 q → A0 q) (hf : ∀ q, free q → A0 q) (hL : ∀ q ∈ L, free q.base) (hF : va_F A1 st₀ t) :
    H.size ≤ T'.heap.size ∧ (∀ q : Nat, q < H.size → ¬ A1 q → T'.heap[q]? = H[q]?) ∧ va_S A0 H0 T'.heap (locs ++ L) := by
  obtain ⟨hz, hk⟩ := hF
  rw [h0] at hz hk
  exact ⟨by rw [e1]; exact hz, fun q h1 h2 => by rw [e1]; exact hk q h1 h2,
    ⟨Nat.le_trans hS.1 (by rw [e1]; exact hz), fun q h1 h2 => by rw [e1, hk q (Nat.lt_of_lt_of_le h1 hS.1) (fun z => h2 (hA q (Nat.lt_of_lt_of_le h1 hS.1) z))]; exact hS.2.1 q h1 h2, fun q hq => by
      rcases List.mem_append.mp hq with h | h
      · exact hS.2.2 q h
      · exact hf _ (hL q h)⟩⟩
theorem vx_calli {S SX : Type} {post : Int32 → S → Prop} {px : SX → Prop} {B : S → State → Prop} {BX : String → SX → State → Prop} {AX : Nat → Prop} (hr : vx_Run p l e R s m args below meth c H locs cells slots mc ms (F0 m pc ls st0) rest (va_Qi post B A1 a) (vx_X px BX AX) free) (hS : va_S A0 H0 H locs) (hA : ∀ q, q < H.size → A1 q → A0 q) (hf : ∀ q, free q → A0 q) (hAX : ∀ q, q < H.size → AX q → A0 q)
    (kx : ∀ (E : String) (ce : Cell) (q9 : Addr) (u : SX) (t : State) (H1 : Heap) (locs1 : List Loc), t.heap = H1 → s.vm.Alike t.vm → px u → BX E u t → H.size ≤ H1.size → (∀ q : Nat, q < H.size → ¬ AX q → H1[q]? = H[q]?) → va_S A0 H0 H1 locs1 → H1[q9]? = some ce → ce.vm = .none → s.vm.findClass E = some ce.cls → vx_W p l e R s m args below meth c H1 locs1 (cells + mc) (slots + ms) Q (F0 m pc ls rest) q9)
    (kk : ∀ (r : Int32) (u : S) (t : State) (H1 : Heap) (locs1 : List Loc), t.heap = H1 → s.vm.Alike t.vm → post r u → B u t → H.size ≤ H1.size → (∀ q : Nat, q < H.size → ¬ A1 q → H1[q]? = H[q]?) → va_S A0 H0 H1 locs1 → W p l e R s m args below meth c H1 locs1 (cells + mc) (slots + ms) Q (F0 m (pc + 3) ls (.int r :: rest))) : W p l e R s m args below meth c H locs cells slots Q (F0 m pc ls st0) := by
  intro T hT X
  rcases hr T hT X with ⟨v, st₀, t, T', L, h0, X', hL, e1, e2, ⟨⟨r, u, hv, hp, hb⟩, hF⟩, st⟩ | ⟨q, st₀, t, T', L, E, ce, h0, X', hL, e1, e2, ⟨u, hp, hb, hF⟩, hce, hcv, hcl, st⟩
  · cases hv
    obtain ⟨k1, k2, k3⟩ := vx_keep h0 e1 hS hA hf hL hF
    obtain ⟨t2, a1, b1⟩ := kk r u t T'.heap (locs ++ L) e1.symm (by rw [← e2]; exact X'.warmed.alike) hp hb k1 k2 k3 T' rfl X'
    exact ⟨t2, st t2 a1, b1⟩
  · obtain ⟨k1, k2, k3⟩ := vx_keep h0 e1 hS hAX hf hL hF
    obtain ⟨t2, a1, b1⟩ := kx E ce q u t T'.heap (locs ++ L) e1.symm (by rw [← e2]; exact X'.warmed.alike) hp hb k1 k2 k3 (by rw [e1]; exact hce) hcv hcl T' rfl X'
    exact ⟨t2, st.trans a1, b1⟩
theorem vx_calll {S SX : Type} {post : Int64 → S → Prop} {px : SX → Prop} {B : S → State → Prop} {BX : String → SX → State → Prop} {AX : Nat → Prop} (hr : vx_Run p l e R s m args below meth c H locs cells slots mc ms (F0 m pc ls st0) rest (va_Ql post B A1 a) (vx_X px BX AX) free) (hS : va_S A0 H0 H locs) (hA : ∀ q, q < H.size → A1 q → A0 q) (hf : ∀ q, free q → A0 q) (hAX : ∀ q, q < H.size → AX q → A0 q)
    (kx : ∀ (E : String) (ce : Cell) (q9 : Addr) (u : SX) (t : State) (H1 : Heap) (locs1 : List Loc), t.heap = H1 → s.vm.Alike t.vm → px u → BX E u t → H.size ≤ H1.size → (∀ q : Nat, q < H.size → ¬ AX q → H1[q]? = H[q]?) → va_S A0 H0 H1 locs1 → H1[q9]? = some ce → ce.vm = .none → s.vm.findClass E = some ce.cls → vx_W p l e R s m args below meth c H1 locs1 (cells + mc) (slots + ms) Q (F0 m pc ls rest) q9)
    (kk : ∀ (r : Int64) (u : S) (t : State) (H1 : Heap) (locs1 : List Loc), t.heap = H1 → s.vm.Alike t.vm → post r u → B u t → H.size ≤ H1.size → (∀ q : Nat, q < H.size → ¬ A1 q → H1[q]? = H[q]?) → va_S A0 H0 H1 locs1 → W p l e R s m args below meth c H1 locs1 (cells + mc) (slots + ms) Q (F0 m (pc + 3) ls (.long r :: rest))) : W p l e R s m args below meth c H locs cells slots Q (F0 m pc ls st0) := by
  intro T hT X
  rcases hr T hT X with ⟨v, st₀, t, T', L, h0, X', hL, e1, e2, ⟨⟨r, u, hv, hp, hb⟩, hF⟩, st⟩ | ⟨q, st₀, t, T', L, E, ce, h0, X', hL, e1, e2, ⟨u, hp, hb, hF⟩, hce, hcv, hcl, st⟩
  · cases hv
    obtain ⟨k1, k2, k3⟩ := vx_keep h0 e1 hS hA hf hL hF
    obtain ⟨t2, a1, b1⟩ := kk r u t T'.heap (locs ++ L) e1.symm (by rw [← e2]; exact X'.warmed.alike) hp hb k1 k2 k3 T' rfl X'
    exact ⟨t2, st t2 a1, b1⟩
  · obtain ⟨k1, k2, k3⟩ := vx_keep h0 e1 hS hAX hf hL hF
    obtain ⟨t2, a1, b1⟩ := kx E ce q u t T'.heap (locs ++ L) e1.symm (by rw [← e2]; exact X'.warmed.alike) hp hb k1 k2 k3 (by rw [e1]; exact hce) hcv hcl T' rfl X'
    exact ⟨t2, st.trans a1, b1⟩
theorem vx_callf {S SX : Type} {post : UInt32 → S → Prop} {px : SX → Prop} {B : S → State → Prop} {BX : String → SX → State → Prop} {AX : Nat → Prop} (hr : vx_Run p l e R s m args below meth c H locs cells slots mc ms (F0 m pc ls st0) rest (va_Qf post B A1 a) (vx_X px BX AX) free) (hS : va_S A0 H0 H locs) (hA : ∀ q, q < H.size → A1 q → A0 q) (hf : ∀ q, free q → A0 q) (hAX : ∀ q, q < H.size → AX q → A0 q)
    (kx : ∀ (E : String) (ce : Cell) (q9 : Addr) (u : SX) (t : State) (H1 : Heap) (locs1 : List Loc), t.heap = H1 → s.vm.Alike t.vm → px u → BX E u t → H.size ≤ H1.size → (∀ q : Nat, q < H.size → ¬ AX q → H1[q]? = H[q]?) → va_S A0 H0 H1 locs1 → H1[q9]? = some ce → ce.vm = .none → s.vm.findClass E = some ce.cls → vx_W p l e R s m args below meth c H1 locs1 (cells + mc) (slots + ms) Q (F0 m pc ls rest) q9)
    (kk : ∀ (r : UInt32) (u : S) (t : State) (H1 : Heap) (locs1 : List Loc), t.heap = H1 → s.vm.Alike t.vm → post r u → B u t → H.size ≤ H1.size → (∀ q : Nat, q < H.size → ¬ A1 q → H1[q]? = H[q]?) → va_S A0 H0 H1 locs1 → W p l e R s m args below meth c H1 locs1 (cells + mc) (slots + ms) Q (F0 m (pc + 3) ls (.float r :: rest))) : W p l e R s m args below meth c H locs cells slots Q (F0 m pc ls st0) := by
  intro T hT X
  rcases hr T hT X with ⟨v, st₀, t, T', L, h0, X', hL, e1, e2, ⟨⟨r, u, hv, hp, hb⟩, hF⟩, st⟩ | ⟨q, st₀, t, T', L, E, ce, h0, X', hL, e1, e2, ⟨u, hp, hb, hF⟩, hce, hcv, hcl, st⟩
  · cases hv
    obtain ⟨k1, k2, k3⟩ := vx_keep h0 e1 hS hA hf hL hF
    obtain ⟨t2, a1, b1⟩ := kk r u t T'.heap (locs ++ L) e1.symm (by rw [← e2]; exact X'.warmed.alike) hp hb k1 k2 k3 T' rfl X'
    exact ⟨t2, st t2 a1, b1⟩
  · obtain ⟨k1, k2, k3⟩ := vx_keep h0 e1 hS hAX hf hL hF
    obtain ⟨t2, a1, b1⟩ := kx E ce q u t T'.heap (locs ++ L) e1.symm (by rw [← e2]; exact X'.warmed.alike) hp hb k1 k2 k3 (by rw [e1]; exact hce) hcv hcl T' rfl X'
    exact ⟨t2, st.trans a1, b1⟩
theorem vx_calld {S SX : Type} {post : UInt64 → S → Prop} {px : SX → Prop} {B : S → State → Prop} {BX : String → SX → State → Prop} {AX : Nat → Prop} (hr : vx_Run p l e R s m args below meth c H locs cells slots mc ms (F0 m pc ls st0) rest (va_Qd post B A1 a) (vx_X px BX AX) free) (hS : va_S A0 H0 H locs) (hA : ∀ q, q < H.size → A1 q → A0 q) (hf : ∀ q, free q → A0 q) (hAX : ∀ q, q < H.size → AX q → A0 q)
    (kx : ∀ (E : String) (ce : Cell) (q9 : Addr) (u : SX) (t : State) (H1 : Heap) (locs1 : List Loc), t.heap = H1 → s.vm.Alike t.vm → px u → BX E u t → H.size ≤ H1.size → (∀ q : Nat, q < H.size → ¬ AX q → H1[q]? = H[q]?) → va_S A0 H0 H1 locs1 → H1[q9]? = some ce → ce.vm = .none → s.vm.findClass E = some ce.cls → vx_W p l e R s m args below meth c H1 locs1 (cells + mc) (slots + ms) Q (F0 m pc ls rest) q9)
    (kk : ∀ (r : UInt64) (u : S) (t : State) (H1 : Heap) (locs1 : List Loc), t.heap = H1 → s.vm.Alike t.vm → post r u → B u t → H.size ≤ H1.size → (∀ q : Nat, q < H.size → ¬ A1 q → H1[q]? = H[q]?) → va_S A0 H0 H1 locs1 → W p l e R s m args below meth c H1 locs1 (cells + mc) (slots + ms) Q (F0 m (pc + 3) ls (.double r :: rest))) : W p l e R s m args below meth c H locs cells slots Q (F0 m pc ls st0) := by
  intro T hT X
  rcases hr T hT X with ⟨v, st₀, t, T', L, h0, X', hL, e1, e2, ⟨⟨r, u, hv, hp, hb⟩, hF⟩, st⟩ | ⟨q, st₀, t, T', L, E, ce, h0, X', hL, e1, e2, ⟨u, hp, hb, hF⟩, hce, hcv, hcl, st⟩
  · cases hv
    obtain ⟨k1, k2, k3⟩ := vx_keep h0 e1 hS hA hf hL hF
    obtain ⟨t2, a1, b1⟩ := kk r u t T'.heap (locs ++ L) e1.symm (by rw [← e2]; exact X'.warmed.alike) hp hb k1 k2 k3 T' rfl X'
    exact ⟨t2, st t2 a1, b1⟩
  · obtain ⟨k1, k2, k3⟩ := vx_keep h0 e1 hS hAX hf hL hF
    obtain ⟨t2, a1, b1⟩ := kx E ce q u t T'.heap (locs ++ L) e1.symm (by rw [← e2]; exact X'.warmed.alike) hp hb k1 k2 k3 (by rw [e1]; exact hce) hcv hcl T' rfl X'
    exact ⟨t2, st.trans a1, b1⟩
theorem vx_callv {S SX : Type} {post : S → Prop} {px : SX → Prop} {B : S → State → Prop} {BX : String → SX → State → Prop} {AX : Nat → Prop} (hr : vx_Run p l e R s m args below meth c H locs cells slots mc ms (F0 m pc ls st0) rest (va_Qv post B A1 a) (vx_X px BX AX) free) (hS : va_S A0 H0 H locs) (hA : ∀ q, q < H.size → A1 q → A0 q) (hf : ∀ q, free q → A0 q) (hAX : ∀ q, q < H.size → AX q → A0 q)
    (kx : ∀ (E : String) (ce : Cell) (q9 : Addr) (u : SX) (t : State) (H1 : Heap) (locs1 : List Loc), t.heap = H1 → s.vm.Alike t.vm → px u → BX E u t → H.size ≤ H1.size → (∀ q : Nat, q < H.size → ¬ AX q → H1[q]? = H[q]?) → va_S A0 H0 H1 locs1 → H1[q9]? = some ce → ce.vm = .none → s.vm.findClass E = some ce.cls → vx_W p l e R s m args below meth c H1 locs1 (cells + mc) (slots + ms) Q (F0 m pc ls rest) q9)
    (kk : ∀ (u : S) (t : State) (H1 : Heap) (locs1 : List Loc), t.heap = H1 → s.vm.Alike t.vm → post u → B u t → H.size ≤ H1.size → (∀ q : Nat, q < H.size → ¬ A1 q → H1[q]? = H[q]?) → va_S A0 H0 H1 locs1 → W p l e R s m args below meth c H1 locs1 (cells + mc) (slots + ms) Q (F0 m (pc + 3) ls (rest))) : W p l e R s m args below meth c H locs cells slots Q (F0 m pc ls st0) := by
  intro T hT X
  rcases hr T hT X with ⟨v, st₀, t, T', L, h0, X', hL, e1, e2, ⟨⟨u, hv, hp, hb⟩, hF⟩, st⟩ | ⟨q, st₀, t, T', L, E, ce, h0, X', hL, e1, e2, ⟨u, hp, hb, hF⟩, hce, hcv, hcl, st⟩
  · cases hv
    obtain ⟨k1, k2, k3⟩ := vx_keep h0 e1 hS hA hf hL hF
    obtain ⟨t2, a1, b1⟩ := kk u t T'.heap (locs ++ L) e1.symm (by rw [← e2]; exact X'.warmed.alike) hp hb k1 k2 k3 T' rfl X'
    exact ⟨t2, st t2 a1, b1⟩
  · obtain ⟨k1, k2, k3⟩ := vx_keep h0 e1 hS hAX hf hL hF
    obtain ⟨t2, a1, b1⟩ := kx E ce q u t T'.heap (locs ++ L) e1.symm (by rw [← e2]; exact X'.warmed.alike) hp hb k1 k2 k3 (by rw [e1]; exact hce) hcv hcl T' rfl X'
    exact ⟨t2, st.trans a1, b1⟩
/-- caught by the row x of this method's table; the rows ahead don't take it -/
theorem vx_catch {own name : String} {E : String} {ce : Cell} {q : Addr} (hown : s.vm.findClass own = some m.cls) (pre : List ExceptionTableEntry) (x : ExceptionTableEntry) (suf : List ExceptionTableEntry) (hsplit : c.exceptionTable.toList = pre ++ x :: suf)
    (hpass : ∀ z ∈ pre, covers z pc = false ∨ (z.catchType ≠ 0 ∧ ∃ nm : String, (Cond.classLink own z.catchType nm).before args s = true ∧ va_Nc E nm s)) (hx : covers x pc = true) (h0 : x.catchType ≠ 0)
    (hlink : (Cond.classLink own x.catchType name).before args s = true) (hcast : (Cond.castable E name).before args s = true) (hcell : H[q]? = some ce) (hv : ce.vm = .none) (hcl : s.vm.findClass E = some ce.cls)
    (kk : W p l e R s m args below meth c H locs cells slots Q (F0 m x.handlerPc ls [.ref q])) : vx_W p l e R s m args below meth c H locs cells slots Q (F0 m pc ls rest) q := by
  intro T hT X
  have hpl : e.platform.magicAccessors = ({} : Platform).magicAccessors := by rw [X.admits.platform]
  obtain ⟨c3, c4, hc3, hc4, hasg⟩ := Cond.castable_spec hcast
  cases Option.some.inj (hc3.symm.trans hcl)
  obtain ⟨c5, hc5, hcl5⟩ := Cond.classLink_spec hown hlink e.platform hpl
  cases Option.some.inj (hc4.symm.trans hc5)
  obtain ⟨vm', X', st⟩ := X.thenCaughtThrough q (g := F0 m pc ls rest) rfl (Steps.refl _) (by rw [hT]; exact hcell) (by rw [hv]; rfl) (by obtain ⟨k9, h9, -⟩ := Vm.findClass_spec hcl; exact ⟨k9, h9⟩) pre x suf hsplit
    (fun z hz => by
      rcases hpass z hz with h | ⟨hz0, nm, hl1, hn1⟩
      · exact Or.inl h
      · obtain ⟨c6, hc6, hcl6⟩ := Cond.classLink_spec hown hl1 e.platform hpl
        obtain ⟨a8, b8, h1, h2, h3⟩ := hn1
        cases Option.some.inj (h1.symm.trans hcl)
        cases Option.some.inj (h2.symm.trans hc6)
        exact Or.inr ⟨hz0, _, hcl6, h3⟩) hx (Or.inr ⟨h0, c4, hcl5, hasg⟩)
  obtain ⟨t, a1, b1⟩ := kk (T.setVm vm') hT X'
  exact ⟨t, st.trans a1, b1⟩
end Rows
section Ends
variable {p : Program} {l : Launch} {e : Env} {R : Room} {s : State} {m : MethodId} {args : Array Value} {below : List Frame} {meth : Method} {c : Code} {H : Heap} {locs : List Loc} {cells slots : Nat} {Q : State → Prop}
variable {mc ms : Nat} {free : Addr → Prop} {A0 A1 : Nat → Prop} {H0 : Heap} {a : Array Value} {ls : Array Slot} {st0 rest : List Value}
variable {Qc : Array Value → State → Outcome → State → Prop} {XC : String → State → State → Prop}
/-- what a body that may throw owes at its end -/
def vx_MQ (below : List Frame) (Qc : Array Value → State → Outcome → State → Prop) (XC : String → State → State → Prop) (a : Array Value) (s : State) (mc ms : Nat) (free : Addr → Prop) : State → Prop := fun t =>
  ∃ o, t.status = .running ∧ Ended t below o ∧ vx_Q Qc XC mc ms free a s o t
theorem vx_ret {g : JFrame} {mc ms : Nat} (k : W p l e R s m args below meth c H locs cells slots (MQ below Qc args s mc ms free) g) : W p l e R s m args below meth c H locs cells slots (vx_MQ below Qc XC args s mc ms free) g := by
  intro T hT X
  obtain ⟨t, a1, o, b1, b2, b3, b4⟩ := k T hT X
  exact ⟨t, a1, o, b1, b2, Or.inl ⟨b3, b4⟩⟩
/-- not caught here: it goes on to the caller -/
theorem vx_widen {g : JFrame} {q : Addr} {k n : Nat} (h1 : cells ≤ k) (h2 : slots ≤ n) (kk : vx_W p l e R s m args below meth c H locs k n Q g q) : vx_W p l e R s m args below meth c H locs cells slots Q g q := fun T hT X => kk T hT (stand_widen X h1 h2)
theorem vx_out {pc : Nat} {E : String} {ce : Cell} {q : Addr} {mc ms : Nat} (hout : ∀ x ∈ c.exceptionTable.toList, covers x pc = false) (hlocks : meth.locks = false) (hcell : H[q]? = some ce) (hv : ce.vm = .none) (hcl : s.vm.findClass E = some ce.cls)
    (hx : ∀ t : State, t.heap = H → s.vm.Alike t.vm → XC E s t) (hf : ∀ z ∈ locs, free z.base) (hc : cells ≤ mc) (hs : slots ≤ ms) :
    vx_W p l e R s m args below meth c H locs cells slots (vx_MQ below Qc XC args s mc ms free) (F0 m pc ls rest) q := by
  intro T hT X
  obtain ⟨st1, hrun, hend, hW, hsm⟩ := X.leaveThrown q (g := F0 m pc ls rest) rfl rfl rfl hout hlocks
  have hcell9 : (T.setFrames (.throwing q :: below)).heap[q]? = some ce := by
    show T.heap[q]? = some ce
    rw [hT]; exact hcell
  exact ⟨_, st1, .threw q, hrun, hend, Or.inr ⟨q, rfl, E, ce, locs, hx _ hT hW.alike, hcell9, hv, hcl, hW, hsm.mono hc hs, hf⟩⟩
theorem vx_frame {U : State} {k n : Nat} (h : s.sameButNew ({ U with vm := s.vm } : State) locs k n) : s.heap.size ≤ U.heap.size ∧ ∀ q : Nat, q < s.heap.size → (∀ z ∈ locs, z.base ≠ q) → U.heap[q]? = s.heap[q]? := by
  obtain ⟨-, h2, -, -, -, h6⟩ := h
  refine ⟨h2, fun q hq hz => ?_⟩
  obtain ⟨c9, e1, e2, e3, e4⟩ := h6 q _ (Array.getElem?_eq_getElem hq)
  have hs : c9.slots = (s.heap[q]).slots := Array.ext_getElem? fun i => e4 i fun hm => hz _ hm rfl
  have h9 : c9 = s.heap[q] := by
    rw [hs] at e2
    exact e2
  have e5 : U.heap[q]? = some c9 := e1
  rw [e5, h9, Array.getElem?_eq_getElem hq]
/-- the words of a throw but the four that speak of the heap -/
def vx_no (w : Cond) : Bool := decide (w ≠ .isRef (.static Bundle.tN "UNASSIGNED_STACK" Bundle.steD)) && decide (w ≠ .isRef (.static Bundle.tN "SUPPRESSED_SENTINEL" Bundle.listD)) && decide (w ≠ .laysStatic Bundle.tN "UNASSIGNED_STACK" Bundle.steD) && decide (w ≠ .laysStatic Bundle.tN "SUPPRESSED_SENTINEL" Bundle.listD)
def vx_at0 (own : String) (ic : Nat) (X : String) (names : List String) : List Cond := (Bundle.ownAtoms0 own ic X names).filter vx_no
def vx_atS (own : String) (ic : Nat) (X : String) (names : List String) : List Cond := (Bundle.ownAtoms own ic X names).filter vx_no
/-- a word that the tables alone decide, or a good one -/
def vx_ot (w : Cond) : Bool := w.onTables || goodWord w
theorem vx_ot_at {args a' : Array Value} {s U : State} {w : Cond} (hW : s.WarmedH U.vm) (hvm : s.vm = U.vm) (hg : vx_ot w = true) (h : w.before args s = true) : w.before a' U = true := by
  simp only [vx_ot, Bool.or_eq_true] at hg
  rcases hg with hg | hg
  · exact va_tabs hg hvm h
  · exact word_at hW (good_of_word hg) h
/-- a list's words: the good ones out of the method's own list, the others by premises of their own -/
theorem vx_hat {args : Array Value} {s : State} {L B : List Cond} (h1 : ∀ w ∈ L.filter goodWord, w.before args s = true) (h2 : ∀ w ∈ L.filter (fun w => !goodWord w), w ∈ B) (h3 : ∀ w ∈ B, w.before args s = true) : ∀ w ∈ L, w.before args s = true := by
  intro w hw
  by_cases g : goodWord w = true
  · exact h1 w (List.mem_filter.mpr ⟨hw, g⟩)
  · refine h3 w (h2 w (List.mem_filter.mpr ⟨hw, ?_⟩))
    show (!goodWord w) = true
    cases hgw : goodWord w
    · rfl
    · exact absurd hgw g
theorem vx_c {args : Array Value} {s : State} {w : Cond} {B : List Cond} (h : w.before args s = true) (t : ∀ w ∈ B, w.before args s = true) : ∀ w' ∈ w :: B, w'.before args s = true := fun w' h' => (List.mem_cons.mp h').elim (fun e => by rw [e]; exact h) (t w')
theorem vx_n {args : Array Value} {s : State} : ∀ w ∈ ([] : List Cond), w.before args s = true := fun _ h => nomatch h
theorem vx_own {args : Array Value} {s : State} {L : List Cond} (h1 : ∀ w ∈ L.filter vx_no, w.before args s = true)
    (hU : (Cond.isRef (.static Bundle.tN "UNASSIGNED_STACK" Bundle.steD)).before args s = true) (hN : (Cond.isRef (.static Bundle.tN "SUPPRESSED_SENTINEL" Bundle.listD)).before args s = true)
    (lU : (Cond.laysStatic Bundle.tN "UNASSIGNED_STACK" Bundle.steD).before args s = true) (lN : (Cond.laysStatic Bundle.tN "SUPPRESSED_SENTINEL" Bundle.listD).before args s = true) : ∀ w ∈ L, w.before args s = true := by
  intro w hw
  by_cases e1 : w = .isRef (.static Bundle.tN "UNASSIGNED_STACK" Bundle.steD)
  · rw [e1]; exact hU
  · by_cases e2 : w = .isRef (.static Bundle.tN "SUPPRESSED_SENTINEL" Bundle.listD)
    · rw [e2]; exact hN
    · by_cases e3 : w = .laysStatic Bundle.tN "UNASSIGNED_STACK" Bundle.steD
      · rw [e3]; exact lU
      · by_cases e4 : w = .laysStatic Bundle.tN "SUPPRESSED_SENTINEL" Bundle.listD
        · rw [e4]; exact lN
        · exact h1 w (List.mem_filter.mpr ⟨hw, by unfold vx_no; rw [decide_eq_true e1, decide_eq_true e2, decide_eq_true e3, decide_eq_true e4]; rfl⟩)
/-- where a static field lies, its class's statics cell in H -/
def vx_L (C n d : String) (A : Nat → Prop) (U : State) (H : Heap) : Prop := ∃ (c : ClassId) (k : Class) (i : Nat) (f : Field) (a : Nat) (cell : Cell), U.vm.findClass C = some c ∧ U.fieldFound? C n d = some (c, k, i, f) ∧ f.isStatic = true ∧ k.statics = some a ∧ H[a]? = some cell ∧ cell.vm.isStatics = true ∧ cell.cls = c ∧ f.slot < cell.slots.size ∧ k.staticTypes[f.slot]? = some f.type ∧ ¬ A a
theorem vx_L.moved {C n d : String} {A : Nat → Prop} {u U : State} {H : Heap} (hvm : u.vm.Alike U.vm) (h : vx_L C n d A u H) : vx_L C n d A U H := by
  obtain ⟨c, k, i, f, a, cell, h1, h2, h3, h4, h5, h6, h7, h8, h9, h10⟩ := h
  obtain ⟨k', hi', he⟩ := State.fieldFound?_setVm hvm h2
  exact ⟨c, k', i, f, a, cell, by rw [hvm.findClass]; exact h1, hi', h3, by rw [he]; exact h4, h5, h6, h7, h8, by rw [he]; exact h9, h10⟩
theorem vx_L.kept {C n d : String} {A : Nat → Prop} {U : State} {H H1 : Heap} (h : vx_L C n d A U H) (hq : ∀ a : Nat, a < H.size → ¬ A a → H1[a]? = H[a]?) : vx_L C n d A U H1 := by
  obtain ⟨c, k, i, f, a, cell, h1, h2, h3, h4, h5, h6, h7, h8, h9, h10⟩ := h
  exact ⟨c, k, i, f, a, cell, h1, h2, h3, h4, by rw [hq a (Array.getElem?_eq_some_iff.mp h5).1 h10]; exact h5, h6, h7, h8, h9, h10⟩
theorem vx_L.narrow {C n d : String} {A B : Nat → Prop} {U : State} {H : Heap} (h : vx_L C n d A U H) (hAB : ∀ q, B q → A q) : vx_L C n d B U H := by
  obtain ⟨c, k, i, f, a, cell, h1, h2, h3, h4, h5, h6, h7, h8, h9, h10⟩ := h
  exact ⟨c, k, i, f, a, cell, h1, h2, h3, h4, h5, h6, h7, h8, h9, fun z => h10 (hAB _ z)⟩
theorem vx_L.word {C n d : String} {A : Nat → Prop} {s : State} {args : Array Value} (h : vx_L C n d A s s.heap) : (Cond.laysStatic C n d).before args s = true := by
  obtain ⟨c, k, i, f, a, cell, h1, h2, h3, h4, h5, h6, h7, h8, h9, -⟩ := h
  show (Cond.laysStatic C n d).holds args s none s [] = true
  exact Cond.laysStatic_of h1 h2 h3 h4 h5 h6 h7 h8 h9
/-- .. and what it holds: null or some reference -/
def vx_Zq (C n d : String) (A : Nat → Prop) (U : State) (H : Heap) : Prop := va_Zq C n d A U H ∧ vx_L C n d A U H
theorem vx_Zq.moved {C n d : String} {A : Nat → Prop} {u U : State} {H : Heap} (hvm : u.vm.Alike U.vm) (h : vx_Zq C n d A u H) : vx_Zq C n d A U H := ⟨va_Zq.moved hvm h.1, vx_L.moved hvm h.2⟩
theorem vx_Zq.kept {C n d : String} {A : Nat → Prop} {U : State} {H H1 : Heap} (h : vx_Zq C n d A U H) (hq : ∀ a : Nat, a < H.size → ¬ A a → H1[a]? = H[a]?) : vx_Zq C n d A U H1 := ⟨va_Zq.kept h.1 hq, vx_L.kept h.2 hq⟩
theorem vx_Zq.narrow {C n d : String} {A B : Nat → Prop} {U : State} {H : Heap} (h : vx_Zq C n d A U H) (hAB : ∀ q, B q → A q) : vx_Zq C n d B U H := ⟨va_Zq.narrow h.1 hAB, vx_L.narrow h.2 hAB⟩
theorem vx_Zqof {args : Array Value} {s : State} {C n d : String} {A : Nat → Prop} (hl : (Cond.laysStatic C n d).before args s = true) (hini : (Cond.initialized C).before args s = true) (h : (Cond.isRef (.static C n d)).before args s = true) (hA : ∀ a : Nat, a < s.heap.size → ¬ A a) : vx_Zq C n d A s s.heap := by
  refine ⟨va_Zqof hl hini h hA, ?_⟩
  obtain ⟨c, k, i, f, a, cell, h1, h2, h3, h4, h5, h6, h7, h8, h9⟩ := Cond.laysStatic_spec hl
  exact ⟨c, k, i, f, a, cell, h1, h2, h3, h4, h5, h6, h7, h8, h9, hA a (Array.getElem?_eq_some_iff.mp h5).1⟩
theorem vx_isRef {C n d : String} {v : Value} {A : Nat → Prop} {s : State} {args : Array Value} (h : va_Z C n d v A s s.heap) (hv : v.isRef = true) : (Cond.isRef (.static C n d)).before args s = true := by
  obtain ⟨cf, kf, fi, f, a, cell, h1, h2, h3, h4, h5, h6, h7, -⟩ := h
  have he : (Term.static C n d).eval args s none [] s = some v := by
    simp [Term.eval, State.fieldNamed?, h1, h2, h4, h5, h6, h7]
  simp only [Cond.before, Cond.holds, Cond.value, he]
  cases v <;> simp_all [Value.isRef]
theorem vx_isRefq {C n d : String} {A : Nat → Prop} {s : State} {args : Array Value} (h : va_Zq C n d A s s.heap) : (Cond.isRef (.static C n d)).before args s = true := by
  rcases h with h | ⟨t, h⟩
  · exact vx_isRef h rfl
  · exact vx_isRef h rfl
/-- the same frame, seen from here: as if the method were called anew in this heap -/
theorem vx_rebase {T : State} (X : Stand p l e R s m args below meth c T locs cells slots) {R' : Room} (hf : R'.frames ≤ R.frames) (hl : R'.locals ≤ R.locals) (hc : cells + R'.cells ≤ R.cells) (hs : slots + R'.slots ≤ R.slots) :
    Stand p l e R' ((T.setVm s.vm).setFrames (.invoking m args :: below)) m args below meth c T [] 0 0 := by
  have htop : (T.setVm s.vm).topJava?.isSome := X.here.top
  have hF : ((T.setVm s.vm).setFrames (.invoking m args :: below)).frames = .invoking m args :: below := State.frames_setFrames _ (State.cur_lt_of_top htop)
  obtain ⟨g₀, hg0⟩ := Option.isSome_iff_exists.mp htop
  obtain ⟨r, hr⟩ := State.topJava?_eq_some.mp hg0
  have hl9 : e.platform.stackLimits (T.setVm s.vm).me = e.platform.stackLimits s.me := X.limits
  have hb9 : (T.setVm s.vm).me.stackBytes = s.me.stackBytes := X.bytes
  refine ⟨X.admits, X.cas, X.clock, hF, ?_, X.hears, X.method, X.code, X.here, X.tail, X.warmed, ?_, ?_, ?_⟩
  · have h := X.room
    have hU : ((T.setVm s.vm).setFrames (.invoking m args :: below)).localsInUse = s.localsInUse := by
      rw [State.localsInUse_invoking hF (meth := meth) (c := c) X.method X.code, State.localsInUse_invoking X.frames X.method X.code]
    simp only [State.hasRoom, Bool.and_eq_true, decide_eq_true_eq] at h ⊢
    obtain ⟨⟨⟨⟨h1, h2, h3, h4, h5, h6⟩, h7⟩, h8⟩, h9⟩ := h
    rw [X.frames, List.length_cons] at h2 h3
    have q1 := X.heapSize
    have q2 := X.used
    simp only [hF, hU, List.length_cons, State.stackLimits_setFrames, State.stackBytes_setFrames, hl9, hb9]
    refine ⟨⟨⟨⟨by omega, by omega, by omega, by omega, by omega, h6⟩, ?_⟩, ?_⟩, X.book⟩
    · show T.heap.size + R'.cells ≤ e.platform.maxCells
      omega
    · show T.slotsUsed + R'.slots ≤ e.platform.maxSlots
      omega
  · rw [State.stackLimits_setFrames]; rfl
  · rw [State.stackBytes_setFrames]; rfl
  · refine ⟨?_, Nat.le_refl _, Nat.le_refl _, ?_, ?_, fun a c9 h9 => ⟨c9, h9, rfl, rfl, fun _ _ => rfl⟩⟩
    · obtain ⟨t, ht, -⟩ := State.frames_cons hr
      show T.setVm s.vm = { ((T.setVm s.vm).setFrames (.invoking m args :: below)).setFrames (T.setVm s.vm).frames with heap := T.heap, slotsUsed := T.slotsUsed }
      rw [State.setFrames_setFrames, State.setFrames_self ht]
      rfl
    · show T.slotsUsed = T.slotsUsed + ((T.heap.toList.drop T.heap.size).map (·.slots.size)).sum
      rw [List.drop_eq_nil_of_le (Nat.le_of_eq Array.length_toList)]
      rfl
    · show ((T.heap.toList.drop T.heap.size).map (·.slots.size)).sum ≤ 0
      rw [List.drop_eq_nil_of_le (Nat.le_of_eq Array.length_toList)]
      exact Nat.le_refl _
/-- 'throw new E()': new; dup; invokespecial; athrow -/
theorem vx_throw0 {cc : ByteArray} {pc : Nat} (hexec : p.tables.exec = Jvm.exec) (hb : c.code = cc) (hl : l.stackTraces = false) {own cls : String} {names : List String} {ik ic mc ms : Nat} {A : Nat → Prop}
    (hown : s.vm.findClass own = some m.cls) (hcls : Bundle.fit cls = true) (hnames : ∀ n ∈ names, Bundle.fit n = true)
    (hk : (Cond.classLink own ik cls).before args s = true) (hini : (Cond.initialized cls).before args s = true) (hat : ∀ w ∈ vx_at0 own ic cls names, w.before args s = true)
    (hgood : ∀ w ∈ Cond.classLink own ik cls :: Cond.initialized cls :: vx_at0 own ic cls names, vx_ot w = true)
    (hU : vx_Zq Bundle.tN "UNASSIGNED_STACK" Bundle.steD A s s.heap) (hN : vx_Zq Bundle.tN "SUPPRESSED_SENTINEL" Bundle.listD A s s.heap) (hS : va_S A s.heap H locs) (hsize : ls.size = c.maxLocals)
    (d0 : decode cc pc = .ok (.new ik, 3)) (d3 : decode cc (pc + 3) = .ok (.dup, 1)) (d4 : decode cc (pc + 4) = .ok (.invokespecial ic, 3)) (d7 : decode cc (pc + 7) = .ok (.athrow, 1))
    (hout : ∀ x ∈ c.exceptionTable.toList, covers x (pc + 7) = false)
    (hRframes : names.length + 3 < R.frames) (hRlocals : (rest.map fun v => v.category).sum + (13 * (names.length + 1) + 42) ≤ R.locals) (hRcells : cells + 1 ≤ R.cells) (hRslots : slots + 6 ≤ R.slots) (hlocks : meth.locks = false)
    (hx : ∀ t : State, s.vm.Alike t.vm → H.size ≤ t.heap.size → (∀ q : Nat, q < H.size → t.heap[q]? = H[q]?) → XC cls s t)
    (hf : ∀ z ∈ locs, free z.base) (hc : cells + 1 ≤ mc) (hs : slots + 6 ≤ ms) :
    W p l e R s m args below meth c H locs cells slots (vx_MQ below Qc XC args s mc ms free) (F0 m pc ls rest) := by
  intro T hT X
  have htr : e.platform.stackTraces = false := (show e.platform.stackTraces = l.stackTraces by rw [X.admits.platform]).trans hl
  have Y := vx_rebase X (R' := { frames := R.frames, locals := R.locals, cells := 1, slots := 6 }) (Nat.le_refl _) (Nat.le_refl _) hRcells hRslots
  obtain ⟨s', hA⟩ : ∃ z, z = (T.setVm s.vm).setFrames (.invoking m args :: below) := ⟨_, rfl⟩
  rw [← hA] at Y
  have hvm : s'.vm = s.vm := by rw [hA]; rfl
  have hhp : s'.heap = H := by rw [hA]; exact hT
  have hW0 : s.WarmedH s'.vm := by rw [hvm]; exact State.WarmedH.refl s
  have hat' : ∀ w ∈ vx_at0 own ic cls names, w.before args s' = true := fun w hw => vx_ot_at hW0 hvm.symm (hgood w (List.mem_cons_of_mem _ (List.mem_cons_of_mem _ hw))) (hat w hw)
  have hk' : (Cond.classLink own ik cls).before args s' = true := vx_ot_at hW0 hvm.symm (hgood _ List.mem_cons_self) hk
  have hini' : (Cond.initialized cls).before args s' = true := vx_ot_at hW0 hvm.symm (hgood _ (List.mem_cons_of_mem _ List.mem_cons_self)) hini
  have hU' : vx_Zq Bundle.tN "UNASSIGNED_STACK" Bundle.steD A s' s'.heap := by rw [hhp]; exact vx_Zq.moved hW0.alike (hU.kept hS.2.1)
  have hN' : vx_Zq Bundle.tN "SUPPRESSED_SENTINEL" Bundle.listD A s' s'.heap := by rw [hhp]; exact vx_Zq.moved hW0.alike (hN.kept hS.2.1)
  have h : ∀ w ∈ Bundle.ownAtoms0 own ic cls names, w.before args s' = true := vx_own hat' (vx_isRefq hU'.1) (vx_isRefq hN'.1) hU'.2.word hN'.2.word
  have hown' : s'.vm.findClass own = some m.cls := by rw [hvm]; exact hown
  have hins : (Cond.instantiable cls 6).before args s' = true := h _ (by simp [Bundle.ownAtoms0])
  obtain ⟨vm₁, cX, kX, hfX, hkX, -, -, X₁, st1⟩ := Y.newCold hexec (own := own) (C := cls) (index := ik) (n := 6) hown' hk' hins hini'
    (g := F0 m pc ls rest) rfl (by rw [hb]; exact d0) (Nat.le_refl _) (Nat.le_refl _)
  generalize hT1 : (T.setVm vm₁).pushCell { cls := cX, slots := kX.instanceTypes.map defaultValue, vm := .none } = T1 at X₁ st1
  have hcat : (Value.ref T.heap.size).category = 1 := rfl
  have hcellA : T1.heap[T.heap.size]? = some (freshCell cX kX) := by rw [← hT1]; exact State.heap_pushCell_size _ _
  have d3' : decode c.code (pc + 3) = .ok (.dup, 1) := by rw [hb]; exact d3
  obtain ⟨U, hsteps, hrun, hend, hW, hsame, ce, hce, hO⟩ := X₁.ctorThrow0 hexec htr (own := own) (cls := cls) (names := names) (ic := ic) hown' hcls hnames h (fun x hx => nomatch hx) hfX hkX hcellA (by rw [hhp, hT]; exact Nat.le_refl _)
    (g := { method := m, pc := pc + 4, locals := ls, stack := .ref T.heap.size :: .ref T.heap.size :: rest, locked := none }) rfl hsize rfl rfl (rest := rest) rfl
    (by rw [hb]; exact d4) (by rw [hb]; exact d7) hout hRframes (by simp only [List.map_cons, List.sum_cons, hcat]; omega) hlocks
  obtain ⟨f1, f2⟩ := vx_frame hsame
  rw [hhp] at f1 f2
  have hWs : s.WarmedH U.vm := State.WarmedH.trans hW0 hW
  have hcl : s.vm.findClass cls = some ce.cls := by
    have h9 := hO.cls
    rw [hvm] at h9
    exact h9
  have hall : s.sameButNew ({ U with vm := s.vm } : State) locs mc ms := by
    subst hA
    obtain ⟨e1, e2⟩ := hsame
    rw [State.setFrames_setFrames] at e1
    have h2 : (T.setVm s.vm).sameButNew ({ U with vm := s.vm } : State) [] (0 + 1) (0 + 6) := ⟨e1, e2⟩
    have h3 := X.same.trans h2
    rw [List.append_nil] at h3
    exact h3.mono hc hs
  refine ⟨U, ?_, .threw T.heap.size, hrun, hend, Or.inr ⟨T.heap.size, rfl, cls, ce, locs, hx U hWs.alike f1 (fun q hq => f2 q hq (fun z hz => nomatch hz)), hce, hO.vm, hcl, hWs, hall, hf⟩⟩
  refine st1 _ ?_
  show Steps p.tables e below (T1.setTop { method := m, pc := pc + 3, locals := ls, stack := .ref T.heap.size :: rest, locked := none }) _
  jvm_step X₁.here [X₁.here.top, hexec, d3', Value.category]
  exact hsteps
/-- 'throw new E("text")': new; dup; ldc; invokespecial; athrow -/
theorem vx_throwS {cc : ByteArray} {pc : Nat} (hexec : p.tables.exec = Jvm.exec) (hb : c.code = cc) (hl : l.stackTraces = false) {own cls text : String} {names : List String} {ik is ic mc ms sa : Nat} {A : Nat → Prop}
    (hown : s.vm.findClass own = some m.cls) (hcls : Bundle.fit cls = true) (hnames : ∀ n ∈ names, Bundle.fit n = true)
    (hk : (Cond.classLink own ik cls).before args s = true) (hini : (Cond.initialized cls).before args s = true) (hstr : vk_R own is text sa s) (hat : ∀ w ∈ vx_atS own ic cls names, w.before args s = true)
    (hgood : ∀ w ∈ Cond.classLink own ik cls :: Cond.initialized cls :: vx_atS own ic cls names, vx_ot w = true)
    (hU : vx_Zq Bundle.tN "UNASSIGNED_STACK" Bundle.steD A s s.heap) (hN : vx_Zq Bundle.tN "SUPPRESSED_SENTINEL" Bundle.listD A s s.heap) (hS : va_S A s.heap H locs) (hsize : ls.size = c.maxLocals)
    (d0 : decode cc pc = .ok (.new ik, 3)) (d3 : decode cc (pc + 3) = .ok (.dup, 1)) (d4 : decode cc (pc + 4) = .ok (.ldc is, 2)) (d6 : decode cc (pc + 6) = .ok (.invokespecial ic, 3)) (d9 : decode cc (pc + 9) = .ok (.athrow, 1))
    (hout : ∀ x ∈ c.exceptionTable.toList, covers x (pc + 9) = false)
    (hRframes : names.length + 3 < R.frames) (hRlocals : (rest.map fun v => v.category).sum + (13 * (names.length + 1) + 43) ≤ R.locals) (hRcells : cells + 1 ≤ R.cells) (hRslots : slots + 6 ≤ R.slots) (hlocks : meth.locks = false)
    (hx : ∀ t : State, s.vm.Alike t.vm → H.size ≤ t.heap.size → (∀ q : Nat, q < H.size → t.heap[q]? = H[q]?) → XC cls s t)
    (hf : ∀ z ∈ locs, free z.base) (hc : cells + 1 ≤ mc) (hs : slots + 6 ≤ ms) :
    W p l e R s m args below meth c H locs cells slots (vx_MQ below Qc XC args s mc ms free) (F0 m pc ls rest) := by
  intro T hT X
  have htr : e.platform.stackTraces = false := (show e.platform.stackTraces = l.stackTraces by rw [X.admits.platform]).trans hl
  have Y := vx_rebase X (R' := { frames := R.frames, locals := R.locals, cells := 1, slots := 6 }) (Nat.le_refl _) (Nat.le_refl _) hRcells hRslots
  obtain ⟨s', hA⟩ : ∃ z, z = (T.setVm s.vm).setFrames (.invoking m args :: below) := ⟨_, rfl⟩
  rw [← hA] at Y
  have hvm : s'.vm = s.vm := by rw [hA]; rfl
  have hhp : s'.heap = H := by rw [hA]; exact hT
  have hW0 : s.WarmedH s'.vm := by rw [hvm]; exact State.WarmedH.refl s
  have hat' : ∀ w ∈ vx_atS own ic cls names, w.before args s' = true := fun w hw => vx_ot_at hW0 hvm.symm (hgood w (List.mem_cons_of_mem _ (List.mem_cons_of_mem _ hw))) (hat w hw)
  have hk' : (Cond.classLink own ik cls).before args s' = true := vx_ot_at hW0 hvm.symm (hgood _ List.mem_cons_self) hk
  have hini' : (Cond.initialized cls).before args s' = true := vx_ot_at hW0 hvm.symm (hgood _ (List.mem_cons_of_mem _ List.mem_cons_self)) hini
  have hU' : vx_Zq Bundle.tN "UNASSIGNED_STACK" Bundle.steD A s' s'.heap := by rw [hhp]; exact vx_Zq.moved hW0.alike (hU.kept hS.2.1)
  have hN' : vx_Zq Bundle.tN "SUPPRESSED_SENTINEL" Bundle.listD A s' s'.heap := by rw [hhp]; exact vx_Zq.moved hW0.alike (hN.kept hS.2.1)
  have h : ∀ w ∈ Bundle.ownAtoms own ic cls names, w.before args s' = true := vx_own hat' (vx_isRefq hU'.1) (vx_isRefq hN'.1) hU'.2.word hN'.2.word
  have hown' : s'.vm.findClass own = some m.cls := by rw [hvm]; exact hown
  have hins : (Cond.instantiable cls 6).before args s' = true := h _ (by simp [Bundle.ownAtoms])
  obtain ⟨vm₁, cX, kX, hfX, hkX, -, -, X₁, st1⟩ := Y.newCold hexec (own := own) (C := cls) (index := ik) (n := 6) hown' hk' hins hini'
    (g := F0 m pc ls rest) rfl (by rw [hb]; exact d0) (Nat.le_refl _) (Nat.le_refl _)
  generalize hT1 : (T.setVm vm₁).pushCell { cls := cX, slots := kX.instanceTypes.map defaultValue, vm := .none } = T1 at X₁ st1
  have hcat : (Value.ref T.heap.size).category = 1 := rfl
  have hcellA : T1.heap[T.heap.size]? = some (freshCell cX kX) := by rw [← hT1]; exact State.heap_pushCell_size _ _
  have d3' : decode c.code (pc + 3) = .ok (.dup, 1) := by rw [hb]; exact d3
  have d4' : decode c.code (pc + 4) = .ok (.ldc is, 2) := by rw [hb]; exact d4
  have hstr' : vk_R own is text sa s' := vk_R.warm hW0 hstr
  obtain ⟨U, hsteps, hrun, hend, hW, hsame, ce, hce, hO⟩ := X₁.ctorThrowS hexec htr (own := own) (cls := cls) (names := names) (ic := ic) hown' hcls hnames h (fun x hx => nomatch hx) hfX hkX hcellA (by rw [hhp, hT]; exact Nat.le_refl _) (msg := .ref sa) rfl
    (g := { method := m, pc := pc + 6, locals := ls, stack := .ref sa :: .ref T.heap.size :: .ref T.heap.size :: rest, locked := none }) rfl hsize rfl rfl (rest := rest) rfl
    (by rw [hb]; exact d6) (by rw [hb]; exact d9) hout hRframes (by simp only [List.map_cons, List.sum_cons, hcat]; omega) hlocks
  obtain ⟨f1, f2⟩ := vx_frame hsame
  rw [hhp] at f1 f2
  have hWs : s.WarmedH U.vm := State.WarmedH.trans hW0 hW
  have hcl : s.vm.findClass cls = some ce.cls := by
    have h9 := hO.cls
    rw [hvm] at h9
    exact h9
  have hall : s.sameButNew ({ U with vm := s.vm } : State) locs mc ms := by
    subst hA
    obtain ⟨e1, e2⟩ := hsame
    rw [State.setFrames_setFrames] at e1
    have h2 : (T.setVm s.vm).sameButNew ({ U with vm := s.vm } : State) [] (0 + 1) (0 + 6) := ⟨e1, e2⟩
    have h3 := X.same.trans h2
    rw [List.append_nil] at h3
    exact h3.mono hc hs
  refine ⟨U, ?_, .threw T.heap.size, hrun, hend, Or.inr ⟨T.heap.size, rfl, cls, ce, locs, hx U hWs.alike f1 (fun q hq => f2 q hq (fun z hz => nomatch hz)), hce, hO.vm, hcl, hWs, hall, hf⟩⟩
  refine st1 _ ?_
  show Steps p.tables e below (T1.setTop { method := m, pc := pc + 3, locals := ls, stack := .ref T.heap.size :: rest, locked := none }) _
  jvm_step X₁.here [X₁.here.top, hexec, d3', Value.category]
  exact X₁.ldcString hexec (own := own) (text := text) (index := is) (a := sa) hown' hstr'.1 hstr'.2
    (g := { method := m, pc := pc + 4, locals := ls, stack := .ref T.heap.size :: .ref T.heap.size :: rest, locked := none }) rfl d4' _ hsteps
/-- 'throw new E("text")', the text by a wide index -/
theorem vx_throwSW {cc : ByteArray} {pc : Nat} (hexec : p.tables.exec = Jvm.exec) (hb : c.code = cc) (hl : l.stackTraces = false) {own cls text : String} {names : List String} {ik is ic mc ms sa : Nat} {A : Nat → Prop}
    (hown : s.vm.findClass own = some m.cls) (hcls : Bundle.fit cls = true) (hnames : ∀ n ∈ names, Bundle.fit n = true)
    (hk : (Cond.classLink own ik cls).before args s = true) (hini : (Cond.initialized cls).before args s = true) (hstr : vk_R own is text sa s) (hat : ∀ w ∈ vx_atS own ic cls names, w.before args s = true)
    (hgood : ∀ w ∈ Cond.classLink own ik cls :: Cond.initialized cls :: vx_atS own ic cls names, vx_ot w = true)
    (hU : vx_Zq Bundle.tN "UNASSIGNED_STACK" Bundle.steD A s s.heap) (hN : vx_Zq Bundle.tN "SUPPRESSED_SENTINEL" Bundle.listD A s s.heap) (hS : va_S A s.heap H locs) (hsize : ls.size = c.maxLocals)
    (d0 : decode cc pc = .ok (.new ik, 3)) (d3 : decode cc (pc + 3) = .ok (.dup, 1)) (d4 : decode cc (pc + 4) = .ok (.ldc_w is, 3)) (d7 : decode cc (pc + 7) = .ok (.invokespecial ic, 3)) (d10 : decode cc (pc + 10) = .ok (.athrow, 1))
    (hout : ∀ x ∈ c.exceptionTable.toList, covers x (pc + 10) = false)
    (hRframes : names.length + 3 < R.frames) (hRlocals : (rest.map fun v => v.category).sum + (13 * (names.length + 1) + 43) ≤ R.locals) (hRcells : cells + 1 ≤ R.cells) (hRslots : slots + 6 ≤ R.slots) (hlocks : meth.locks = false)
    (hx : ∀ t : State, s.vm.Alike t.vm → H.size ≤ t.heap.size → (∀ q : Nat, q < H.size → t.heap[q]? = H[q]?) → XC cls s t)
    (hf : ∀ z ∈ locs, free z.base) (hc : cells + 1 ≤ mc) (hs : slots + 6 ≤ ms) :
    W p l e R s m args below meth c H locs cells slots (vx_MQ below Qc XC args s mc ms free) (F0 m pc ls rest) := by
  intro T hT X
  have htr : e.platform.stackTraces = false := (show e.platform.stackTraces = l.stackTraces by rw [X.admits.platform]).trans hl
  have Y := vx_rebase X (R' := { frames := R.frames, locals := R.locals, cells := 1, slots := 6 }) (Nat.le_refl _) (Nat.le_refl _) hRcells hRslots
  obtain ⟨s', hA⟩ : ∃ z, z = (T.setVm s.vm).setFrames (.invoking m args :: below) := ⟨_, rfl⟩
  rw [← hA] at Y
  have hvm : s'.vm = s.vm := by rw [hA]; rfl
  have hhp : s'.heap = H := by rw [hA]; exact hT
  have hW0 : s.WarmedH s'.vm := by rw [hvm]; exact State.WarmedH.refl s
  have hat' : ∀ w ∈ vx_atS own ic cls names, w.before args s' = true := fun w hw => vx_ot_at hW0 hvm.symm (hgood w (List.mem_cons_of_mem _ (List.mem_cons_of_mem _ hw))) (hat w hw)
  have hk' : (Cond.classLink own ik cls).before args s' = true := vx_ot_at hW0 hvm.symm (hgood _ List.mem_cons_self) hk
  have hini' : (Cond.initialized cls).before args s' = true := vx_ot_at hW0 hvm.symm (hgood _ (List.mem_cons_of_mem _ List.mem_cons_self)) hini
  have hU' : vx_Zq Bundle.tN "UNASSIGNED_STACK" Bundle.steD A s' s'.heap := by rw [hhp]; exact vx_Zq.moved hW0.alike (hU.kept hS.2.1)
  have hN' : vx_Zq Bundle.tN "SUPPRESSED_SENTINEL" Bundle.listD A s' s'.heap := by rw [hhp]; exact vx_Zq.moved hW0.alike (hN.kept hS.2.1)
  have h : ∀ w ∈ Bundle.ownAtoms own ic cls names, w.before args s' = true := vx_own hat' (vx_isRefq hU'.1) (vx_isRefq hN'.1) hU'.2.word hN'.2.word
  have hown' : s'.vm.findClass own = some m.cls := by rw [hvm]; exact hown
  have hins : (Cond.instantiable cls 6).before args s' = true := h _ (by simp [Bundle.ownAtoms])
  obtain ⟨vm₁, cX, kX, hfX, hkX, -, -, X₁, st1⟩ := Y.newCold hexec (own := own) (C := cls) (index := ik) (n := 6) hown' hk' hins hini'
    (g := F0 m pc ls rest) rfl (by rw [hb]; exact d0) (Nat.le_refl _) (Nat.le_refl _)
  generalize hT1 : (T.setVm vm₁).pushCell { cls := cX, slots := kX.instanceTypes.map defaultValue, vm := .none } = T1 at X₁ st1
  have hcat : (Value.ref T.heap.size).category = 1 := rfl
  have hcellA : T1.heap[T.heap.size]? = some (freshCell cX kX) := by rw [← hT1]; exact State.heap_pushCell_size _ _
  have d3' : decode c.code (pc + 3) = .ok (.dup, 1) := by rw [hb]; exact d3
  have d4' : decode c.code (pc + 4) = .ok (.ldc_w is, 3) := by rw [hb]; exact d4
  have hstr' : vk_R own is text sa s' := vk_R.warm hW0 hstr
  obtain ⟨U, hsteps, hrun, hend, hW, hsame, ce, hce, hO⟩ := X₁.ctorThrowS hexec htr (own := own) (cls := cls) (names := names) (ic := ic) hown' hcls hnames h (fun x hx => nomatch hx) hfX hkX hcellA (by rw [hhp, hT]; exact Nat.le_refl _) (msg := .ref sa) rfl
    (g := { method := m, pc := pc + 7, locals := ls, stack := .ref sa :: .ref T.heap.size :: .ref T.heap.size :: rest, locked := none }) rfl hsize rfl rfl (rest := rest) rfl
    (by rw [hb]; exact d7) (by rw [hb]; exact d10) hout hRframes (by simp only [List.map_cons, List.sum_cons, hcat]; omega) hlocks
  obtain ⟨f1, f2⟩ := vx_frame hsame
  rw [hhp] at f1 f2
  have hWs : s.WarmedH U.vm := State.WarmedH.trans hW0 hW
  have hcl : s.vm.findClass cls = some ce.cls := by
    have h9 := hO.cls
    rw [hvm] at h9
    exact h9
  have hall : s.sameButNew ({ U with vm := s.vm } : State) locs mc ms := by
    subst hA
    obtain ⟨e1, e2⟩ := hsame
    rw [State.setFrames_setFrames] at e1
    have h2 : (T.setVm s.vm).sameButNew ({ U with vm := s.vm } : State) [] (0 + 1) (0 + 6) := ⟨e1, e2⟩
    have h3 := X.same.trans h2
    rw [List.append_nil] at h3
    exact h3.mono hc hs
  refine ⟨U, ?_, .threw T.heap.size, hrun, hend, Or.inr ⟨T.heap.size, rfl, cls, ce, locs, hx U hWs.alike f1 (fun q hq => f2 q hq (fun z hz => nomatch hz)), hce, hO.vm, hcl, hWs, hall, hf⟩⟩
  refine st1 _ ?_
  show Steps p.tables e below (T1.setTop { method := m, pc := pc + 3, locals := ls, stack := .ref T.heap.size :: rest, locked := none }) _
  jvm_step X₁.here [X₁.here.top, hexec, d3', Value.category]
  exact X₁.ldcStringW hexec (own := own) (text := text) (index := is) (a := sa) hown' hstr'.1 hstr'.2
    (g := { method := m, pc := pc + 4, locals := ls, stack := .ref T.heap.size :: .ref T.heap.size :: rest, locked := none }) rfl d4' _ hsteps
end Ends
section Bodies
variable {l : Launch}
theorem vx_ofW {y : MethodName} {ws ws' : List Cond} {rm : Room} {Pc : Array Value → State → Prop} {Qc : Array Value → State → Outcome → State → Prop} {XC : String → State → State → Prop} {mc ms : Nat} {free : Addr → Prop} {cc : ByteArray} {maxL : Nat} {ret : Option FieldType}
    (hy : plainName y.cls = true) (hw : ws = Cond.code y cc maxL ret :: ws')
    (body : ∀ p e s m args below meth c s₁, BodyLoose p l y (headSpec ws rm) cc maxL ret e s m args below meth c s₁ → c.maxLocals = maxL → (∀ x ∈ c.exceptionTable.toList, False) → Pc args s →
      W p l e (headSpec ws rm).room s m args below meth c s.heap [] 0 0 (vx_MQ below Qc XC args s mc ms free) (entryFrame m args maxL)) : vx_Met l y ws rm Pc Qc XC mc ms free := by
  refine MetFree.of_bodyS (code := cc) (maxLocals := maxL) (ret := ret) hy ?_ ?_
  · intro args s m h hn
    obtain ⟨meth, c, h1, h2, h3, h4, h5, h6, -, -⟩ := Cond.code_spec hn (atoms_spec (ws := ws) h _ (by rw [hw]; exact List.mem_cons_self))
    exact ⟨meth, c, h1, h2, h3, h4, h5, h6⟩
  · intro p e s m args below meth c s₁ B hml hP _
    have hh0 : s₁.heap = s.heap := by rw [B.state]; rfl
    have ht : ∀ x ∈ c.exceptionTable.toList, False := by
      obtain ⟨meth9, c9, h1, h2, -, -, -, -, h7, -⟩ := Cond.code_spec B.named (atoms_spec (ws := ws) B.pre _ (by rw [hw]; exact List.mem_cons_self))
      cases Option.some.inj (h1.symm.trans B.method)
      cases Option.some.inj (h2.symm.trans (Stand.of_body B).code)
      intro x hx
      rw [Array.isEmpty_iff.mp h7] at hx
      cases hx
    obtain ⟨t, a1, o, b1, b2, b3⟩ := body p e s m args below meth c s₁ B hml ht hP s₁ hh0 (Stand.of_body B)
    exact ⟨t, o, a1, b1, b2, b3⟩
/-- the table of a body with handlers -/
theorem vx_table {p : Program} {x y : MethodName} {S : Spec} {cc bytes : ByteArray} {maxL maxL' : Nat} {ret ret' : Option FieldType} {e : Env} {s s₁ : State} {m : MethodId} {args : Array Value} {below : List Frame} {meth : Method} {c : Code} {hh : List (Nat × Nat × Nat × Nat)}
    (B : BodyLoose p l y S cc maxL ret e s m args below meth c s₁) (h : (Cond.codeWith y bytes maxL' ret' hh).before args s = true) : c.exceptionTable.toList = tableOf hh := by
  obtain ⟨m9, meth9, c9, hn9, h1, h2, -, -, h6, -⟩ := Cond.codeWith_spec h
  cases Option.some.inj (hn9.symm.trans B.named)
  cases Option.some.inj (h1.symm.trans B.method)
  cases Option.some.inj (h2.symm.trans (Stand.of_body B).code)
  rw [← h6, table_eq]
end Bodies
end VXA
/-! ===== END ===== -/
/-! ===== BEGIN a static call of a method with an exception table ===== -/
section VXS
variable {p : Program} {l : Launch} {e : Env} {R : Room} {s : State} {m : MethodId} {args : Array Value} {below : List Frame} {meth : Method} {c : Code} {T : State} {H : Heap} {locs : List Loc} {cells slots : Nat}
abbrev vx_CSW (R : Room) (s : State) (args : Array Value) (own : String) (index : Nat) (y : MethodName) (bytes : ByteArray) (maxL : Nat) (ret : Option FieldType) (hh : List (Nat × Nat × Nat × Nat)) (ws : List Cond) (rm : Room) (mc ms n : Nat) : Prop :=
  (rm.cells = mc ∧ rm.slots = ms ∧ rm.frames + 1 ≤ R.frames ∧ 8 + (maxL + 11) + rm.locals ≤ R.locals ∧ (∀ w ∈ ws, ∀ (a' : Array Value) (U : State), s.WarmedH U.vm → w.before a' U = true) ∧ Cond.codeWith y bytes maxL ret hh ∈ ws) ∧
  (Cond.codeWith y bytes maxL ret hh).before args s = true ∧ (Cond.initialized y.cls).before args s = true ∧ (y.cls ≠ "java/lang/invoke/MethodHandle" ∧ y.cls ≠ "java/lang/invoke/VarHandle") ∧
  (∀ sig, parseMethodDescriptor y.desc = some sig → n = sig.parameters.length) ∧ (Cond.methodLink own index y).before args s = true ∧ (Cond.static y).before args s = true
theorem vx_cwSW {own : String} {index maxL mc ms : Nat} {y : MethodName} {bytes : ByteArray} {ret : Option FieldType} {hh : List (Nat × Nat × Nat × Nat)} {Ts ws ws' : List Cond} {rm : Room} (n : Nat) (ht : ∀ w ∈ Ts, w.before args s = true) (hT : GoodIn Ts (va_wsS own index y ws)) (hw : ws = Cond.codeWith y bytes maxL ret hh :: ws') (hrc : rm.cells = mc) (hrs : rm.slots = ms)
    (hd : y.cls ≠ "java/lang/invoke/MethodHandle" ∧ y.cls ≠ "java/lang/invoke/VarHandle" ∧ (parseMethodDescriptor y.desc).map (fun d => d.parameters.length) = some n) (hR : rm.frames + 1 ≤ R.frames ∧ 8 + (maxL + 11) + rm.locals ≤ R.locals) :
    vx_CSW R s args own index y bytes maxL ret hh ws rm mc ms n := by
  have ok : ∀ w ∈ va_wsS own index y ws, w.before args s = true := fun w h => ht w (hT w h).1
  have hG : GoodIn Ts ws := fun w h => hT w (by unfold va_wsS; exact List.mem_append_right _ h)
  have hc : Cond.codeWith y bytes maxL ret hh ∈ ws := by rw [hw]; exact List.mem_cons_self
  refine ⟨⟨hrc, hrs, hR.1, hR.2, pay_in ht hG, hc⟩, ht _ (hG _ hc).1, ok _ (by simp [va_wsS]), ⟨hd.1, hd.2.1⟩, fun sig h => ?_, ok _ (by simp [va_wsS]), ok _ (by simp [va_wsS])⟩
  have h2 := hd.2.2
  rw [h] at h2
  exact (Option.some.inj h2).symm
theorem vx_callSW (X : Stand p l e R s m args below meth c T locs cells slots) (hexec : p.tables.exec = Jvm.exec) {own : String} {index : Nat} {y : MethodName} {bytes : ByteArray} {maxL : Nat} {ret : Option FieldType} {hh : List (Nat × Nat × Nat × Nat)}
    (hown : s.vm.findClass own = some m.cls) (hlink : (Cond.methodLink own index y).before args s = true) (hstat : (Cond.static y).before args s = true) (hinit : (Cond.initialized y.cls).before args s = true)
    (hcode : (Cond.codeWith y bytes maxL ret hh).before args s = true) (hy : y.cls ≠ "java/lang/invoke/MethodHandle" ∧ y.cls ≠ "java/lang/invoke/VarHandle")
    {W9 : Nat} {Pre : Pt → Array Value → Prop} {Post : Pt → Array Value → Option Value → Pt → Prop} (hK : Back l R p e below s args y 3 W9 Pre Post)
    {g : JFrame} (hg : g.method = m) (hsize : g.locals.size = c.maxLocals) {argsL rest : List Value} (hlen : ∀ sig, parseMethodDescriptor y.desc = some sig → argsL.length = sig.parameters.length)
    (hstack : g.stack = argsL.reverse ++ rest) (hW : 2 * g.monitorRoom + (rest.map fun v => v.category).sum ≤ W9) (hdg : decode c.code g.pc = .ok (.invokestatic index, 3))
    (hpre : ∀ vm₁, s.WarmedH vm₁ → Pre ⟨T.setVm vm₁, locs, cells, slots⟩ argsL.toArray) :
    ∃ (v : Option Value) (vm₁ : Vm) (B : Pt), s.WarmedH vm₁ ∧ Stand p l e R s m args below meth c B.U B.locs B.cells B.slots ∧ Post ⟨T.setVm vm₁, locs, cells, slots⟩ argsL.toArray v B ∧
      ∀ target, Steps p.tables e below (B.U.setTop { g with pc := g.pc + 3, stack := v.toList ++ rest }) target → Steps p.tables e below (T.setTop g) target := by
  obtain ⟨mk, methM, cM, hnamed, hmethM, -, -, -, -, -, -, hsigM⟩ := Cond.codeWith_spec hcode
  have hstatic : methM.isStatic = true := Cond.static_spec hnamed hmethM hstat
  obtain ⟨kP, hkP, -⟩ := className_of_methodNamed hnamed
  have hinitP : kP.init = .initialized := Cond.initialized_spec (findClass_of_methodNamed hnamed) hkP hinit
  obtain ⟨vm₁, X₁, hstep₁⟩ := X.invokestatic hexec hown hlink hnamed hmethM hstatic hkP hinitP hy (g := g) hg (argsL := argsL) (rest := rest) (hlen _ hsigM) hstack hdg
  obtain ⟨v, B, X', hpost, hsteps⟩ := hK m meth c ⟨T.setVm vm₁, locs, cells, slots⟩ { g with stack := rest } (.invokestatic index) mk argsL.toArray X₁ hg hsize hdg hW (X₁.named hnamed) (hpre vm₁ X₁.warmed)
  exact ⟨v, vm₁, B, X₁.warmed, X', hpost, fun target h => hstep₁ _ fun acts => by rw [doInvoke_state]; exact hsteps.trans h⟩
theorem vx_runSW {y : MethodName} {bytes cc : ByteArray} {maxL nL mc ms n index : Nat} {ret : Option FieldType} {hh : List (Nat × Nat × Nat × Nat)} {ws : List Cond} {rm : Room} {Pc : Array Value → State → Prop} {Qc : Array Value → State → Outcome → State → Prop} {free : Addr → Prop} {Ts : List Cond} {own : String} {As rest : List Value} {g : JFrame}
    (S : CallFix p m c cc nL s args Ts own) (hM : Met l y ws rm Pc Qc mc ms free) (cw : vx_CSW R s args own index y bytes maxL ret hh ws rm mc ms n) (hp : PreS s H Pc As)
    (hg : g.method = m) (hn : As.length = n) (hsize : g.locals.size = nL) (hstack : g.stack = As.reverse ++ rest) (hW : 2 * g.monitorRoom + (rest.map fun v => v.category).sum ≤ 8) (hdg : decode cc g.pc = .ok (.invokestatic index, 3)) (hf : cells + mc ≤ R.cells ∧ slots + ms ≤ R.slots) :
    va_Run p l e R s m args below meth c H locs cells slots mc ms g rest (Qc As.toArray) (free) := by
  obtain ⟨⟨hrc, hrs, hfr, hlo, hws, hcw⟩, hcode, hini, hy, hlen, hl, hstt⟩ := cw
  have hK : Back l R p e below s args y 3 8 (PreOf R mc ms Pc) (PostOf Qc mc ms free) := va_backW (hh := hh) (bytes := bytes) (maxL := maxL) (ret := ret) hM hp.1 hrc hrs hfr hlo hws hcw (fun a' U hW => word_at hW (Or.inl (by first | rfl | simp [Cond.onTables, Cond.keeps, Cond.steady])) hini)
  obtain ⟨hx, hb, hml, ho, -⟩ := S
  intro T hT X
  obtain ⟨v, vm₁, ⟨U', l2, c2, s2⟩, hW₁, X', ⟨g', mk, t, L, e1, e2, hq, h1, hL, h2, h3⟩, st⟩ := vx_callSW X hx (hh := hh) (bytes := bytes) (maxL := maxL) (ret := ret) ho hl hstt hini hcode hy hK hg (hsize.trans hml.symm) (argsL := As) (rest := rest) (fun sig h => hn.trans (hlen sig h)) hstack hW (by rw [hb]; exact hdg)
    (fun vm₁ hW₁ => ⟨hf.1, hf.2, hp.2 (T.setVm vm₁) hT hW₁⟩)
  dsimp only [Pt.U, Pt.locs, Pt.cells, Pt.slots] at X' e1 e2 h1 h2 h3 st
  subst h1; subst h2; subst h3
  exact ⟨v, (T.setVm vm₁).calling g' mk As.toArray, t, U', L, hT, X', hL, e1, e2, hq, st⟩
/-- not caught here, past rows that name other classes: it goes on to the caller -/
theorem vx_outP {p : Program} {l : Launch} {e : Env} {R : Room} {s : State} {m : MethodId} {args : Array Value} {below : List Frame} {meth : Method} {c : Code} {H : Heap} {locs : List Loc} {cells slots : Nat} {free : Addr → Prop} {ls : Array Slot} {rest : List Value} {Qc : Array Value → State → Outcome → State → Prop} {XC : String → State → State → Prop}
    {pc : Nat} {own E : String} {ce : Cell} {q : Addr} {mc ms : Nat} (hown : s.vm.findClass own = some m.cls) (hlocks : meth.locks = false)
    (hpass : ∀ z ∈ c.exceptionTable.toList, covers z pc = false ∨ (z.catchType ≠ 0 ∧ ∃ nm : String, (Cond.classLink own z.catchType nm).before args s = true ∧ va_Nc E nm s)) (hcell : H[q]? = some ce) (hv : ce.vm = .none) (hcl : s.vm.findClass E = some ce.cls)
    (hx : ∀ t : State, t.heap = H → s.vm.Alike t.vm → XC E s t) (hf : ∀ z ∈ locs, free z.base) (hc : cells ≤ mc) (hs : slots ≤ ms) :
    vx_W p l e R s m args below meth c H locs cells slots (vx_MQ below Qc XC args s mc ms free) (F0 m pc ls rest) q := by
  intro T hT X
  have hpl : e.platform.magicAccessors = ({} : Platform).magicAccessors := by rw [X.admits.platform]
  obtain ⟨vm', hW', X', st⟩ := X.outThrough hlocks q (g := F0 m pc ls rest) rfl rfl rfl (cell := ce) (by rw [hT]; exact hcell) (by rw [hv]; rfl)
    (by obtain ⟨k9, h9, -⟩ := Vm.findClass_spec hcl; exact ⟨k9, h9⟩) (fun z hz => by
      rcases hpass z hz with h | ⟨hz0, nm, hl1, hn1⟩
      · exact Or.inl h
      · obtain ⟨c6, hc6, hcl6⟩ := Cond.classLink_spec hown hl1 e.platform hpl
        obtain ⟨a8, b8, h1, h2, h3⟩ := hn1
        cases Option.some.inj (h1.symm.trans hcl)
        cases Option.some.inj (h2.symm.trans hc6)
        exact Or.inr ⟨hz0, _, hcl6, h3⟩)
  obtain ⟨g₀, hfr⟩ := X'.frames_eq
  have hcell9 : ((T.setVm vm').setFrames (.throwing q :: below)).heap[q]? = some ce := by
    show T.heap[q]? = some ce
    rw [hT]; exact hcell
  have hend : Ended ((T.setVm vm').setFrames (.throwing q :: below)) below (.threw q) := State.frames_setFrames _ (State.cur_lt_of_frames hfr)
  refine ⟨(T.setVm vm').setFrames (.throwing q :: below), ?_, .threw q, X'.here.running, hend, Or.inr ⟨q, rfl, E, ce, locs, hx _ hT (X'.ends _).1.alike, hcell9, hv, hcl, (X'.ends _).1, (X'.ends _).2.mono hc hs, hf⟩⟩
  rw [X.pushThrowing_eq]
  exact st
/-- a thing of a world lies in the heap -/
theorem vx_lt {D : va_G} {cl : List vw_C} {ws : va_W} {H1 : Heap} (h : va_P D cl ws H1) {k : Nat} {q : Nat × va_E} (hk : ws[k]? = some q) : q.1 < H1.size := (h k q hk).lt
end VXS
/-! ===== END ===== -/
/-! ===== BEGIN methods with a table of their own: called by a name, returning or throwing ===== -/
section VXH
/-! vx_backW, vx_callVX, vx_callSX, vx_callVW, vx_runVW, vx_runVX, vx_runSX, vx_ofWH follow the same proofs as their sisters above (Free/Laws.lean, Shelf42/LK1.lean); vx_outP calls Shelf42/NT130.lean (outThrough). -/
section
variable {l : Launch} {R : Room} {p : Program} {e : Env} {below : List Frame} {s : State} {sargs : Array Value} {y : MethodName} {len W9 : Nat}
theorem vx_backW {ws : List Cond} {rm : Room} {Pc : Array Value → State → Prop} {Qc : Array Value → State → Outcome → State → Prop} {XC : String → State → State → Prop} {mc ms : Nat} {free : Addr → Prop} {bytes : ByteArray} {maxL : Nat} {ret : Option FieldType} {hh : List (Nat × Nat × Nat × Nat)}
    (hM : vx_Met l y ws rm Pc Qc XC mc ms free) (hblind : FrameBlind Pc) (hrc : rm.cells = mc) (hrs : rm.slots = ms)
    (hframes : rm.frames + 1 ≤ R.frames) (hlocals : W9 + (maxL + 11) + rm.locals ≤ R.locals)
    (hws : ∀ w ∈ ws, ∀ a' U, s.WarmedH U.vm → w.before a' U = true) (hcode : Cond.codeWith y bytes maxL ret hh ∈ ws) (hinit : ∀ a' U, s.WarmedH U.vm → (Cond.initialized y.cls).before a' U = true) :
    vx_Back l R p e below s sargs y len W9 (PreOf R mc ms Pc) (PostOf Qc mc ms free) (vx_Post XC mc ms free) := by
  intro m meth c A g ig mk a X hg hsize hdg hW hn hp
  have h1 : (headSpec ws rm).pre.before a A.U = true := atoms_intro fun w hw => hws w hw _ _ X.warmed
  have h2 : (Cond.codeWith y bytes maxL ret hh).before a A.U = true := hws _ hcode _ _ X.warmed
  have h3 : (Cond.initialized y.cls).before a A.U = true := hinit _ _ X.warmed
  have h4 : A.cells + (headSpec ws rm).room.cells ≤ R.cells := by rw [show (headSpec ws rm).room.cells = mc from hrc]; exact hp.1
  have h5 : A.slots + (headSpec ws rm).room.slots ≤ R.slots := by rw [show (headSpec ws rm).room.slots = ms from hrs]; exact hp.2.1
  have hPc : Pc a (A.U.calling g mk a) := hblind _ _ _ _ hp.2.2
  obtain ⟨U, Ls, c0, s0⟩ := A
  dsimp only [Pt.U, Pt.locs, Pt.cells, Pt.slots] at h1 h2 h3 h4 h5 X hn hPc ⊢
  obtain ⟨m9, methY, cY, hn9, hmY, hcY, -, hlY, -⟩ := Cond.codeWith_spec h2
  cases Option.some.inj (hn9.symm.trans hn)
  obtain ⟨kY, hkY, -⟩ := className_of_methodNamed hn
  have hinitY : kY.init = .initialized := Cond.initialized_spec (findClass_of_methodNamed hn) hkY h3
  have h : At U g.method c below := by rw [hg]; exact X.here
  have hlocals9 : W9 + (maxL + 11) + (headSpec ws rm).room.locals ≤ R.locals := hlocals
  have happ : (headSpec ws rm).appliesLoose y e.platform (U.calling g mk a) = true :=
    Spec.appliesLoose_calling (g := g) h hdg hn hkY hinitY
      (X.room_calling (g := g) (R' := (headSpec ws rm).room) hsize hmY hcY hframes (by rw [hlY]; omega) h4 h5) h1
  obtain ⟨mid, hmid⟩ := h.above
  have hfr : (U.setTop g).frames = (.java g :: mid) ++ below := by rw [State.frames_setTop' g h.top, hmid]; rfl
  obtain ⟨o, s₂, hsteps, -, hend, hq⟩ := Steps.callFree hM p X.admits X.cas X.clock (acts := []) hfr happ hPc trivial
  have hq' : vx_Q Qc XC mc ms free a (U.calling g mk a) o s₂ := hq
  rw [State.frames_setTop' g h.top] at hend
  obtain ⟨g₀, hg0⟩ := Option.isSome_iff_exists.mp h.top
  obtain ⟨r, hr⟩ := State.topJava?_eq_some.mp hg0
  have hr' : (({ U with heap := s₂.heap, slotsUsed := s₂.slotsUsed } : State).setVm s₂.vm).frames = .java g₀ :: r := hr
  rcases hq' with ⟨hqc, L, hfe, hL⟩ | ⟨q, rfl, E, ce, L, hx, hce, hcv, hcl, hW₂, hsm, hL⟩
  · obtain ⟨⟨v, rfl⟩, hW₂, e2, q2, q3, q4, q5, q6⟩ := id hfe
    have e3 : s₂ = ({ (U.calling g mk a).setFrames s₂.frames with heap := s₂.heap, slotsUsed := s₂.slotsUsed } : State).setVm s₂.vm := by
      have : s₂ = ({ s₂ with vm := (U.calling g mk a).vm } : State).setVm s₂.vm := rfl
      rw [e2] at this
      exact this
    obtain ⟨c₂, i₂, len₂, hc₂, hd₂, hf₂⟩ := hend
    have hW' : U.WarmedH s₂.vm := hW₂
    have hcc : c₂ = c := by
      have h1 : s₂.code? g.method = U.code? g.method := by
        rw [State.code?_eq, State.code?_eq, hW'.alike.method?]
      exact Option.some.inj (hc₂.symm.trans (h1.trans h.code))
    subst hcc
    have hlen : len₂ = len := by rw [hdg] at hd₂; cases hd₂; rfl
    subst hlen
    have hs₂ : s₂ = (({ U with heap := s₂.heap, slotsUsed := s₂.slotsUsed } : State).setVm s₂.vm).setTop { g with pc := g.pc + len₂, stack := v.toList ++ g.stack } := by
      refine e3.trans ?_
      rw [hf₂, State.calling_eq h.top, State.setFrames_setFrames, State.setTop_of_frames _ hr', hr]
      rfl
    have hsame : U.sameButNew ({ U with heap := s₂.heap, slotsUsed := s₂.slotsUsed } : State) L mc ms := by
      refine ⟨?_, q2, q3, q4, q5, q6⟩
      obtain ⟨t, ht, -⟩ := State.frames_cons hr
      show ({ U with heap := s₂.heap, slotsUsed := s₂.slotsUsed } : State) = { U.setFrames U.frames with heap := s₂.heap, slotsUsed := s₂.slotsUsed }
      rw [State.setFrames_self ht]
    subst hg
    refine Or.inl ⟨v, ⟨(({ U with heap := s₂.heap, slotsUsed := s₂.slotsUsed } : State).setVm s₂.vm), Ls ++ L, c0 + mc, s0 + ms⟩,
      ⟨X.admits, X.cas, X.clock, X.frames, X.room, X.hears, X.method, X.code, (X.here.setHeapUsed s₂.heap s₂.slotsUsed).setVm hW'.alike, X.tail, State.WarmedH.trans X.warmed hW', X.limits, X.bytes, X.same.trans (hsame.setVm s.vm)⟩,
      ⟨g, mk, s₂, L, rfl, rfl, hqc, rfl, hL, rfl, rfl⟩, ?_⟩
    show Steps p.tables e below _ ((({ U with heap := s₂.heap, slotsUsed := s₂.slotsUsed } : State).setVm s₂.vm).setTop { g with pc := g.pc + len₂, stack := v.toList ++ g.stack })
    rw [← hs₂]
    exact hsteps
  · obtain ⟨e2, q2, q3, q4, q5, q6⟩ := id hsm
    have e3 : s₂ = ({ (U.calling g mk a).setFrames s₂.frames with heap := s₂.heap, slotsUsed := s₂.slotsUsed } : State).setVm s₂.vm := by
      have : s₂ = ({ s₂ with vm := (U.calling g mk a).vm } : State).setVm s₂.vm := rfl
      rw [e2] at this
      exact this
    have hf₂ : s₂.frames = .throwing q :: .java g :: U.frames.tail := hend
    have hW' : U.WarmedH s₂.vm := hW₂
    have hs₂ : s₂ = ((({ U with heap := s₂.heap, slotsUsed := s₂.slotsUsed } : State).setVm s₂.vm).setTop g).pushFrame (.throwing q) := by
      refine e3.trans ?_
      rw [hf₂, State.calling_eq h.top, State.setFrames_setFrames, State.pushFrame, State.frames_setTop _ hr', State.setTop_of_frames _ hr', State.setFrames_setFrames, hr]
      rfl
    have hsame : U.sameButNew ({ U with heap := s₂.heap, slotsUsed := s₂.slotsUsed } : State) L mc ms := by
      refine ⟨?_, q2, q3, q4, q5, q6⟩
      obtain ⟨t, ht, -⟩ := State.frames_cons hr
      show ({ U with heap := s₂.heap, slotsUsed := s₂.slotsUsed } : State) = { U.setFrames U.frames with heap := s₂.heap, slotsUsed := s₂.slotsUsed }
      rw [State.setFrames_self ht]
    subst hg
    refine Or.inr ⟨q, ⟨(({ U with heap := s₂.heap, slotsUsed := s₂.slotsUsed } : State).setVm s₂.vm), Ls ++ L, c0 + mc, s0 + ms⟩,
      ⟨X.admits, X.cas, X.clock, X.frames, X.room, X.hears, X.method, X.code, (X.here.setHeapUsed s₂.heap s₂.slotsUsed).setVm hW'.alike, X.tail, State.WarmedH.trans X.warmed hW', X.limits, X.bytes, X.same.trans (hsame.setVm s.vm)⟩,
      ⟨g, mk, s₂, L, E, ce, rfl, rfl, hx, hce, hcv, hcl, rfl, hL, rfl, rfl⟩, ?_⟩
    show Steps p.tables e below _ (((({ U with heap := s₂.heap, slotsUsed := s₂.slotsUsed } : State).setVm s₂.vm).setTop g).pushFrame (.throwing q))
    rw [← hs₂]
    exact hsteps
end
variable {p : Program} {l : Launch} {e : Env} {R : Room} {s : State} {m : MethodId} {args : Array Value} {below : List Frame} {meth : Method} {c : Code} {T : State} {H : Heap} {locs : List Loc} {cells slots : Nat}
theorem vx_callVX (X : Stand p l e R s m args below meth c T locs cells slots) (hexec : p.tables.exec = Jvm.exec) {own C : String} {index : Nat} {y : MethodName} {bytes : ByteArray} {maxL : Nat} {ret : Option FieldType} {hh : List (Nat × Nat × Nat × Nat)}
    (hown : s.vm.findClass own = some m.cls) (hlink : (Cond.methodLink own index y).before args s = true) (hinst : (Cond.instanceMethod y).before args s = true) (hsel : (Cond.selects C y y).before args s = true)
    (hcode : (Cond.codeWith y bytes maxL ret hh).before args s = true) (hy : y.cls ≠ "java/lang/invoke/MethodHandle" ∧ y.cls ≠ "java/lang/invoke/VarHandle")
    {W9 : Nat} {Pre : Pt → Array Value → Prop} {Post : Pt → Array Value → Option Value → Pt → Prop} {PostX : Pt → Array Value → Addr → Pt → Prop} (hK : vx_Back l R p e below s args y 3 W9 Pre Post PostX)
    {b : Addr} {cellB : Cell} (hcell : T.heap[b]? = some cellB) (hobj : cellB.vm.isStatics = false) (hcls : s.vm.findClass C = some cellB.cls)
    {g : JFrame} (hg : g.method = m) (hsize : g.locals.size = c.maxLocals) {argsL rest : List Value} (hlen : ∀ sig, parseMethodDescriptor y.desc = some sig → argsL.length = sig.parameters.length)
    (hstack : g.stack = argsL.reverse ++ .ref b :: rest) (hW : 2 * g.monitorRoom + (rest.map fun v => v.category).sum ≤ W9) (hdg : decode c.code g.pc = .ok (.invokevirtual index, 3))
    (hpre : ∀ vm₁, s.WarmedH vm₁ → Pre ⟨T.setVm vm₁, locs, cells, slots⟩ (Value.ref b :: argsL).toArray) :
    (∃ (v : Option Value) (vm₁ : Vm) (B : Pt), s.WarmedH vm₁ ∧ Stand p l e R s m args below meth c B.U B.locs B.cells B.slots ∧ Post ⟨T.setVm vm₁, locs, cells, slots⟩ (Value.ref b :: argsL).toArray v B ∧
      ∀ target, Steps p.tables e below (B.U.setTop { g with pc := g.pc + 3, stack := v.toList ++ rest }) target → Steps p.tables e below (T.setTop g) target) ∨
    (∃ (q : Addr) (vm₁ : Vm) (B : Pt), s.WarmedH vm₁ ∧ Stand p l e R s m args below meth c B.U B.locs B.cells B.slots ∧ PostX ⟨T.setVm vm₁, locs, cells, slots⟩ (Value.ref b :: argsL).toArray q B ∧
      Steps p.tables e below (T.setTop g) ((B.U.setTop { g with stack := rest }).pushFrame (.throwing q))) := by
  obtain ⟨mk, methM, hnamed, hmethM, hstM, habM⟩ := Cond.instanceMethod_spec hinst
  obtain ⟨m8, methM', cM, hn8, hmethM', -, -, -, -, -, -, hsigM⟩ := Cond.codeWith_spec hcode
  cases Option.some.inj (hn8.symm.trans hnamed)
  cases hmethM.symm.trans hmethM'
  obtain ⟨c2, r2, m2, q1, q2, q3, q4, kP, hkP, hkPi⟩ := Cond.selects_spec hsel
  cases hcls.symm.trans q1
  cases (State.methodFound?_of_named hnamed hy).symm.trans q2
  cases hnamed.symm.trans q3
  have hselP : selectMethod e.platform s.vm cellB.cls mk = .method mk := by rw [Launch.admits_selectMethod X.admits]; exact q4
  obtain ⟨vm₁, X₁, hstep₁⟩ := X.invokevirtual hexec hown hlink hnamed hmethM hstM hkP hkPi hy (a := b) (cell := cellB) hcell
    (fun z h => by rw [h] at hobj; cases hobj) hselP hmethM habM hkP hkPi (g := g) hg (argsL := argsL) (rest := rest) (hlen _ hsigM) hstack hdg
  rcases hK m meth c ⟨T.setVm vm₁, locs, cells, slots⟩ { g with stack := rest } (.invokevirtual index) mk (Value.ref b :: argsL).toArray X₁ hg hsize hdg hW (X₁.named hnamed) (hpre vm₁ X₁.warmed) with ⟨v, B, X', hpost, hsteps⟩ | ⟨q, B, X', hpost, hsteps⟩
  · exact Or.inl ⟨v, vm₁, B, X₁.warmed, X', hpost, fun target h => hstep₁ _ fun acts => by rw [doInvoke_state]; exact hsteps.trans h⟩
  · exact Or.inr ⟨q, vm₁, B, X₁.warmed, X', hpost, hstep₁ _ fun acts => by rw [doInvoke_state]; exact hsteps⟩
theorem vx_callSX (X : Stand p l e R s m args below meth c T locs cells slots) (hexec : p.tables.exec = Jvm.exec) {own : String} {index : Nat} {y : MethodName} {bytes : ByteArray} {maxL : Nat} {ret : Option FieldType} {hh : List (Nat × Nat × Nat × Nat)}
    (hown : s.vm.findClass own = some m.cls) (hlink : (Cond.methodLink own index y).before args s = true) (hstat : (Cond.static y).before args s = true) (hinit : (Cond.initialized y.cls).before args s = true)
    (hcode : (Cond.codeWith y bytes maxL ret hh).before args s = true) (hy : y.cls ≠ "java/lang/invoke/MethodHandle" ∧ y.cls ≠ "java/lang/invoke/VarHandle")
    {W9 : Nat} {Pre : Pt → Array Value → Prop} {Post : Pt → Array Value → Option Value → Pt → Prop} {PostX : Pt → Array Value → Addr → Pt → Prop} (hK : vx_Back l R p e below s args y 3 W9 Pre Post PostX)
    {g : JFrame} (hg : g.method = m) (hsize : g.locals.size = c.maxLocals) {argsL rest : List Value} (hlen : ∀ sig, parseMethodDescriptor y.desc = some sig → argsL.length = sig.parameters.length)
    (hstack : g.stack = argsL.reverse ++ rest) (hW : 2 * g.monitorRoom + (rest.map fun v => v.category).sum ≤ W9) (hdg : decode c.code g.pc = .ok (.invokestatic index, 3))
    (hpre : ∀ vm₁, s.WarmedH vm₁ → Pre ⟨T.setVm vm₁, locs, cells, slots⟩ argsL.toArray) :
    (∃ (v : Option Value) (vm₁ : Vm) (B : Pt), s.WarmedH vm₁ ∧ Stand p l e R s m args below meth c B.U B.locs B.cells B.slots ∧ Post ⟨T.setVm vm₁, locs, cells, slots⟩ argsL.toArray v B ∧
      ∀ target, Steps p.tables e below (B.U.setTop { g with pc := g.pc + 3, stack := v.toList ++ rest }) target → Steps p.tables e below (T.setTop g) target) ∨
    (∃ (q : Addr) (vm₁ : Vm) (B : Pt), s.WarmedH vm₁ ∧ Stand p l e R s m args below meth c B.U B.locs B.cells B.slots ∧ PostX ⟨T.setVm vm₁, locs, cells, slots⟩ argsL.toArray q B ∧
      Steps p.tables e below (T.setTop g) ((B.U.setTop { g with stack := rest }).pushFrame (.throwing q))) := by
  obtain ⟨mk, methM, cM, hnamed, hmethM, -, -, -, -, -, -, hsigM⟩ := Cond.codeWith_spec hcode
  have hstatic : methM.isStatic = true := Cond.static_spec hnamed hmethM hstat
  obtain ⟨kP, hkP, -⟩ := className_of_methodNamed hnamed
  have hinitP : kP.init = .initialized := Cond.initialized_spec (findClass_of_methodNamed hnamed) hkP hinit
  obtain ⟨vm₁, X₁, hstep₁⟩ := X.invokestatic hexec hown hlink hnamed hmethM hstatic hkP hinitP hy (g := g) hg (argsL := argsL) (rest := rest) (hlen _ hsigM) hstack hdg
  rcases hK m meth c ⟨T.setVm vm₁, locs, cells, slots⟩ { g with stack := rest } (.invokestatic index) mk argsL.toArray X₁ hg hsize hdg hW (X₁.named hnamed) (hpre vm₁ X₁.warmed) with ⟨v, B, X', hpost, hsteps⟩ | ⟨q, B, X', hpost, hsteps⟩
  · exact Or.inl ⟨v, vm₁, B, X₁.warmed, X', hpost, fun target h => hstep₁ _ fun acts => by rw [doInvoke_state]; exact hsteps.trans h⟩
  · exact Or.inr ⟨q, vm₁, B, X₁.warmed, X', hpost, hstep₁ _ fun acts => by rw [doInvoke_state]; exact hsteps⟩
theorem vx_callVW (X : Stand p l e R s m args below meth c T locs cells slots) (hexec : p.tables.exec = Jvm.exec) {own C : String} {index : Nat} {y : MethodName} {bytes : ByteArray} {maxL : Nat} {ret : Option FieldType} {hh : List (Nat × Nat × Nat × Nat)}
    (hown : s.vm.findClass own = some m.cls) (hlink : (Cond.methodLink own index y).before args s = true) (hinst : (Cond.instanceMethod y).before args s = true) (hsel : (Cond.selects C y y).before args s = true)
    (hcode : (Cond.codeWith y bytes maxL ret hh).before args s = true) (hy : y.cls ≠ "java/lang/invoke/MethodHandle" ∧ y.cls ≠ "java/lang/invoke/VarHandle")
    {W9 : Nat} {Pre : Pt → Array Value → Prop} {Post : Pt → Array Value → Option Value → Pt → Prop} (hK : Back l R p e below s args y 3 W9 Pre Post)
    {b : Addr} {cellB : Cell} (hcell : T.heap[b]? = some cellB) (hobj : cellB.vm.isStatics = false) (hcls : s.vm.findClass C = some cellB.cls)
    {g : JFrame} (hg : g.method = m) (hsize : g.locals.size = c.maxLocals) {argsL rest : List Value} (hlen : ∀ sig, parseMethodDescriptor y.desc = some sig → argsL.length = sig.parameters.length)
    (hstack : g.stack = argsL.reverse ++ .ref b :: rest) (hW : 2 * g.monitorRoom + (rest.map fun v => v.category).sum ≤ W9) (hdg : decode c.code g.pc = .ok (.invokevirtual index, 3))
    (hpre : ∀ vm₁, s.WarmedH vm₁ → Pre ⟨T.setVm vm₁, locs, cells, slots⟩ (Value.ref b :: argsL).toArray) :
    ∃ (v : Option Value) (vm₁ : Vm) (B : Pt), s.WarmedH vm₁ ∧ Stand p l e R s m args below meth c B.U B.locs B.cells B.slots ∧ Post ⟨T.setVm vm₁, locs, cells, slots⟩ (Value.ref b :: argsL).toArray v B ∧
      ∀ target, Steps p.tables e below (B.U.setTop { g with pc := g.pc + 3, stack := v.toList ++ rest }) target → Steps p.tables e below (T.setTop g) target := by
  obtain ⟨mk, methM, hnamed, hmethM, hstM, habM⟩ := Cond.instanceMethod_spec hinst
  obtain ⟨m8, methM', cM, hn8, hmethM', -, -, -, -, -, -, hsigM⟩ := Cond.codeWith_spec hcode
  cases Option.some.inj (hn8.symm.trans hnamed)
  cases hmethM.symm.trans hmethM'
  obtain ⟨c2, r2, m2, q1, q2, q3, q4, kP, hkP, hkPi⟩ := Cond.selects_spec hsel
  cases hcls.symm.trans q1
  cases (State.methodFound?_of_named hnamed hy).symm.trans q2
  cases hnamed.symm.trans q3
  have hselP : selectMethod e.platform s.vm cellB.cls mk = .method mk := by rw [Launch.admits_selectMethod X.admits]; exact q4
  obtain ⟨vm₁, X₁, hstep₁⟩ := X.invokevirtual hexec hown hlink hnamed hmethM hstM hkP hkPi hy (a := b) (cell := cellB) hcell
    (fun z h => by rw [h] at hobj; cases hobj) hselP hmethM habM hkP hkPi (g := g) hg (argsL := argsL) (rest := rest) (hlen _ hsigM) hstack hdg
  obtain ⟨v, B, X', hpost, hsteps⟩ := hK m meth c ⟨T.setVm vm₁, locs, cells, slots⟩ { g with stack := rest } (.invokevirtual index) mk (Value.ref b :: argsL).toArray X₁ hg hsize hdg hW (X₁.named hnamed) (hpre vm₁ X₁.warmed)
  exact ⟨v, vm₁, B, X₁.warmed, X', hpost, fun target h => hstep₁ _ fun acts => by rw [doInvoke_state]; exact hsteps.trans h⟩
abbrev vx_CVW (R : Room) (s : State) (args : Array Value) (own C : String) (index : Nat) (y : MethodName) (bytes : ByteArray) (maxL : Nat) (ret : Option FieldType) (hh : List (Nat × Nat × Nat × Nat)) (ws : List Cond) (rm : Room) (mc ms n : Nat) : Prop :=
  (rm.cells = mc ∧ rm.slots = ms ∧ rm.frames + 1 ≤ R.frames ∧ 8 + (maxL + 11) + rm.locals ≤ R.locals ∧ (∀ w ∈ ws, ∀ (a' : Array Value) (U : State), s.WarmedH U.vm → w.before a' U = true) ∧ Cond.codeWith y bytes maxL ret hh ∈ ws) ∧
  (Cond.codeWith y bytes maxL ret hh).before args s = true ∧ (Cond.initialized y.cls).before args s = true ∧ (y.cls ≠ "java/lang/invoke/MethodHandle" ∧ y.cls ≠ "java/lang/invoke/VarHandle") ∧
  (∀ sig, parseMethodDescriptor y.desc = some sig → n = sig.parameters.length) ∧ (Cond.methodLink own index y).before args s = true ∧ (Cond.instanceMethod y).before args s = true ∧ (Cond.selects C y y).before args s = true
theorem vx_cwVW {own C : String} {index maxL mc ms : Nat} {y : MethodName} {bytes : ByteArray} {ret : Option FieldType} {hh : List (Nat × Nat × Nat × Nat)} {Ts ws ws' : List Cond} {rm : Room} (n : Nat) (ht : ∀ w ∈ Ts, w.before args s = true) (hT : GoodIn Ts (wsV own index C y ws)) (hw : ws = Cond.codeWith y bytes maxL ret hh :: ws') (hrc : rm.cells = mc) (hrs : rm.slots = ms)
    (hd : y.cls = C ∧ y.cls ≠ "java/lang/invoke/MethodHandle" ∧ y.cls ≠ "java/lang/invoke/VarHandle" ∧ (parseMethodDescriptor y.desc).map (fun d => d.parameters.length) = some n) (hR : rm.frames + 1 ≤ R.frames ∧ 8 + (maxL + 11) + rm.locals ≤ R.locals) :
    vx_CVW R s args own C index y bytes maxL ret hh ws rm mc ms n := by
  obtain ⟨hC, hd⟩ := hd
  subst hC
  have ok : ∀ w ∈ wsV own index y.cls y ws, w.before args s = true := fun w h => ht w (hT w h).1
  have hG : GoodIn Ts ws := fun w h => hT w (by unfold wsV; exact List.mem_append_right _ h)
  have hc : Cond.codeWith y bytes maxL ret hh ∈ ws := by rw [hw]; exact List.mem_cons_self
  refine ⟨⟨hrc, hrs, hR.1, hR.2, pay_in ht hG, hc⟩, ht _ (hG _ hc).1, ok _ (by simp [wsV]), ⟨hd.1, hd.2.1⟩, fun sig h => ?_, ok _ (by simp [wsV]), ok _ (by simp [wsV]), ok _ (by simp [wsV])⟩
  have h2 := hd.2.2
  rw [h] at h2
  exact (Option.some.inj h2).symm
theorem vx_runVW {y : MethodName} {bytes cc : ByteArray} {maxL nL mc ms n index : Nat} {ret : Option FieldType} {hh : List (Nat × Nat × Nat × Nat)} {ws : List Cond} {rm : Room} {Pc : Array Value → State → Prop} {Qc : Array Value → State → Outcome → State → Prop} {free : Addr → Prop} {Ts : List Cond} {own C : String} {b : Addr} {As rest : List Value} {g : JFrame}
    (S : CallFix p m c cc nL s args Ts own) (hM : Met l y ws rm Pc Qc mc ms free) (cw : vx_CVW R s args own C index y bytes maxL ret hh ws rm mc ms n) (hp : PreV s H C b Pc As)
    (hg : g.method = m) (hn : As.length = n) (hsize : g.locals.size = nL) (hstack : g.stack = As.reverse ++ .ref b :: rest) (hW : 2 * g.monitorRoom + (rest.map fun v => v.category).sum ≤ 8) (hdg : decode cc g.pc = .ok (.invokevirtual index, 3)) (hf : cells + mc ≤ R.cells ∧ slots + ms ≤ R.slots) :
    va_Run p l e R s m args below meth c H locs cells slots mc ms g rest (Qc (Value.ref b :: As).toArray) free := by
  obtain ⟨⟨hrc, hrs, hfr, hlo, hws, hcw⟩, hcode, hini, hy, hlen, hl, hin, hse⟩ := cw
  have hK : Back l R p e below s args y 3 8 (PreOf R mc ms Pc) (PostOf Qc mc ms free) := va_backW (hh := hh) (bytes := bytes) (maxL := maxL) (ret := ret) hM hp.1 hrc hrs hfr hlo hws hcw (fun a' U hW => word_at hW (Or.inl (by first | rfl | simp [Cond.onTables, Cond.keeps, Cond.steady])) hini)
  obtain ⟨hx, hb, hml, ho, -⟩ := S
  obtain ⟨-, ⟨cellB, hcB, hoB, hclB⟩, hPc⟩ := hp
  intro T hT X
  obtain ⟨v, vm₁, ⟨U', l2, c2, s2⟩, hW₁, X', ⟨g', mk, t, L, e1, e2, hq, h1, hL, h2, h3⟩, st⟩ := vx_callVW X hx (C := C) (hh := hh) (bytes := bytes) (maxL := maxL) (ret := ret) ho hl hin hse hcode hy hK (by rw [hT]; exact hcB) hoB hclB hg (hsize.trans hml.symm) (argsL := As) (rest := rest) (fun sig h => hn.trans (hlen sig h)) hstack hW (by rw [hb]; exact hdg)
    (fun vm₁ hW₁ => ⟨hf.1, hf.2, hPc (T.setVm vm₁) hT hW₁⟩)
  dsimp only [Pt.U, Pt.locs, Pt.cells, Pt.slots] at X' e1 e2 h1 h2 h3 st
  subst h1; subst h2; subst h3
  exact ⟨v, (T.setVm vm₁).calling g' mk (Value.ref b :: As).toArray, t, U', L, hT, X', hL, e1, e2, hq, st⟩
section
variable {y : MethodName} {bytes cc : ByteArray} {maxL nL mc ms n index : Nat} {ret : Option FieldType} {ws : List Cond} {rm : Room} {Pc : Array Value → State → Prop} {Qc : Array Value → State → Outcome → State → Prop} {XC : String → State → State → Prop} {free : Addr → Prop} {Ts : List Cond} {own C : String} {b : Addr} {As rest : List Value} {g : JFrame}
theorem vx_runVX {hh : List (Nat × Nat × Nat × Nat)} (S : CallFix p m c cc nL s args Ts own) (hM : vx_Met l y ws rm Pc Qc XC mc ms free) (cw : vx_CVW R s args own C index y bytes maxL ret hh ws rm mc ms n) (hp : PreV s H C b Pc As)
    (hg : g.method = m) (hn : As.length = n) (hsize : g.locals.size = nL) (hstack : g.stack = As.reverse ++ .ref b :: rest) (hW : 2 * g.monitorRoom + (rest.map fun v => v.category).sum ≤ 8) (hdg : decode cc g.pc = .ok (.invokevirtual index, 3)) (hf : cells + mc ≤ R.cells ∧ slots + ms ≤ R.slots) :
    vx_Run p l e R s m args below meth c H locs cells slots mc ms g rest (Qc (Value.ref b :: As).toArray) XC free := by
  obtain ⟨⟨hrc, hrs, hfr, hlo, hws, hcw⟩, hcode, hini, hy, hlen, hl, hin, hse⟩ := cw
  have hK : vx_Back l R p e below s args y 3 8 (PreOf R mc ms Pc) (PostOf Qc mc ms free) (vx_Post XC mc ms free) := vx_backW (hh := hh) (bytes := bytes) (maxL := maxL) (ret := ret) hM hp.1 hrc hrs hfr hlo hws hcw (fun a' U hW => word_at hW (Or.inl (by first | rfl | simp [Cond.onTables, Cond.keeps, Cond.steady])) hini)
  obtain ⟨hx, hb, hml, ho, -⟩ := S
  obtain ⟨-, ⟨cellB, hcB, hoB, hclB⟩, hPc⟩ := hp
  intro T hT X
  rcases vx_callVX X hx (C := C) (hh := hh) (bytes := bytes) (maxL := maxL) (ret := ret) ho hl hin hse hcode hy hK (by rw [hT]; exact hcB) hoB hclB hg (hsize.trans hml.symm) (argsL := As) (rest := rest) (fun sig h => hn.trans (hlen sig h)) hstack hW (by rw [hb]; exact hdg)
    (fun vm₁ hW₁ => ⟨hf.1, hf.2, hPc (T.setVm vm₁) hT hW₁⟩) with ⟨v, vm₁, ⟨U', l2, c2, s2⟩, hW₁, X', ⟨g', mk, t, L, e1, e2, hq, h1, hL, h2, h3⟩, st⟩ | ⟨q, vm₁, ⟨U', l2, c2, s2⟩, hW₁, X', ⟨g', mk, t, L, E, ce, e1, e2, hq, hce, hcv, hcl, h1, hL, h2, h3⟩, st⟩
  · dsimp only [Pt.U, Pt.locs, Pt.cells, Pt.slots] at X' e1 e2 h1 h2 h3 st
    subst h1; subst h2; subst h3
    exact Or.inl ⟨v, (T.setVm vm₁).calling g' mk (Value.ref b :: As).toArray, t, U', L, hT, X', hL, e1, e2, hq, st⟩
  · dsimp only [Pt.U, Pt.locs, Pt.cells, Pt.slots] at X' e1 e2 h1 h2 h3 st hcl
    subst h1; subst h2; subst h3
    exact Or.inr ⟨q, (T.setVm vm₁).calling g' mk (Value.ref b :: As).toArray, t, U', L, E, ce, hT, X', hL, e1, e2, hq, hce, hcv, vx_cls hW₁ hcl, st⟩
theorem vx_runSX {hh : List (Nat × Nat × Nat × Nat)} (S : CallFix p m c cc nL s args Ts own) (hM : vx_Met l y ws rm Pc Qc XC mc ms free) (cw : vx_CSW R s args own index y bytes maxL ret hh ws rm mc ms n) (hp : PreS s H Pc As)
    (hg : g.method = m) (hn : As.length = n) (hsize : g.locals.size = nL) (hstack : g.stack = As.reverse ++ rest) (hW : 2 * g.monitorRoom + (rest.map fun v => v.category).sum ≤ 8) (hdg : decode cc g.pc = .ok (.invokestatic index, 3)) (hf : cells + mc ≤ R.cells ∧ slots + ms ≤ R.slots) :
    vx_Run p l e R s m args below meth c H locs cells slots mc ms g rest (Qc As.toArray) XC free := by
  obtain ⟨⟨hrc, hrs, hfr, hlo, hws, hcw⟩, hcode, hini, hy, hlen, hl, hstt⟩ := cw
  have hK : vx_Back l R p e below s args y 3 8 (PreOf R mc ms Pc) (PostOf Qc mc ms free) (vx_Post XC mc ms free) := vx_backW (hh := hh) (bytes := bytes) (maxL := maxL) (ret := ret) hM hp.1 hrc hrs hfr hlo hws hcw (fun a' U hW => word_at hW (Or.inl (by first | rfl | simp [Cond.onTables, Cond.keeps, Cond.steady])) hini)
  obtain ⟨hx, hb, hml, ho, -⟩ := S
  intro T hT X
  rcases vx_callSX X hx (hh := hh) (bytes := bytes) (maxL := maxL) (ret := ret) ho hl hstt hini hcode hy hK hg (hsize.trans hml.symm) (argsL := As) (rest := rest) (fun sig h => hn.trans (hlen sig h)) hstack hW (by rw [hb]; exact hdg)
    (fun vm₁ hW₁ => ⟨hf.1, hf.2, hp.2 (T.setVm vm₁) hT hW₁⟩) with ⟨v, vm₁, ⟨U', l2, c2, s2⟩, hW₁, X', ⟨g', mk, t, L, e1, e2, hq, h1, hL, h2, h3⟩, st⟩ | ⟨q, vm₁, ⟨U', l2, c2, s2⟩, hW₁, X', ⟨g', mk, t, L, E, ce, e1, e2, hq, hce, hcv, hcl, h1, hL, h2, h3⟩, st⟩
  · dsimp only [Pt.U, Pt.locs, Pt.cells, Pt.slots] at X' e1 e2 h1 h2 h3 st
    subst h1; subst h2; subst h3
    exact Or.inl ⟨v, (T.setVm vm₁).calling g' mk As.toArray, t, U', L, hT, X', hL, e1, e2, hq, st⟩
  · dsimp only [Pt.U, Pt.locs, Pt.cells, Pt.slots] at X' e1 e2 h1 h2 h3 st hcl
    subst h1; subst h2; subst h3
    exact Or.inr ⟨q, (T.setVm vm₁).calling g' mk As.toArray, t, U', L, E, ce, hT, X', hL, e1, e2, hq, hce, hcv, vx_cls hW₁ hcl, st⟩
end
end VXH
theorem vx_ofWH {l : Launch} {y : MethodName} {ws ws' : List Cond} {rm : Room} {Pc : Array Value → State → Prop} {Qc : Array Value → State → Outcome → State → Prop} {XC : String → State → State → Prop} {mc ms : Nat} {free : Addr → Prop} {cc : ByteArray} {maxL : Nat} {ret : Option FieldType} {hh : List (Nat × Nat × Nat × Nat)}
    (hy : plainName y.cls = true) (hw : ws = Cond.codeWith y cc maxL ret hh :: ws')
    (body : ∀ p e s m args below meth c s₁, BodyLoose p l y (headSpec ws rm) cc maxL ret e s m args below meth c s₁ → c.maxLocals = maxL → Pc args s →
      W p l e (headSpec ws rm).room s m args below meth c s.heap [] 0 0 (vx_MQ below Qc XC args s mc ms free) (entryFrame m args maxL)) : vx_Met l y ws rm Pc Qc XC mc ms free := by
  refine MetFree.of_bodyS (code := cc) (maxLocals := maxL) (ret := ret) hy ?_ ?_
  · intro args s m h hn
    obtain ⟨m9, meth, c, hn9, h1, h2, h3, h4, -, h5, h6, -⟩ := Cond.codeWith_spec (atoms_spec (ws := ws) h _ (by rw [hw]; exact List.mem_cons_self))
    cases hn.symm.trans hn9
    exact ⟨meth, c, h1, h2, h3, h4, h5, h6⟩
  · intro p e s m args below meth c s₁ B hml hP _
    have hh0 : s₁.heap = s.heap := by rw [B.state]; rfl
    obtain ⟨t, a1, o, b1, b2, b3⟩ := body p e s m args below meth c s₁ B hml hP s₁ hh0 (Stand.of_body B)
    exact ⟨t, o, a1, b1, b2, b3⟩
/-! ===== END ===== -/
end
section
/-! the words that every method stands on: the good ones of the tables -/
def ga_T : List Cond := lw_tbl.filter goodWord
theorem ga_Tgood : ∀ w ∈ ga_T, (w.onTables && w.keeps) = true ∨ ∃ ty, w = .arrayClass ty := fun w h => good_of_word (List.mem_filter.mp h).2
theorem ga_tb {w : Cond} {i : Nat} (h : tables_1[i]? = some w) (g : goodWord w = true) : w ∈ ga_T := List.mem_filter.mpr ⟨List.mem_append_right _ (List.mem_of_getElem? h), g⟩
theorem ga_sl {w : Cond} {i : Nat} (h : (k2_sels lw_privs)[i]? = some w) (g : goodWord w = true) : w ∈ ga_T := List.mem_filter.mpr ⟨List.mem_append_left _ (List.mem_of_getElem? h), g⟩
def R_NetWires : String := "NetWires"
def F_NetWires : u_T := fun k => match k with
  | 0 => ("NetWires", "tape", "LNetWires$Tape;", true)
  | 1 => ("NetWires", "agenda", "LNetWires$Agenda;", true)
  | 2 => ("NetWires", "history", "LNetWires$History;", true)
  | 3 => ("NetWires", "disturbance", "LNetWires$Noise;", true)
  | 4 => ("NetWires", "delays", "[I", true)
  | 5 => ("NetWires", "now", "I", false)
  | 6 => ("NetWires", "nextNumber", "I", false)
  | 7 => ("NetWires", "partedSet", "I", false)
  | 8 => ("NetWires", "downSet", "I", false)
  | 9 => ("NetWires", "everOnWay", "I", false)
  | 10 => ("NetWires", "lost", "I", false)
  | _ => ("NetWires", "arrivedBytes", "[B", false)
def t_NetWires : Nat → FieldType := fun k => match k with
  | 0 => .object "NetWires$Tape"
  | 1 => .object "NetWires$Agenda"
  | 2 => .object "NetWires$History"
  | 3 => .object "NetWires$Noise"
  | 4 => .array .int
  | 5 => .int
  | 6 => .int
  | 7 => .int
  | 8 => .int
  | 9 => .int
  | 10 => .int
  | _ => .array .byte
theorem n_NetWires : ∀ a, a < 12 → ∀ b, b < 12 → a ≠ b → (F_NetWires a).2.1 ≠ (F_NetWires b).2.1 := by decide +kernel
theorem t_NetWires_ok : ∀ k, k < 12 → parseFieldDescriptor (F_NetWires k).2.2.1 = some (t_NetWires k) := by decide +kernel
theorem i_NetWires : ∀ w ∈ u_ws R_NetWires F_NetWires 12, w ∈ ga_T := by
  intro w hw
  have h : u_ws R_NetWires F_NetWires 12 = [119, 121, 123, 125, 127, 129, 131, 133, 135, 137, 139, 141].filterMap (fun i => tables_1[i]?) := by decide +kernel
  have g : (u_ws R_NetWires F_NetWires 12).all goodWord = true := by decide +kernel
  have h2 := hw
  rw [h] at h2
  obtain ⟨i, -, hi⟩ := List.mem_filterMap.mp h2
  exact ga_tb hi (List.all_eq_true.mp g w hw)
def R_Tape : String := "NetWires$Tape"
def F_Tape : u_T := fun k => match k with
  | 0 => ("NetWires$Tape", "bytes", "[B", true)
  | _ => ("NetWires$Tape", "length", "I", false)
def t_Tape : Nat → FieldType := fun k => match k with
  | 0 => .array .byte
  | _ => .int
theorem n_Tape : ∀ a, a < 2 → ∀ b, b < 2 → a ≠ b → (F_Tape a).2.1 ≠ (F_Tape b).2.1 := by decide +kernel
theorem t_Tape_ok : ∀ k, k < 2 → parseFieldDescriptor (F_Tape k).2.2.1 = some (t_Tape k) := by decide +kernel
theorem i_Tape : ∀ w ∈ u_ws R_Tape F_Tape 2, w ∈ ga_T := by
  intro w hw
  have h : u_ws R_Tape F_Tape 2 = [34, 36].filterMap (fun i => tables_1[i]?) := by decide +kernel
  have g : (u_ws R_Tape F_Tape 2).all goodWord = true := by decide +kernel
  have h2 := hw
  rw [h] at h2
  obtain ⟨i, -, hi⟩ := List.mem_filterMap.mp h2
  exact ga_tb hi (List.all_eq_true.mp g w hw)
def R_Agenda : String := "NetWires$Agenda"
def F_Agenda : u_T := fun k => match k with
  | 0 => ("NetWires$Agenda", "events", "[LNetWires$Event;", true)
  | 1 => ("NetWires$Agenda", "size", "I", false)
  | _ => ("NetWires$Agenda", "messages", "I", false)
def t_Agenda : Nat → FieldType := fun k => match k with
  | 0 => .array (.object "NetWires$Event")
  | 1 => .int
  | _ => .int
theorem n_Agenda : ∀ a, a < 3 → ∀ b, b < 3 → a ≠ b → (F_Agenda a).2.1 ≠ (F_Agenda b).2.1 := by decide +kernel
theorem t_Agenda_ok : ∀ k, k < 3 → parseFieldDescriptor (F_Agenda k).2.2.1 = some (t_Agenda k) := by decide +kernel
theorem i_Agenda : ∀ w ∈ u_ws R_Agenda F_Agenda 3, w ∈ ga_T := by
  intro w hw
  have h : u_ws R_Agenda F_Agenda 3 = [52, 54, 56].filterMap (fun i => tables_1[i]?) := by decide +kernel
  have g : (u_ws R_Agenda F_Agenda 3).all goodWord = true := by decide +kernel
  have h2 := hw
  rw [h] at h2
  obtain ⟨i, -, hi⟩ := List.mem_filterMap.mp h2
  exact ga_tb hi (List.all_eq_true.mp g w hw)
def R_History : String := "NetWires$History"
def F_History : u_T := fun k => match k with
  | 0 => ("NetWires$History", "facts", "[I", true)
  | 1 => ("NetWires$History", "newest", "I", false)
  | 2 => ("NetWires$History", "kept", "I", false)
  | _ => ("NetWires$History", "total", "I", false)
def t_History : Nat → FieldType := fun k => match k with
  | 0 => .array .int
  | 1 => .int
  | 2 => .int
  | _ => .int
theorem n_History : ∀ a, a < 4 → ∀ b, b < 4 → a ≠ b → (F_History a).2.1 ≠ (F_History b).2.1 := by decide +kernel
theorem t_History_ok : ∀ k, k < 4 → parseFieldDescriptor (F_History k).2.2.1 = some (t_History k) := by decide +kernel
theorem i_History : ∀ w ∈ u_ws R_History F_History 4, w ∈ ga_T := by
  intro w hw
  have h : u_ws R_History F_History 4 = [70, 72, 74, 76].filterMap (fun i => tables_1[i]?) := by decide +kernel
  have g : (u_ws R_History F_History 4).all goodWord = true := by decide +kernel
  have h2 := hw
  rw [h] at h2
  obtain ⟨i, -, hi⟩ := List.mem_filterMap.mp h2
  exact ga_tb hi (List.all_eq_true.mp g w hw)
def R_Noise : String := "NetWires$Noise"
def F_Noise : u_T := fun k => match k with
  | 0 => ("NetWires$Noise", "loss", "I", false)
  | 1 => ("NetWires$Noise", "twice", "I", false)
  | 2 => ("NetWires$Noise", "spread", "I", false)
  | _ => ("NetWires$Noise", "draw", "J", false)
def t_Noise : Nat → FieldType := fun k => match k with
  | 0 => .int
  | 1 => .int
  | 2 => .int
  | _ => .long
theorem n_Noise : ∀ a, a < 4 → ∀ b, b < 4 → a ≠ b → (F_Noise a).2.1 ≠ (F_Noise b).2.1 := by decide +kernel
theorem t_Noise_ok : ∀ k, k < 4 → parseFieldDescriptor (F_Noise k).2.2.1 = some (t_Noise k) := by decide +kernel
theorem i_Noise : ∀ w ∈ u_ws R_Noise F_Noise 4, w ∈ ga_T := by
  intro w hw
  have h : u_ws R_Noise F_Noise 4 = [93, 95, 97, 99].filterMap (fun i => tables_1[i]?) := by decide +kernel
  have g : (u_ws R_Noise F_Noise 4).all goodWord = true := by decide +kernel
  have h2 := hw
  rw [h] at h2
  obtain ⟨i, -, hi⟩ := List.mem_filterMap.mp h2
  exact ga_tb hi (List.all_eq_true.mp g w hw)
def R_Event : String := "NetWires$Event"
def F_Event : u_T := fun k => match k with
  | 0 => ("NetWires$Event", "kind", "I", true)
  | 1 => ("NetWires$Event", "endpoint", "I", true)
  | 2 => ("NetWires$Event", "from", "I", true)
  | 3 => ("NetWires$Event", "time", "I", true)
  | 4 => ("NetWires$Event", "number", "I", true)
  | _ => ("NetWires$Event", "bytes", "[B", true)
def t_Event : Nat → FieldType := fun k => match k with
  | 0 => .int
  | 1 => .int
  | 2 => .int
  | 3 => .int
  | 4 => .int
  | _ => .array .byte
theorem n_Event : ∀ a, a < 6 → ∀ b, b < 6 → a ≠ b → (F_Event a).2.1 ≠ (F_Event b).2.1 := by decide +kernel
theorem t_Event_ok : ∀ k, k < 6 → parseFieldDescriptor (F_Event k).2.2.1 = some (t_Event k) := by decide +kernel
theorem i_Event : ∀ w ∈ u_ws R_Event F_Event 6, w ∈ ga_T := by
  intro w hw
  have h : u_ws R_Event F_Event 6 = [401, 403, 405, 407, 409, 411].filterMap (fun i => tables_1[i]?) := by decide +kernel
  have g : (u_ws R_Event F_Event 6).all goodWord = true := by decide +kernel
  have h2 := hw
  rw [h] at h2
  obtain ⟨i, -, hi⟩ := List.mem_filterMap.mp h2
  exact ga_tb hi (List.all_eq_true.mp g w hw)
def R_M : String := "NetWiresModel"
def F_M : u_T := fun k => match k with
  | 0 => ("NetWiresModel", "thrown", "I", false)
  | 1 => ("NetWiresModel", "now", "I", false)
  | 2 => ("NetWiresModel", "made", "I", false)
  | 3 => ("NetWiresModel", "times", "[I", true)
  | 4 => ("NetWiresModel", "sorts", "[I", true)
  | 5 => ("NetWiresModel", "whose", "[I", true)
  | 6 => ("NetWiresModel", "froms", "[I", true)
  | 7 => ("NetWiresModel", "begins", "[I", true)
  | 8 => ("NetWiresModel", "sizes", "[I", true)
  | 9 => ("NetWiresModel", "there", "[Z", true)
  | 10 => ("NetWiresModel", "used", "I", false)
  | 11 => ("NetWiresModel", "said", "[I", true)
  | 12 => ("NetWiresModel", "tape", "I", false)
  | 13 => ("NetWiresModel", "fed", "[I", true)
  | 14 => ("NetWiresModel", "delays", "[I", true)
  | 15 => ("NetWiresModel", "parted", "I", false)
  | 16 => ("NetWiresModel", "down", "I", false)
  | 17 => ("NetWiresModel", "loss", "I", false)
  | 18 => ("NetWiresModel", "twice", "I", false)
  | 19 => ("NetWiresModel", "spread", "I", false)
  | 20 => ("NetWiresModel", "draw", "J", false)
  | 21 => ("NetWiresModel", "onTheWay", "I", false)
  | 22 => ("NetWiresModel", "sent", "I", false)
  | 23 => ("NetWiresModel", "lost", "I", false)
  | 24 => ("NetWiresModel", "done", "I", false)
  | 25 => ("NetWiresModel", "codes", "[I", true)
  | 26 => ("NetWiresModel", "order", "[I", true)
  | _ => ("NetWiresModel", "arrived", "I", false)
def t_M : Nat → FieldType := fun k => match k with
  | 0 => .int
  | 1 => .int
  | 2 => .int
  | 3 => .array .int
  | 4 => .array .int
  | 5 => .array .int
  | 6 => .array .int
  | 7 => .array .int
  | 8 => .array .int
  | 9 => .array .boolean
  | 10 => .int
  | 11 => .array .int
  | 12 => .int
  | 13 => .array .int
  | 14 => .array .int
  | 15 => .int
  | 16 => .int
  | 17 => .int
  | 18 => .int
  | 19 => .int
  | 20 => .long
  | 21 => .int
  | 22 => .int
  | 23 => .int
  | 24 => .int
  | 25 => .array .int
  | 26 => .array .int
  | _ => .int
theorem n_M : ∀ a, a < 28 → ∀ b, b < 28 → a ≠ b → (F_M a).2.1 ≠ (F_M b).2.1 := by decide +kernel
theorem t_M_ok : ∀ k, k < 28 → parseFieldDescriptor (F_M k).2.2.1 = some (t_M k) := by decide +kernel
theorem i_M : ∀ w ∈ u_ws R_M F_M 28, w ∈ ga_T := by
  intro w hw
  have h : u_ws R_M F_M 28 = [582, 584, 586, 588, 590, 592, 594, 596, 598, 600, 602, 604, 606, 608, 610, 612, 614, 616, 618, 620, 622, 624, 626, 628, 630, 632, 634, 636].filterMap (fun i => tables_1[i]?) := by decide +kernel
  have g : (u_ws R_M F_M 28).all goodWord = true := by decide +kernel
  have h2 := hw
  rw [h] at h2
  obtain ⟨i, -, hi⟩ := List.mem_filterMap.mp h2
  exact ga_tb hi (List.all_eq_true.mp g w hw)
abbrev classes : List vw_C := [(R_NetWires, F_NetWires, 12), (R_Tape, F_Tape, 2), (R_Agenda, F_Agenda, 3), (R_History, F_History, 4), (R_Noise, F_Noise, 4), (R_Event, F_Event, 6), (R_M, F_M, 28)]
/-- a class of the list: its words, its fields' types, their names apart -/
def ga_Cl (ci : Nat) (C : String) (T : u_T) (N : Nat) : Prop :=
  classes[ci]? = some (C, T, N) ∧ (∀ w ∈ u_ws C T N, w ∈ ga_T) ∧ (∃ ty : Nat → FieldType, ∀ k, k < N → parseFieldDescriptor (T k).2.2.1 = some (ty k)) ∧ (∀ a, a < N → ∀ b, b < N → a ≠ b → (T a).2.1 ≠ (T b).2.1)
theorem cl_NetWires : ga_Cl 0 "NetWires" F_NetWires 12 := ⟨rfl, i_NetWires, ⟨t_NetWires, t_NetWires_ok⟩, n_NetWires⟩
theorem cl_Tape : ga_Cl 1 "NetWires$Tape" F_Tape 2 := ⟨rfl, i_Tape, ⟨t_Tape, t_Tape_ok⟩, n_Tape⟩
theorem cl_Agenda : ga_Cl 2 "NetWires$Agenda" F_Agenda 3 := ⟨rfl, i_Agenda, ⟨t_Agenda, t_Agenda_ok⟩, n_Agenda⟩
theorem cl_History : ga_Cl 3 "NetWires$History" F_History 4 := ⟨rfl, i_History, ⟨t_History, t_History_ok⟩, n_History⟩
theorem cl_Noise : ga_Cl 4 "NetWires$Noise" F_Noise 4 := ⟨rfl, i_Noise, ⟨t_Noise, t_Noise_ok⟩, n_Noise⟩
theorem cl_Event : ga_Cl 5 "NetWires$Event" F_Event 6 := ⟨rfl, i_Event, ⟨t_Event, t_Event_ok⟩, n_Event⟩
theorem cl_M : ga_Cl 6 "NetWiresModel" F_M 28 := ⟨rfl, i_M, ⟨t_M, t_M_ok⟩, n_M⟩
/-- what the calls of a method need of it -/
def ga_M (y : MethodName) (bytes : ByteArray) (maxL : Nat) (ret : Option FieldType) (n : Nat) : Prop :=
  (Cond.instanceMethod y ∈ ga_T ∧ Cond.selects y.cls y y ∈ ga_T ∧ Cond.initialized y.cls ∈ ga_T ∧ Cond.code y bytes maxL ret ∈ ga_T) ∧ (y.cls ≠ "java/lang/invoke/MethodHandle" ∧ y.cls ≠ "java/lang/invoke/VarHandle" ∧ (parseMethodDescriptor y.desc).map (fun d => d.parameters.length) = some n)
def ga_Ms (y : MethodName) (bytes : ByteArray) (maxL : Nat) (ret : Option FieldType) (n : Nat) : Prop :=
  (Cond.static y ∈ ga_T ∧ Cond.initialized y.cls ∈ ga_T ∧ Cond.code y bytes maxL ret ∈ ga_T) ∧ (y.cls ≠ "java/lang/invoke/MethodHandle" ∧ y.cls ≠ "java/lang/invoke/VarHandle" ∧ (parseMethodDescriptor y.desc).map (fun d => d.parameters.length) = some n)
def ga_Mi (y : MethodName) (bytes : ByteArray) (maxL n : Nat) : Prop :=
  (Cond.instanceMethod y ∈ ga_T ∧ Cond.initialized y.cls ∈ ga_T ∧ Cond.code y bytes maxL none ∈ ga_T ∧ y.name = "<init>") ∧ (y.cls ≠ "java/lang/invoke/MethodHandle" ∧ y.cls ≠ "java/lang/invoke/VarHandle" ∧ (parseMethodDescriptor y.desc).map (fun d => d.parameters.length) = some n)
def ga_Mw (y : MethodName) (bytes : ByteArray) (maxL : Nat) (ret : Option FieldType) (hh : List (Nat × Nat × Nat × Nat)) (n : Nat) : Prop :=
  (Cond.static y ∈ ga_T ∧ Cond.initialized y.cls ∈ ga_T ∧ Cond.codeWith y bytes maxL ret hh ∈ ga_T) ∧ (y.cls ≠ "java/lang/invoke/MethodHandle" ∧ y.cls ≠ "java/lang/invoke/VarHandle" ∧ (parseMethodDescriptor y.desc).map (fun d => d.parameters.length) = some n)
theorem in_objectInit : Cond.instanceMethod objectInit ∈ ga_T := ga_tb (i := 23) (by decide +kernel) rfl
theorem co_objectInit : Cond.code objectInit ⟨#[0xb1]⟩ 1 none ∈ ga_T := ga_tb (i := 24) rfl rfl
theorem ini_NetWires : Cond.initialized "NetWires" ∈ ga_T := ga_tb (i := 1) (by decide +kernel) rfl
theorem in_NetWires : Cond.instantiable "NetWires" 12 ∈ ga_T := ga_tb (i := 18) (by decide +kernel) rfl
theorem ini_Tape : Cond.initialized "NetWires$Tape" ∈ ga_T := ga_tb (i := 2) (by decide +kernel) rfl
theorem in_Tape : Cond.instantiable "NetWires$Tape" 2 ∈ ga_T := ga_tb (i := 26) (by decide +kernel) rfl
theorem ini_Agenda : Cond.initialized "NetWires$Agenda" ∈ ga_T := ga_tb (i := 3) (by decide +kernel) rfl
theorem in_Agenda : Cond.instantiable "NetWires$Agenda" 3 ∈ ga_T := ga_tb (i := 41) (by decide +kernel) rfl
theorem ini_History : Cond.initialized "NetWires$History" ∈ ga_T := ga_tb (i := 4) (by decide +kernel) rfl
theorem in_History : Cond.instantiable "NetWires$History" 4 ∈ ga_T := ga_tb (i := 60) (by decide +kernel) rfl
theorem ini_Noise : Cond.initialized "NetWires$Noise" ∈ ga_T := ga_tb (i := 5) (by decide +kernel) rfl
theorem in_Noise : Cond.instantiable "NetWires$Noise" 4 ∈ ga_T := ga_tb (i := 81) (by decide +kernel) rfl
theorem ini_Event : Cond.initialized "NetWires$Event" ∈ ga_T := ga_tb (i := 16) (by decide +kernel) rfl
theorem in_Event : Cond.instantiable "NetWires$Event" 6 ∈ ga_T := ga_tb (i := 374) (by decide +kernel) rfl
theorem ini_M : Cond.initialized "NetWiresModel" ∈ ga_T := ga_tb (i := 7) (by decide +kernel) rfl
theorem in_M : Cond.instantiable "NetWiresModel" 28 ∈ ga_T := ga_tb (i := 549) (by decide +kernel) rfl
end
section
abbrev b_NetWires_init : ByteArray := prog_1_method_1_code
def y_NetWires_init : MethodName := ⟨"NetWires", "<init>", "()V"⟩
set_option maxRecDepth 20000 in
theorem m_NetWires_init : ga_Mi y_NetWires_init b_NetWires_init 1 0 := ⟨⟨ga_tb (i := 20) (by decide +kernel) rfl, ga_tb (i := 1) (by decide +kernel) rfl, ga_tb (i := 21) rfl rfl, rfl⟩, ⟨by decide +kernel, by decide +kernel, by decide +kernel⟩⟩
abbrev b_Tape_init : ByteArray := prog_6_method_1_code
def y_Tape_init : MethodName := ⟨"NetWires$Tape", "<init>", "()V"⟩
set_option maxRecDepth 20000 in
theorem m_Tape_init : ga_Mi y_Tape_init b_Tape_init 1 0 := ⟨⟨ga_tb (i := 28) (by decide +kernel) rfl, ga_tb (i := 2) (by decide +kernel) rfl, ga_tb (i := 29) rfl rfl, rfl⟩, ⟨by decide +kernel, by decide +kernel, by decide +kernel⟩⟩
abbrev b_Agenda_init : ByteArray := prog_2_method_1_code
def y_Agenda_init : MethodName := ⟨"NetWires$Agenda", "<init>", "()V"⟩
set_option maxRecDepth 20000 in
theorem m_Agenda_init : ga_Mi y_Agenda_init b_Agenda_init 1 0 := ⟨⟨ga_tb (i := 43) (by decide +kernel) rfl, ga_tb (i := 3) (by decide +kernel) rfl, ga_tb (i := 44) rfl rfl, rfl⟩, ⟨by decide +kernel, by decide +kernel, by decide +kernel⟩⟩
abbrev b_History_init : ByteArray := prog_4_method_1_code
def y_History_init : MethodName := ⟨"NetWires$History", "<init>", "()V"⟩
set_option maxRecDepth 20000 in
theorem m_History_init : ga_Mi y_History_init b_History_init 1 0 := ⟨⟨ga_tb (i := 62) (by decide +kernel) rfl, ga_tb (i := 4) (by decide +kernel) rfl, ga_tb (i := 63) rfl rfl, rfl⟩, ⟨by decide +kernel, by decide +kernel, by decide +kernel⟩⟩
abbrev b_Noise_init : ByteArray := prog_5_method_1_code
def y_Noise_init : MethodName := ⟨"NetWires$Noise", "<init>", "()V"⟩
set_option maxRecDepth 20000 in
theorem m_Noise_init : ga_Mi y_Noise_init b_Noise_init 1 0 := ⟨⟨ga_tb (i := 83) (by decide +kernel) rfl, ga_tb (i := 5) (by decide +kernel) rfl, ga_tb (i := 84) rfl rfl, rfl⟩, ⟨by decide +kernel, by decide +kernel, by decide +kernel⟩⟩
abbrev b_J_fill : ByteArray := prog_19_method_103_code
def y_J_fill : MethodName := ⟨"java/util/Arrays", "fill", "([II)V"⟩
set_option maxRecDepth 20000 in
theorem m_J_fill : ga_Ms y_J_fill b_J_fill 4 none 2 := ⟨⟨ga_tb (i := 103) (by decide +kernel) rfl, ga_tb (i := 6) (by decide +kernel) rfl, ga_tb (i := 104) rfl rfl⟩, ⟨by decide +kernel, by decide +kernel, by decide +kernel⟩⟩
abbrev b_NetWires_step : ByteArray := prog_1_method_8_code
def y_NetWires_step : MethodName := ⟨"NetWires", "step", "()I"⟩
set_option maxRecDepth 20000 in
theorem m_NetWires_step : ga_M y_NetWires_step b_NetWires_step 2 (some .int) 0 := ⟨⟨ga_tb (i := 145) (by decide +kernel) rfl, ga_tb (i := 146) (by decide +kernel) rfl, ga_tb (i := 1) (by decide +kernel) rfl, ga_tb (i := 147) rfl rfl⟩, ⟨by decide +kernel, by decide +kernel, by decide +kernel⟩⟩
abbrev b_Agenda_takeAt : ByteArray := prog_2_method_4_code
def y_Agenda_takeAt : MethodName := ⟨"NetWires$Agenda", "takeAt", "(I)LNetWires$Event;"⟩
set_option maxRecDepth 20000 in
theorem m_Agenda_takeAt : ga_M y_Agenda_takeAt b_Agenda_takeAt 4 (some (.object "NetWires$Event")) 1 := ⟨⟨ga_tb (i := 149) (by decide +kernel) rfl, ga_tb (i := 150) (by decide +kernel) rfl, ga_tb (i := 3) (by decide +kernel) rfl, ga_tb (i := 151) rfl rfl⟩, ⟨by decide +kernel, by decide +kernel, by decide +kernel⟩⟩
abbrev b_Agenda_at : ByteArray := prog_2_method_2_code
def y_Agenda_at : MethodName := ⟨"NetWires$Agenda", "at", "(I)LNetWires$Event;"⟩
set_option maxRecDepth 20000 in
theorem m_Agenda_at : ga_M y_Agenda_at b_Agenda_at 2 (some (.object "NetWires$Event")) 1 := ⟨⟨ga_tb (i := 153) (by decide +kernel) rfl, ga_tb (i := 154) (by decide +kernel) rfl, ga_tb (i := 3) (by decide +kernel) rfl, ga_tb (i := 155) rfl rfl⟩, ⟨by decide +kernel, by decide +kernel, by decide +kernel⟩⟩
abbrev b_NetWires_letHappen : ByteArray := prog_1_method_35_code
def y_NetWires_letHappen : MethodName := ⟨"NetWires", "letHappen", "(LNetWires$Event;)I"⟩
set_option maxRecDepth 20000 in
theorem m_NetWires_letHappen : ga_M y_NetWires_letHappen b_NetWires_letHappen 4 (some .int) 1 := ⟨⟨ga_tb (i := 158) (by decide +kernel) rfl, ga_sl (i := 0) (by decide +kernel) rfl, ga_tb (i := 1) (by decide +kernel) rfl, ga_tb (i := 159) rfl rfl⟩, ⟨by decide +kernel, by decide +kernel, by decide +kernel⟩⟩
abbrev b_NetWires_receive : ByteArray := prog_1_method_36_code
def y_NetWires_receive : MethodName := ⟨"NetWires", "receive", "(LNetWires$Event;)I"⟩
set_option maxRecDepth 20000 in
theorem m_NetWires_receive : ga_M y_NetWires_receive b_NetWires_receive 2 (some .int) 1 := ⟨⟨ga_tb (i := 162) (by decide +kernel) rfl, ga_sl (i := 1) (by decide +kernel) rfl, ga_tb (i := 1) (by decide +kernel) rfl, ga_tb (i := 163) rfl rfl⟩, ⟨by decide +kernel, by decide +kernel, by decide +kernel⟩⟩
abbrev b_NetWires_areParted : ByteArray := prog_1_method_28_code
def y_NetWires_areParted : MethodName := ⟨"NetWires", "areParted", "(II)Z"⟩
set_option maxRecDepth 20000 in
theorem m_NetWires_areParted : ga_M y_NetWires_areParted b_NetWires_areParted 3 (some .boolean) 2 := ⟨⟨ga_tb (i := 166) (by decide +kernel) rfl, ga_sl (i := 2) (by decide +kernel) rfl, ga_tb (i := 1) (by decide +kernel) rfl, ga_tb (i := 167) rfl rfl⟩, ⟨by decide +kernel, by decide +kernel, by decide +kernel⟩⟩
abbrev b_NetWires_isIn : ByteArray := prog_1_method_25_code
def y_NetWires_isIn : MethodName := ⟨"NetWires", "isIn", "(II)Z"⟩
set_option maxRecDepth 20000 in
theorem m_NetWires_isIn : ga_Ms y_NetWires_isIn b_NetWires_isIn 2 (some .boolean) 2 := ⟨⟨ga_tb (i := 169) (by decide +kernel) rfl, ga_tb (i := 1) (by decide +kernel) rfl, ga_tb (i := 170) rfl rfl⟩, ⟨by decide +kernel, by decide +kernel, by decide +kernel⟩⟩
abbrev b_History_remember : ByteArray := prog_4_method_2_code
def y_History_remember : MethodName := ⟨"NetWires$History", "remember", "(ILNetWires$Event;)V"⟩
set_option maxRecDepth 20000 in
theorem m_History_remember : ga_M y_History_remember b_History_remember 4 none 2 := ⟨⟨ga_tb (i := 172) (by decide +kernel) rfl, ga_tb (i := 173) (by decide +kernel) rfl, ga_tb (i := 4) (by decide +kernel) rfl, ga_tb (i := 174) rfl rfl⟩, ⟨by decide +kernel, by decide +kernel, by decide +kernel⟩⟩
abbrev b_NetWires_message : ByteArray := prog_1_method_15_code
def y_NetWires_message : MethodName := ⟨"NetWires", "message", "(II)I"⟩
set_option maxRecDepth 20000 in
theorem m_NetWires_message : ga_M y_NetWires_message b_NetWires_message 4 (some .int) 2 := ⟨⟨ga_tb (i := 176) (by decide +kernel) rfl, ga_tb (i := 177) (by decide +kernel) rfl, ga_tb (i := 1) (by decide +kernel) rfl, ga_tb (i := 178) rfl rfl⟩, ⟨by decide +kernel, by decide +kernel, by decide +kernel⟩⟩
abbrev b_Agenda_placeOfMessage : ByteArray := prog_2_method_5_code
def y_Agenda_placeOfMessage : MethodName := ⟨"NetWires$Agenda", "placeOfMessage", "(I)I"⟩
set_option maxRecDepth 20000 in
theorem m_Agenda_placeOfMessage : ga_M y_Agenda_placeOfMessage b_Agenda_placeOfMessage 5 (some .int) 1 := ⟨⟨ga_tb (i := 180) (by decide +kernel) rfl, ga_tb (i := 181) (by decide +kernel) rfl, ga_tb (i := 3) (by decide +kernel) rfl, ga_tb (i := 182) rfl rfl⟩, ⟨by decide +kernel, by decide +kernel, by decide +kernel⟩⟩
abbrev b_NetWires_happened : ByteArray := prog_1_method_17_code
def y_NetWires_happened : MethodName := ⟨"NetWires", "happened", "(II)I"⟩
set_option maxRecDepth 20000 in
theorem m_NetWires_happened : ga_M y_NetWires_happened b_NetWires_happened 3 (some .int) 2 := ⟨⟨ga_tb (i := 185) (by decide +kernel) rfl, ga_tb (i := 186) (by decide +kernel) rfl, ga_tb (i := 1) (by decide +kernel) rfl, ga_tb (i := 187) rfl rfl⟩, ⟨by decide +kernel, by decide +kernel, by decide +kernel⟩⟩
abbrev b_History_fact : ByteArray := prog_4_method_3_code
def y_History_fact : MethodName := ⟨"NetWires$History", "fact", "(II)I"⟩
set_option maxRecDepth 20000 in
theorem m_History_fact : ga_M y_History_fact b_History_fact 4 (some .int) 2 := ⟨⟨ga_tb (i := 189) (by decide +kernel) rfl, ga_tb (i := 190) (by decide +kernel) rfl, ga_tb (i := 4) (by decide +kernel) rfl, ga_tb (i := 191) rfl rfl⟩, ⟨by decide +kernel, by decide +kernel, by decide +kernel⟩⟩
abbrev b_NetWires_count : ByteArray := prog_1_method_20_code
def y_NetWires_count : MethodName := ⟨"NetWires", "count", "(I)I"⟩
set_option maxRecDepth 20000 in
theorem m_NetWires_count : ga_M y_NetWires_count b_NetWires_count 2 (some .int) 1 := ⟨⟨ga_tb (i := 193) (by decide +kernel) rfl, ga_tb (i := 194) (by decide +kernel) rfl, ga_tb (i := 1) (by decide +kernel) rfl, ga_tb (i := 195) rfl rfl⟩, ⟨by decide +kernel, by decide +kernel, by decide +kernel⟩⟩
abbrev b_L_feed : ByteArray := method_3_code
def y_L_feed : MethodName := ⟨"NetWiresLaw", "feed", "(LNetWires;JI[J)I"⟩
abbrev hh_L_feed : List (Nat × Nat × Nat × Nat) := [(0, 11, 14, 13), (0, 11, 18, 15)]
set_option maxRecDepth 20000 in
theorem m_L_feed : ga_Mw y_L_feed b_L_feed 6 (some .int) hh_L_feed 4 := ⟨⟨ga_tb (i := 197) (by decide +kernel) rfl, ga_tb (i := 0) (by decide +kernel) rfl, ga_tb (i := 198) rfl rfl⟩, ⟨by decide +kernel, by decide +kernel, by decide +kernel⟩⟩
abbrev b_NetWires_feed : ByteArray := prog_1_method_2_code
def y_NetWires_feed : MethodName := ⟨"NetWires", "feed", "(JI)I"⟩
set_option maxRecDepth 20000 in
theorem m_NetWires_feed : ga_M y_NetWires_feed b_NetWires_feed 5 (some .int) 2 := ⟨⟨ga_tb (i := 202) (by decide +kernel) rfl, ga_tb (i := 203) (by decide +kernel) rfl, ga_tb (i := 1) (by decide +kernel) rfl, ga_tb (i := 204) rfl rfl⟩, ⟨by decide +kernel, by decide +kernel, by decide +kernel⟩⟩
abbrev b_Tape_hasRoomFor : ByteArray := prog_6_method_2_code
def y_Tape_hasRoomFor : MethodName := ⟨"NetWires$Tape", "hasRoomFor", "(I)Z"⟩
set_option maxRecDepth 20000 in
theorem m_Tape_hasRoomFor : ga_M y_Tape_hasRoomFor b_Tape_hasRoomFor 2 (some .boolean) 1 := ⟨⟨ga_tb (i := 273) (by decide +kernel) rfl, ga_tb (i := 274) (by decide +kernel) rfl, ga_tb (i := 2) (by decide +kernel) rfl, ga_tb (i := 275) rfl rfl⟩, ⟨by decide +kernel, by decide +kernel, by decide +kernel⟩⟩
abbrev b_Tape_append : ByteArray := prog_6_method_3_code
def y_Tape_append : MethodName := ⟨"NetWires$Tape", "append", "(B)V"⟩
set_option maxRecDepth 20000 in
theorem m_Tape_append : ga_M y_Tape_append b_Tape_append 2 none 1 := ⟨⟨ga_tb (i := 293) (by decide +kernel) rfl, ga_tb (i := 294) (by decide +kernel) rfl, ga_tb (i := 2) (by decide +kernel) rfl, ga_tb (i := 295) rfl rfl⟩, ⟨by decide +kernel, by decide +kernel, by decide +kernel⟩⟩
abbrev b_L_send : ByteArray := method_4_code
def y_L_send : MethodName := ⟨"NetWiresLaw", "send", "(LNetWires;II[J)I"⟩
abbrev hh_L_send : List (Nat × Nat × Nat × Nat) := [(0, 10, 13, 21)]
set_option maxRecDepth 20000 in
theorem m_L_send : ga_Mw y_L_send b_L_send 5 (some .int) hh_L_send 4 := ⟨⟨ga_tb (i := 298) (by decide +kernel) rfl, ga_tb (i := 0) (by decide +kernel) rfl, ga_tb (i := 299) rfl rfl⟩, ⟨by decide +kernel, by decide +kernel, by decide +kernel⟩⟩
abbrev b_NetWires_send : ByteArray := prog_1_method_3_code
def y_NetWires_send : MethodName := ⟨"NetWires", "send", "(II)I"⟩
set_option maxRecDepth 20000 in
theorem m_NetWires_send : ga_M y_NetWires_send b_NetWires_send 4 (some .int) 2 := ⟨⟨ga_tb (i := 302) (by decide +kernel) rfl, ga_tb (i := 303) (by decide +kernel) rfl, ga_tb (i := 1) (by decide +kernel) rfl, ga_tb (i := 304) rfl rfl⟩, ⟨by decide +kernel, by decide +kernel, by decide +kernel⟩⟩
abbrev b_Tape_takeAll : ByteArray := prog_6_method_4_code
def y_Tape_takeAll : MethodName := ⟨"NetWires$Tape", "takeAll", "()[B"⟩
set_option maxRecDepth 20000 in
theorem m_Tape_takeAll : ga_M y_Tape_takeAll b_Tape_takeAll 2 (some (.array .byte)) 0 := ⟨⟨ga_tb (i := 306) (by decide +kernel) rfl, ga_tb (i := 307) (by decide +kernel) rfl, ga_tb (i := 2) (by decide +kernel) rfl, ga_tb (i := 308) rfl rfl⟩, ⟨by decide +kernel, by decide +kernel, by decide +kernel⟩⟩
abbrev b_J_copyOf : ByteArray := prog_19_method_121_code
def y_J_copyOf : MethodName := ⟨"java/util/Arrays", "copyOf", "([BI)[B"⟩
set_option maxRecDepth 20000 in
theorem m_J_copyOf : ga_Ms y_J_copyOf b_J_copyOf 3 (some (.array .byte)) 2 := ⟨⟨ga_tb (i := 311) (by decide +kernel) rfl, ga_tb (i := 6) (by decide +kernel) rfl, ga_tb (i := 312) rfl rfl⟩, ⟨by decide +kernel, by decide +kernel, by decide +kernel⟩⟩
abbrev b_NetWires_demandEndpoint : ByteArray := prog_1_method_22_code
def y_NetWires_demandEndpoint : MethodName := ⟨"NetWires", "demandEndpoint", "(I)V"⟩
set_option maxRecDepth 20000 in
theorem m_NetWires_demandEndpoint : ga_Ms y_NetWires_demandEndpoint b_NetWires_demandEndpoint 1 none 1 := ⟨⟨ga_tb (i := 327) (by decide +kernel) rfl, ga_tb (i := 1) (by decide +kernel) rfl, ga_tb (i := 328) rfl rfl⟩, ⟨by decide +kernel, by decide +kernel, by decide +kernel⟩⟩
abbrev b_NetWires_isWithin : ByteArray := prog_1_method_21_code
def y_NetWires_isWithin : MethodName := ⟨"NetWires", "isWithin", "(III)Z"⟩
set_option maxRecDepth 20000 in
theorem m_NetWires_isWithin : ga_Ms y_NetWires_isWithin b_NetWires_isWithin 3 (some .boolean) 3 := ⟨⟨ga_tb (i := 330) (by decide +kernel) rfl, ga_tb (i := 1) (by decide +kernel) rfl, ga_tb (i := 331) rfl rfl⟩, ⟨by decide +kernel, by decide +kernel, by decide +kernel⟩⟩
abbrev b_Noise_isOn : ByteArray := prog_5_method_3_code
def y_Noise_isOn : MethodName := ⟨"NetWires$Noise", "isOn", "()Z"⟩
set_option maxRecDepth 20000 in
theorem m_Noise_isOn : ga_M y_Noise_isOn b_Noise_isOn 1 (some .boolean) 0 := ⟨⟨ga_tb (i := 349) (by decide +kernel) rfl, ga_tb (i := 350) (by decide +kernel) rfl, ga_tb (i := 5) (by decide +kernel) rfl, ga_tb (i := 351) rfl rfl⟩, ⟨by decide +kernel, by decide +kernel, by decide +kernel⟩⟩
abbrev b_NetWires_launchThroughNoise : ByteArray := prog_1_method_30_code
def y_NetWires_launchThroughNoise : MethodName := ⟨"NetWires", "launchThroughNoise", "(II[B)I"⟩
set_option maxRecDepth 20000 in
theorem m_NetWires_launchThroughNoise : ga_M y_NetWires_launchThroughNoise b_NetWires_launchThroughNoise 8 (some .int) 3 := ⟨⟨ga_tb (i := 354) (by decide +kernel) rfl, ga_sl (i := 4) (by decide +kernel) rfl, ga_tb (i := 1) (by decide +kernel) rfl, ga_tb (i := 355) rfl rfl⟩, ⟨by decide +kernel, by decide +kernel, by decide +kernel⟩⟩
abbrev b_Noise_drawBelow : ByteArray := prog_5_method_4_code
def y_Noise_drawBelow : MethodName := ⟨"NetWires$Noise", "drawBelow", "(I)I"⟩
set_option maxRecDepth 20000 in
theorem m_Noise_drawBelow : ga_M y_Noise_drawBelow b_Noise_drawBelow 2 (some .int) 1 := ⟨⟨ga_tb (i := 357) (by decide +kernel) rfl, ga_tb (i := 358) (by decide +kernel) rfl, ga_tb (i := 5) (by decide +kernel) rfl, ga_tb (i := 359) rfl rfl⟩, ⟨by decide +kernel, by decide +kernel, by decide +kernel⟩⟩
abbrev b_NetWires_launch : ByteArray := prog_1_method_31_code
def y_NetWires_launch : MethodName := ⟨"NetWires", "launch", "(III[B)I"⟩
set_option maxRecDepth 20000 in
theorem m_NetWires_launch : ga_M y_NetWires_launch b_NetWires_launch 5 (some .int) 4 := ⟨⟨ga_tb (i := 364) (by decide +kernel) rfl, ga_sl (i := 5) (by decide +kernel) rfl, ga_tb (i := 1) (by decide +kernel) rfl, ga_tb (i := 365) rfl rfl⟩, ⟨by decide +kernel, by decide +kernel, by decide +kernel⟩⟩
abbrev b_NetWires_linkOf : ByteArray := prog_1_method_26_code
def y_NetWires_linkOf : MethodName := ⟨"NetWires", "linkOf", "(II)I"⟩
set_option maxRecDepth 20000 in
theorem m_NetWires_linkOf : ga_Ms y_NetWires_linkOf b_NetWires_linkOf 2 (some .int) 2 := ⟨⟨ga_tb (i := 367) (by decide +kernel) rfl, ga_tb (i := 1) (by decide +kernel) rfl, ga_tb (i := 368) rfl rfl⟩, ⟨by decide +kernel, by decide +kernel, by decide +kernel⟩⟩
abbrev b_NetWires_addMessage : ByteArray := prog_1_method_32_code
def y_NetWires_addMessage : MethodName := ⟨"NetWires", "addMessage", "(III[B)V"⟩
set_option maxRecDepth 20000 in
theorem m_NetWires_addMessage : ga_M y_NetWires_addMessage b_NetWires_addMessage 5 none 4 := ⟨⟨ga_tb (i := 371) (by decide +kernel) rfl, ga_sl (i := 6) (by decide +kernel) rfl, ga_tb (i := 1) (by decide +kernel) rfl, ga_tb (i := 372) rfl rfl⟩, ⟨by decide +kernel, by decide +kernel, by decide +kernel⟩⟩
abbrev b_NetWires_takeNumber : ByteArray := prog_1_method_29_code
def y_NetWires_takeNumber : MethodName := ⟨"NetWires", "takeNumber", "()I"⟩
set_option maxRecDepth 20000 in
theorem m_NetWires_takeNumber : ga_M y_NetWires_takeNumber b_NetWires_takeNumber 2 (some .int) 0 := ⟨⟨ga_tb (i := 377) (by decide +kernel) rfl, ga_sl (i := 7) (by decide +kernel) rfl, ga_tb (i := 1) (by decide +kernel) rfl, ga_tb (i := 378) rfl rfl⟩, ⟨by decide +kernel, by decide +kernel, by decide +kernel⟩⟩
abbrev b_Event_init : ByteArray := prog_3_method_1_code
def y_Event_init : MethodName := ⟨"NetWires$Event", "<init>", "(IIIII[B)V"⟩
set_option maxRecDepth 20000 in
theorem m_Event_init : ga_Mi y_Event_init b_Event_init 7 6 := ⟨⟨ga_tb (i := 380) (by decide +kernel) rfl, ga_tb (i := 16) (by decide +kernel) rfl, ga_tb (i := 381) rfl rfl, rfl⟩, ⟨by decide +kernel, by decide +kernel, by decide +kernel⟩⟩
abbrev b_Agenda_insert : ByteArray := prog_2_method_3_code
def y_Agenda_insert : MethodName := ⟨"NetWires$Agenda", "insert", "(LNetWires$Event;)V"⟩
set_option maxRecDepth 20000 in
theorem m_Agenda_insert : ga_M y_Agenda_insert b_Agenda_insert 3 none 1 := ⟨⟨ga_tb (i := 415) (by decide +kernel) rfl, ga_tb (i := 416) (by decide +kernel) rfl, ga_tb (i := 3) (by decide +kernel) rfl, ga_tb (i := 417) rfl rfl⟩, ⟨by decide +kernel, by decide +kernel, by decide +kernel⟩⟩
abbrev b_Agenda_isAfter : ByteArray := prog_2_method_7_code
def y_Agenda_isAfter : MethodName := ⟨"NetWires$Agenda", "isAfter", "(II)Z"⟩
set_option maxRecDepth 20000 in
theorem m_Agenda_isAfter : ga_M y_Agenda_isAfter b_Agenda_isAfter 4 (some .boolean) 2 := ⟨⟨ga_tb (i := 419) (by decide +kernel) rfl, ga_tb (i := 420) (by decide +kernel) rfl, ga_tb (i := 3) (by decide +kernel) rfl, ga_tb (i := 421) rfl rfl⟩, ⟨by decide +kernel, by decide +kernel, by decide +kernel⟩⟩
abbrev b_L_alarm : ByteArray := method_5_code
def y_L_alarm : MethodName := ⟨"NetWiresLaw", "alarm", "(LNetWires;II[J)I"⟩
abbrev hh_L_alarm : List (Nat × Nat × Nat × Nat) := [(0, 17, 20, 21), (0, 17, 24, 13)]
set_option maxRecDepth 20000 in
theorem m_L_alarm : ga_Mw y_L_alarm b_L_alarm 5 (some .int) hh_L_alarm 4 := ⟨⟨ga_tb (i := 423) (by decide +kernel) rfl, ga_tb (i := 0) (by decide +kernel) rfl, ga_tb (i := 424) rfl rfl⟩, ⟨by decide +kernel, by decide +kernel, by decide +kernel⟩⟩
abbrev b_NetWires_alarm : ByteArray := prog_1_method_4_code
def y_NetWires_alarm : MethodName := ⟨"NetWires", "alarm", "(II)Z"⟩
set_option maxRecDepth 20000 in
theorem m_NetWires_alarm : ga_M y_NetWires_alarm b_NetWires_alarm 3 (some .boolean) 2 := ⟨⟨ga_tb (i := 426) (by decide +kernel) rfl, ga_tb (i := 427) (by decide +kernel) rfl, ga_tb (i := 1) (by decide +kernel) rfl, ga_tb (i := 428) rfl rfl⟩, ⟨by decide +kernel, by decide +kernel, by decide +kernel⟩⟩
abbrev b_NetWires_demandTicks : ByteArray := prog_1_method_23_code
def y_NetWires_demandTicks : MethodName := ⟨"NetWires", "demandTicks", "(II)V"⟩
set_option maxRecDepth 20000 in
theorem m_NetWires_demandTicks : ga_Ms y_NetWires_demandTicks b_NetWires_demandTicks 2 none 2 := ⟨⟨ga_tb (i := 431) (by decide +kernel) rfl, ga_tb (i := 1) (by decide +kernel) rfl, ga_tb (i := 432) rfl rfl⟩, ⟨by decide +kernel, by decide +kernel, by decide +kernel⟩⟩
abbrev b_NetWires_setTimer : ByteArray := prog_1_method_33_code
def y_NetWires_setTimer : MethodName := ⟨"NetWires", "setTimer", "(III)Z"⟩
set_option maxRecDepth 20000 in
theorem m_NetWires_setTimer : ga_M y_NetWires_setTimer b_NetWires_setTimer 5 (some .boolean) 3 := ⟨⟨ga_tb (i := 436) (by decide +kernel) rfl, ga_sl (i := 8) (by decide +kernel) rfl, ga_tb (i := 1) (by decide +kernel) rfl, ga_tb (i := 437) rfl rfl⟩, ⟨by decide +kernel, by decide +kernel, by decide +kernel⟩⟩
abbrev b_NetWires_dropTimer : ByteArray := prog_1_method_34_code
def y_NetWires_dropTimer : MethodName := ⟨"NetWires", "dropTimer", "(II)Z"⟩
set_option maxRecDepth 20000 in
theorem m_NetWires_dropTimer : ga_M y_NetWires_dropTimer b_NetWires_dropTimer 3 (some .boolean) 2 := ⟨⟨ga_tb (i := 440) (by decide +kernel) rfl, ga_sl (i := 9) (by decide +kernel) rfl, ga_tb (i := 1) (by decide +kernel) rfl, ga_tb (i := 441) rfl rfl⟩, ⟨by decide +kernel, by decide +kernel, by decide +kernel⟩⟩
abbrev b_Agenda_placeOfTimer : ByteArray := prog_2_method_6_code
def y_Agenda_placeOfTimer : MethodName := ⟨"NetWires$Agenda", "placeOfTimer", "(II)I"⟩
set_option maxRecDepth 20000 in
theorem m_Agenda_placeOfTimer : ga_M y_Agenda_placeOfTimer b_Agenda_placeOfTimer 5 (some .int) 2 := ⟨⟨ga_tb (i := 443) (by decide +kernel) rfl, ga_tb (i := 444) (by decide +kernel) rfl, ga_tb (i := 3) (by decide +kernel) rfl, ga_tb (i := 445) rfl rfl⟩, ⟨by decide +kernel, by decide +kernel, by decide +kernel⟩⟩
abbrev b_L_noAlarm : ByteArray := method_6_code
def y_L_noAlarm : MethodName := ⟨"NetWiresLaw", "noAlarm", "(LNetWires;I[J)I"⟩
abbrev hh_L_noAlarm : List (Nat × Nat × Nat × Nat) := [(0, 16, 19, 21)]
set_option maxRecDepth 20000 in
theorem m_L_noAlarm : ga_Mw y_L_noAlarm b_L_noAlarm 4 (some .int) hh_L_noAlarm 3 := ⟨⟨ga_tb (i := 447) (by decide +kernel) rfl, ga_tb (i := 0) (by decide +kernel) rfl, ga_tb (i := 448) rfl rfl⟩, ⟨by decide +kernel, by decide +kernel, by decide +kernel⟩⟩
abbrev b_NetWires_noAlarm : ByteArray := prog_1_method_5_code
def y_NetWires_noAlarm : MethodName := ⟨"NetWires", "noAlarm", "(I)Z"⟩
set_option maxRecDepth 20000 in
theorem m_NetWires_noAlarm : ga_M y_NetWires_noAlarm b_NetWires_noAlarm 2 (some .boolean) 1 := ⟨⟨ga_tb (i := 450) (by decide +kernel) rfl, ga_tb (i := 451) (by decide +kernel) rfl, ga_tb (i := 1) (by decide +kernel) rfl, ga_tb (i := 452) rfl rfl⟩, ⟨by decide +kernel, by decide +kernel, by decide +kernel⟩⟩
abbrev b_L_sync : ByteArray := method_7_code
def y_L_sync : MethodName := ⟨"NetWiresLaw", "sync", "(LNetWires;II[J)I"⟩
abbrev hh_L_sync : List (Nat × Nat × Nat × Nat) := [(0, 17, 20, 21), (0, 17, 24, 13)]
set_option maxRecDepth 20000 in
theorem m_L_sync : ga_Mw y_L_sync b_L_sync 5 (some .int) hh_L_sync 4 := ⟨⟨ga_tb (i := 454) (by decide +kernel) rfl, ga_tb (i := 0) (by decide +kernel) rfl, ga_tb (i := 455) rfl rfl⟩, ⟨by decide +kernel, by decide +kernel, by decide +kernel⟩⟩
abbrev b_NetWires_sync : ByteArray := prog_1_method_6_code
def y_NetWires_sync : MethodName := ⟨"NetWires", "sync", "(II)Z"⟩
set_option maxRecDepth 20000 in
theorem m_NetWires_sync : ga_M y_NetWires_sync b_NetWires_sync 3 (some .boolean) 2 := ⟨⟨ga_tb (i := 457) (by decide +kernel) rfl, ga_tb (i := 458) (by decide +kernel) rfl, ga_tb (i := 1) (by decide +kernel) rfl, ga_tb (i := 459) rfl rfl⟩, ⟨by decide +kernel, by decide +kernel, by decide +kernel⟩⟩
abbrev b_L_noSync : ByteArray := method_8_code
def y_L_noSync : MethodName := ⟨"NetWiresLaw", "noSync", "(LNetWires;I[J)I"⟩
abbrev hh_L_noSync : List (Nat × Nat × Nat × Nat) := [(0, 16, 19, 21)]
set_option maxRecDepth 20000 in
theorem m_L_noSync : ga_Mw y_L_noSync b_L_noSync 4 (some .int) hh_L_noSync 3 := ⟨⟨ga_tb (i := 461) (by decide +kernel) rfl, ga_tb (i := 0) (by decide +kernel) rfl, ga_tb (i := 462) rfl rfl⟩, ⟨by decide +kernel, by decide +kernel, by decide +kernel⟩⟩
abbrev b_NetWires_noSync : ByteArray := prog_1_method_7_code
def y_NetWires_noSync : MethodName := ⟨"NetWires", "noSync", "(I)Z"⟩
set_option maxRecDepth 20000 in
theorem m_NetWires_noSync : ga_M y_NetWires_noSync b_NetWires_noSync 2 (some .boolean) 1 := ⟨⟨ga_tb (i := 464) (by decide +kernel) rfl, ga_tb (i := 465) (by decide +kernel) rfl, ga_tb (i := 1) (by decide +kernel) rfl, ga_tb (i := 466) rfl rfl⟩, ⟨by decide +kernel, by decide +kernel, by decide +kernel⟩⟩
abbrev b_L_run : ByteArray := method_9_code
def y_L_run : MethodName := ⟨"NetWiresLaw", "run", "(LNetWires;I[J)I"⟩
abbrev hh_L_run : List (Nat × Nat × Nat × Nat) := [(0, 9, 12, 13)]
set_option maxRecDepth 20000 in
theorem m_L_run : ga_Mw y_L_run b_L_run 4 (some .int) hh_L_run 3 := ⟨⟨ga_tb (i := 468) (by decide +kernel) rfl, ga_tb (i := 0) (by decide +kernel) rfl, ga_tb (i := 469) rfl rfl⟩, ⟨by decide +kernel, by decide +kernel, by decide +kernel⟩⟩
abbrev b_NetWires_run : ByteArray := prog_1_method_9_code
def y_NetWires_run : MethodName := ⟨"NetWires", "run", "(I)I"⟩
set_option maxRecDepth 20000 in
theorem m_NetWires_run : ga_M y_NetWires_run b_NetWires_run 5 (some .int) 1 := ⟨⟨ga_tb (i := 471) (by decide +kernel) rfl, ga_tb (i := 472) (by decide +kernel) rfl, ga_tb (i := 1) (by decide +kernel) rfl, ga_tb (i := 473) rfl rfl⟩, ⟨by decide +kernel, by decide +kernel, by decide +kernel⟩⟩
abbrev b_L_delay : ByteArray := method_10_code
def y_L_delay : MethodName := ⟨"NetWiresLaw", "delay", "(LNetWires;III[J)I"⟩
abbrev hh_L_delay : List (Nat × Nat × Nat × Nat) := [(0, 12, 15, 21), (0, 12, 19, 13)]
set_option maxRecDepth 20000 in
theorem m_L_delay : ga_Mw y_L_delay b_L_delay 6 (some .int) hh_L_delay 5 := ⟨⟨ga_tb (i := 476) (by decide +kernel) rfl, ga_tb (i := 0) (by decide +kernel) rfl, ga_tb (i := 477) rfl rfl⟩, ⟨by decide +kernel, by decide +kernel, by decide +kernel⟩⟩
abbrev b_NetWires_delay : ByteArray := prog_1_method_10_code
def y_NetWires_delay : MethodName := ⟨"NetWires", "delay", "(III)I"⟩
set_option maxRecDepth 20000 in
theorem m_NetWires_delay : ga_M y_NetWires_delay b_NetWires_delay 6 (some .int) 3 := ⟨⟨ga_tb (i := 479) (by decide +kernel) rfl, ga_tb (i := 480) (by decide +kernel) rfl, ga_tb (i := 1) (by decide +kernel) rfl, ga_tb (i := 481) rfl rfl⟩, ⟨by decide +kernel, by decide +kernel, by decide +kernel⟩⟩
abbrev b_L_part : ByteArray := method_11_code
def y_L_part : MethodName := ⟨"NetWiresLaw", "part", "(LNetWires;I[J)I"⟩
abbrev hh_L_part : List (Nat × Nat × Nat × Nat) := [(0, 9, 12, 13)]
set_option maxRecDepth 20000 in
theorem m_L_part : ga_Mw y_L_part b_L_part 4 (some .int) hh_L_part 3 := ⟨⟨ga_tb (i := 483) (by decide +kernel) rfl, ga_tb (i := 0) (by decide +kernel) rfl, ga_tb (i := 484) rfl rfl⟩, ⟨by decide +kernel, by decide +kernel, by decide +kernel⟩⟩
abbrev b_NetWires_part : ByteArray := prog_1_method_11_code
def y_NetWires_part : MethodName := ⟨"NetWires", "part", "(I)I"⟩
set_option maxRecDepth 20000 in
theorem m_NetWires_part : ga_M y_NetWires_part b_NetWires_part 3 (some .int) 1 := ⟨⟨ga_tb (i := 486) (by decide +kernel) rfl, ga_tb (i := 487) (by decide +kernel) rfl, ga_tb (i := 1) (by decide +kernel) rfl, ga_tb (i := 488) rfl rfl⟩, ⟨by decide +kernel, by decide +kernel, by decide +kernel⟩⟩
abbrev b_NetWires_demandSet : ByteArray := prog_1_method_24_code
def y_NetWires_demandSet : MethodName := ⟨"NetWires", "demandSet", "(I)V"⟩
set_option maxRecDepth 20000 in
theorem m_NetWires_demandSet : ga_Ms y_NetWires_demandSet b_NetWires_demandSet 1 none 1 := ⟨⟨ga_tb (i := 490) (by decide +kernel) rfl, ga_tb (i := 1) (by decide +kernel) rfl, ga_tb (i := 491) rfl rfl⟩, ⟨by decide +kernel, by decide +kernel, by decide +kernel⟩⟩
abbrev b_L_down : ByteArray := method_12_code
def y_L_down : MethodName := ⟨"NetWiresLaw", "down", "(LNetWires;I[J)I"⟩
abbrev hh_L_down : List (Nat × Nat × Nat × Nat) := [(0, 9, 12, 13)]
set_option maxRecDepth 20000 in
theorem m_L_down : ga_Mw y_L_down b_L_down 4 (some .int) hh_L_down 3 := ⟨⟨ga_tb (i := 495) (by decide +kernel) rfl, ga_tb (i := 0) (by decide +kernel) rfl, ga_tb (i := 496) rfl rfl⟩, ⟨by decide +kernel, by decide +kernel, by decide +kernel⟩⟩
abbrev b_NetWires_down : ByteArray := prog_1_method_12_code
def y_NetWires_down : MethodName := ⟨"NetWires", "down", "(I)I"⟩
set_option maxRecDepth 20000 in
theorem m_NetWires_down : ga_M y_NetWires_down b_NetWires_down 3 (some .int) 1 := ⟨⟨ga_tb (i := 498) (by decide +kernel) rfl, ga_tb (i := 499) (by decide +kernel) rfl, ga_tb (i := 1) (by decide +kernel) rfl, ga_tb (i := 500) rfl rfl⟩, ⟨by decide +kernel, by decide +kernel, by decide +kernel⟩⟩
abbrev b_L_noise : ByteArray := method_13_code
def y_L_noise : MethodName := ⟨"NetWiresLaw", "noise", "(LNetWires;IIIJ)I"⟩
abbrev hh_L_noise : List (Nat × Nat × Nat × Nat) := [(0, 9, 12, 13)]
set_option maxRecDepth 20000 in
theorem m_L_noise : ga_Mw y_L_noise b_L_noise 7 (some .int) hh_L_noise 5 := ⟨⟨ga_tb (i := 502) (by decide +kernel) rfl, ga_tb (i := 0) (by decide +kernel) rfl, ga_tb (i := 503) rfl rfl⟩, ⟨by decide +kernel, by decide +kernel, by decide +kernel⟩⟩
abbrev b_NetWires_noise : ByteArray := prog_1_method_13_code
def y_NetWires_noise : MethodName := ⟨"NetWires", "noise", "(IIIJ)V"⟩
set_option maxRecDepth 20000 in
theorem m_NetWires_noise : ga_M y_NetWires_noise b_NetWires_noise 6 none 4 := ⟨⟨ga_tb (i := 505) (by decide +kernel) rfl, ga_tb (i := 506) (by decide +kernel) rfl, ga_tb (i := 1) (by decide +kernel) rfl, ga_tb (i := 507) rfl rfl⟩, ⟨by decide +kernel, by decide +kernel, by decide +kernel⟩⟩
abbrev b_Noise_set : ByteArray := prog_5_method_2_code
def y_Noise_set : MethodName := ⟨"NetWires$Noise", "set", "(IIIJ)V"⟩
set_option maxRecDepth 20000 in
theorem m_Noise_set : ga_M y_Noise_set b_Noise_set 6 none 4 := ⟨⟨ga_tb (i := 510) (by decide +kernel) rfl, ga_tb (i := 511) (by decide +kernel) rfl, ga_tb (i := 5) (by decide +kernel) rfl, ga_tb (i := 512) rfl rfl⟩, ⟨by decide +kernel, by decide +kernel, by decide +kernel⟩⟩
abbrev b_L_meddle : ByteArray := method_14_code
def y_L_meddle : MethodName := ⟨"NetWiresLaw", "meddle", "(LNetWires;III[J)I"⟩
abbrev hh_L_meddle : List (Nat × Nat × Nat × Nat) := [(0, 19, 22, 13)]
set_option maxRecDepth 20000 in
theorem m_L_meddle : ga_Mw y_L_meddle b_L_meddle 6 (some .int) hh_L_meddle 5 := ⟨⟨ga_tb (i := 514) (by decide +kernel) rfl, ga_tb (i := 0) (by decide +kernel) rfl, ga_tb (i := 515) rfl rfl⟩, ⟨by decide +kernel, by decide +kernel, by decide +kernel⟩⟩
abbrev b_NetWires_meddle : ByteArray := prog_1_method_14_code
def y_NetWires_meddle : MethodName := ⟨"NetWires", "meddle", "(III)Z"⟩
set_option maxRecDepth 20000 in
theorem m_NetWires_meddle : ga_M y_NetWires_meddle b_NetWires_meddle 6 (some .boolean) 3 := ⟨⟨ga_tb (i := 517) (by decide +kernel) rfl, ga_tb (i := 518) (by decide +kernel) rfl, ga_tb (i := 1) (by decide +kernel) rfl, ga_tb (i := 519) rfl rfl⟩, ⟨by decide +kernel, by decide +kernel, by decide +kernel⟩⟩
abbrev b_NetWires_canMeddle : ByteArray := prog_1_method_27_code
def y_NetWires_canMeddle : MethodName := ⟨"NetWires", "canMeddle", "(II)Z"⟩
set_option maxRecDepth 20000 in
theorem m_NetWires_canMeddle : ga_Ms y_NetWires_canMeddle b_NetWires_canMeddle 2 (some .boolean) 2 := ⟨⟨ga_tb (i := 521) (by decide +kernel) rfl, ga_tb (i := 1) (by decide +kernel) rfl, ga_tb (i := 522) rfl rfl⟩, ⟨by decide +kernel, by decide +kernel, by decide +kernel⟩⟩
abbrev b_L_messageAt : ByteArray := method_15_code
def y_L_messageAt : MethodName := ⟨"NetWiresLaw", "messageAt", "(LNetWires;II[J)I"⟩
abbrev hh_L_messageAt : List (Nat × Nat × Nat × Nat) := [(0, 10, 13, 21)]
set_option maxRecDepth 20000 in
theorem m_L_messageAt : ga_Mw y_L_messageAt b_L_messageAt 5 (some .int) hh_L_messageAt 4 := ⟨⟨ga_tb (i := 525) (by decide +kernel) rfl, ga_tb (i := 0) (by decide +kernel) rfl, ga_tb (i := 526) rfl rfl⟩, ⟨by decide +kernel, by decide +kernel, by decide +kernel⟩⟩
abbrev b_NetWires_messageAt : ByteArray := prog_1_method_16_code
def y_NetWires_messageAt : MethodName := ⟨"NetWires", "messageAt", "(II)I"⟩
set_option maxRecDepth 20000 in
theorem m_NetWires_messageAt : ga_M y_NetWires_messageAt b_NetWires_messageAt 4 (some .int) 2 := ⟨⟨ga_tb (i := 528) (by decide +kernel) rfl, ga_tb (i := 529) (by decide +kernel) rfl, ga_tb (i := 1) (by decide +kernel) rfl, ga_tb (i := 530) rfl rfl⟩, ⟨by decide +kernel, by decide +kernel, by decide +kernel⟩⟩
abbrev b_L_byteAt : ByteArray := method_16_code
def y_L_byteAt : MethodName := ⟨"NetWiresLaw", "byteAt", "(LNetWires;I[J)I"⟩
abbrev hh_L_byteAt : List (Nat × Nat × Nat × Nat) := [(0, 9, 12, 21)]
set_option maxRecDepth 20000 in
theorem m_L_byteAt : ga_Mw y_L_byteAt b_L_byteAt 4 (some .int) hh_L_byteAt 3 := ⟨⟨ga_tb (i := 534) (by decide +kernel) rfl, ga_tb (i := 0) (by decide +kernel) rfl, ga_tb (i := 535) rfl rfl⟩, ⟨by decide +kernel, by decide +kernel, by decide +kernel⟩⟩
abbrev b_NetWires_byteAt : ByteArray := prog_1_method_18_code
def y_NetWires_byteAt : MethodName := ⟨"NetWires", "byteAt", "(I)I"⟩
set_option maxRecDepth 20000 in
theorem m_NetWires_byteAt : ga_M y_NetWires_byteAt b_NetWires_byteAt 2 (some .int) 1 := ⟨⟨ga_tb (i := 537) (by decide +kernel) rfl, ga_tb (i := 538) (by decide +kernel) rfl, ga_tb (i := 1) (by decide +kernel) rfl, ga_tb (i := 539) rfl rfl⟩, ⟨by decide +kernel, by decide +kernel, by decide +kernel⟩⟩
abbrev b_L_when : ByteArray := method_17_code
def y_L_when : MethodName := ⟨"NetWiresLaw", "when", "(LNetWires;II[J)I"⟩
abbrev hh_L_when : List (Nat × Nat × Nat × Nat) := [(0, 10, 13, 21)]
set_option maxRecDepth 20000 in
theorem m_L_when : ga_Mw y_L_when b_L_when 5 (some .int) hh_L_when 4 := ⟨⟨ga_tb (i := 541) (by decide +kernel) rfl, ga_tb (i := 0) (by decide +kernel) rfl, ga_tb (i := 542) rfl rfl⟩, ⟨by decide +kernel, by decide +kernel, by decide +kernel⟩⟩
abbrev b_NetWires_when : ByteArray := prog_1_method_19_code
def y_NetWires_when : MethodName := ⟨"NetWires", "when", "(II)I"⟩
set_option maxRecDepth 20000 in
theorem m_NetWires_when : ga_M y_NetWires_when b_NetWires_when 4 (some .int) 2 := ⟨⟨ga_tb (i := 544) (by decide +kernel) rfl, ga_tb (i := 545) (by decide +kernel) rfl, ga_tb (i := 1) (by decide +kernel) rfl, ga_tb (i := 546) rfl rfl⟩, ⟨by decide +kernel, by decide +kernel, by decide +kernel⟩⟩
abbrev b_M_init : ByteArray := prog_8_method_1_code
def y_M_init : MethodName := ⟨"NetWiresModel", "<init>", "()V"⟩
set_option maxRecDepth 20000 in
theorem m_M_init : ga_Mi y_M_init b_M_init 2 0 := ⟨⟨ga_tb (i := 551) (by decide +kernel) rfl, ga_tb (i := 7) (by decide +kernel) rfl, ga_tb (i := 552) rfl rfl, rfl⟩, ⟨by decide +kernel, by decide +kernel, by decide +kernel⟩⟩
abbrev b_M_thrown : ByteArray := prog_8_method_2_code
def y_M_thrown : MethodName := ⟨"NetWiresModel", "thrown", "()I"⟩
set_option maxRecDepth 20000 in
theorem m_M_thrown : ga_M y_M_thrown b_M_thrown 1 (some .int) 0 := ⟨⟨ga_tb (i := 641) (by decide +kernel) rfl, ga_tb (i := 642) (by decide +kernel) rfl, ga_tb (i := 7) (by decide +kernel) rfl, ga_tb (i := 643) rfl rfl⟩, ⟨by decide +kernel, by decide +kernel, by decide +kernel⟩⟩
abbrev b_M_feed : ByteArray := prog_8_method_6_code
def y_M_feed : MethodName := ⟨"NetWiresModel", "feed", "(JI)I"⟩
set_option maxRecDepth 20000 in
theorem m_M_feed : ga_M y_M_feed b_M_feed 5 (some .int) 2 := ⟨⟨ga_tb (i := 645) (by decide +kernel) rfl, ga_tb (i := 646) (by decide +kernel) rfl, ga_tb (i := 7) (by decide +kernel) rfl, ga_tb (i := 647) rfl rfl⟩, ⟨by decide +kernel, by decide +kernel, by decide +kernel⟩⟩
abbrev b_M_within : ByteArray := prog_8_method_4_code
def y_M_within : MethodName := ⟨"NetWiresModel", "within", "(III)Z"⟩
set_option maxRecDepth 20000 in
theorem m_M_within : ga_Ms y_M_within b_M_within 3 (some .boolean) 3 := ⟨⟨ga_tb (i := 649) (by decide +kernel) rfl, ga_tb (i := 7) (by decide +kernel) rfl, ga_tb (i := 650) rfl rfl⟩, ⟨by decide +kernel, by decide +kernel, by decide +kernel⟩⟩
abbrev b_M_fail : ByteArray := prog_8_method_3_code
def y_M_fail : MethodName := ⟨"NetWiresModel", "fail", "(I)I"⟩
set_option maxRecDepth 20000 in
theorem m_M_fail : ga_M y_M_fail b_M_fail 2 (some .int) 1 := ⟨⟨ga_tb (i := 653) (by decide +kernel) rfl, ga_sl (i := 10) (by decide +kernel) rfl, ga_tb (i := 7) (by decide +kernel) rfl, ga_tb (i := 654) rfl rfl⟩, ⟨by decide +kernel, by decide +kernel, by decide +kernel⟩⟩
abbrev b_M_alarm : ByteArray := prog_8_method_14_code
def y_M_alarm : MethodName := ⟨"NetWiresModel", "alarm", "(II)Z"⟩
set_option maxRecDepth 20000 in
theorem m_M_alarm : ga_M y_M_alarm b_M_alarm 3 (some .boolean) 2 := ⟨⟨ga_tb (i := 657) (by decide +kernel) rfl, ga_tb (i := 658) (by decide +kernel) rfl, ga_tb (i := 7) (by decide +kernel) rfl, ga_tb (i := 659) rfl rfl⟩, ⟨by decide +kernel, by decide +kernel, by decide +kernel⟩⟩
abbrev b_M_set : ByteArray := prog_8_method_12_code
def y_M_set : MethodName := ⟨"NetWiresModel", "set", "(III)Z"⟩
set_option maxRecDepth 20000 in
theorem m_M_set : ga_M y_M_set b_M_set 5 (some .boolean) 3 := ⟨⟨ga_tb (i := 662) (by decide +kernel) rfl, ga_sl (i := 11) (by decide +kernel) rfl, ga_tb (i := 7) (by decide +kernel) rfl, ga_tb (i := 663) rfl rfl⟩, ⟨by decide +kernel, by decide +kernel, by decide +kernel⟩⟩
abbrev b_M_isEnd : ByteArray := prog_8_method_5_code
def y_M_isEnd : MethodName := ⟨"NetWiresModel", "isEnd", "(I)Z"⟩
set_option maxRecDepth 20000 in
theorem m_M_isEnd : ga_Ms y_M_isEnd b_M_isEnd 1 (some .boolean) 1 := ⟨⟨ga_tb (i := 665) (by decide +kernel) rfl, ga_tb (i := 7) (by decide +kernel) rfl, ga_tb (i := 666) rfl rfl⟩, ⟨by decide +kernel, by decide +kernel, by decide +kernel⟩⟩
abbrev b_M_drop : ByteArray := prog_8_method_11_code
def y_M_drop : MethodName := ⟨"NetWiresModel", "drop", "(II)Z"⟩
set_option maxRecDepth 20000 in
theorem m_M_drop : ga_M y_M_drop b_M_drop 4 (some .boolean) 2 := ⟨⟨ga_tb (i := 670) (by decide +kernel) rfl, ga_sl (i := 12) (by decide +kernel) rfl, ga_tb (i := 7) (by decide +kernel) rfl, ga_tb (i := 671) rfl rfl⟩, ⟨by decide +kernel, by decide +kernel, by decide +kernel⟩⟩
abbrev b_M_find : ByteArray := prog_8_method_10_code
def y_M_find : MethodName := ⟨"NetWiresModel", "find", "(II)I"⟩
set_option maxRecDepth 20000 in
theorem m_M_find : ga_M y_M_find b_M_find 5 (some .int) 2 := ⟨⟨ga_tb (i := 674) (by decide +kernel) rfl, ga_sl (i := 13) (by decide +kernel) rfl, ga_tb (i := 7) (by decide +kernel) rfl, ga_tb (i := 675) rfl rfl⟩, ⟨by decide +kernel, by decide +kernel, by decide +kernel⟩⟩
abbrev b_M_event : ByteArray := prog_8_method_7_code
def y_M_event : MethodName := ⟨"NetWiresModel", "event", "(IIII)I"⟩
set_option maxRecDepth 20000 in
theorem m_M_event : ga_M y_M_event b_M_event 5 (some .int) 4 := ⟨⟨ga_tb (i := 678) (by decide +kernel) rfl, ga_sl (i := 14) (by decide +kernel) rfl, ga_tb (i := 7) (by decide +kernel) rfl, ga_tb (i := 679) rfl rfl⟩, ⟨by decide +kernel, by decide +kernel, by decide +kernel⟩⟩
abbrev b_M_noAlarm : ByteArray := prog_8_method_15_code
def y_M_noAlarm : MethodName := ⟨"NetWiresModel", "noAlarm", "(I)Z"⟩
set_option maxRecDepth 20000 in
theorem m_M_noAlarm : ga_M y_M_noAlarm b_M_noAlarm 2 (some .boolean) 1 := ⟨⟨ga_tb (i := 681) (by decide +kernel) rfl, ga_tb (i := 682) (by decide +kernel) rfl, ga_tb (i := 7) (by decide +kernel) rfl, ga_tb (i := 683) rfl rfl⟩, ⟨by decide +kernel, by decide +kernel, by decide +kernel⟩⟩
abbrev b_M_unset : ByteArray := prog_8_method_13_code
def y_M_unset : MethodName := ⟨"NetWiresModel", "unset", "(II)Z"⟩
set_option maxRecDepth 20000 in
theorem m_M_unset : ga_M y_M_unset b_M_unset 3 (some .boolean) 2 := ⟨⟨ga_tb (i := 686) (by decide +kernel) rfl, ga_sl (i := 15) (by decide +kernel) rfl, ga_tb (i := 7) (by decide +kernel) rfl, ga_tb (i := 687) rfl rfl⟩, ⟨by decide +kernel, by decide +kernel, by decide +kernel⟩⟩
abbrev b_M_sync : ByteArray := prog_8_method_16_code
def y_M_sync : MethodName := ⟨"NetWiresModel", "sync", "(II)Z"⟩
set_option maxRecDepth 20000 in
theorem m_M_sync : ga_M y_M_sync b_M_sync 3 (some .boolean) 2 := ⟨⟨ga_tb (i := 689) (by decide +kernel) rfl, ga_tb (i := 690) (by decide +kernel) rfl, ga_tb (i := 7) (by decide +kernel) rfl, ga_tb (i := 691) rfl rfl⟩, ⟨by decide +kernel, by decide +kernel, by decide +kernel⟩⟩
abbrev b_M_noSync : ByteArray := prog_8_method_17_code
def y_M_noSync : MethodName := ⟨"NetWiresModel", "noSync", "(I)Z"⟩
set_option maxRecDepth 20000 in
theorem m_M_noSync : ga_M y_M_noSync b_M_noSync 2 (some .boolean) 1 := ⟨⟨ga_tb (i := 693) (by decide +kernel) rfl, ga_tb (i := 694) (by decide +kernel) rfl, ga_tb (i := 7) (by decide +kernel) rfl, ga_tb (i := 695) rfl rfl⟩, ⟨by decide +kernel, by decide +kernel, by decide +kernel⟩⟩
abbrev b_M_send : ByteArray := prog_8_method_21_code
def y_M_send : MethodName := ⟨"NetWiresModel", "send", "(II)I"⟩
set_option maxRecDepth 20000 in
theorem m_M_send : ga_M y_M_send b_M_send 10 (some .int) 2 := ⟨⟨ga_tb (i := 697) (by decide +kernel) rfl, ga_tb (i := 698) (by decide +kernel) rfl, ga_tb (i := 7) (by decide +kernel) rfl, ga_tb (i := 699) rfl rfl⟩, ⟨by decide +kernel, by decide +kernel, by decide +kernel⟩⟩
abbrev b_M_areParted : ByteArray := prog_8_method_19_code
def y_M_areParted : MethodName := ⟨"NetWiresModel", "areParted", "(II)Z"⟩
set_option maxRecDepth 20000 in
theorem m_M_areParted : ga_M y_M_areParted b_M_areParted 3 (some .boolean) 2 := ⟨⟨ga_tb (i := 702) (by decide +kernel) rfl, ga_sl (i := 16) (by decide +kernel) rfl, ga_tb (i := 7) (by decide +kernel) rfl, ga_tb (i := 703) rfl rfl⟩, ⟨by decide +kernel, by decide +kernel, by decide +kernel⟩⟩
abbrev b_M_drawn : ByteArray := prog_8_method_18_code
def y_M_drawn : MethodName := ⟨"NetWiresModel", "drawn", "(I)I"⟩
set_option maxRecDepth 20000 in
theorem m_M_drawn : ga_M y_M_drawn b_M_drawn 2 (some .int) 1 := ⟨⟨ga_tb (i := 706) (by decide +kernel) rfl, ga_sl (i := 17) (by decide +kernel) rfl, ga_tb (i := 7) (by decide +kernel) rfl, ga_tb (i := 707) rfl rfl⟩, ⟨by decide +kernel, by decide +kernel, by decide +kernel⟩⟩
abbrev b_M_go : ByteArray := prog_8_method_20_code
def y_M_go : MethodName := ⟨"NetWiresModel", "go", "(IIIII)Z"⟩
set_option maxRecDepth 20000 in
theorem m_M_go : ga_M y_M_go b_M_go 7 (some .boolean) 5 := ⟨⟨ga_tb (i := 712) (by decide +kernel) rfl, ga_sl (i := 18) (by decide +kernel) rfl, ga_tb (i := 7) (by decide +kernel) rfl, ga_tb (i := 713) rfl rfl⟩, ⟨by decide +kernel, by decide +kernel, by decide +kernel⟩⟩
abbrev b_M_meddle : ByteArray := prog_8_method_22_code
def y_M_meddle : MethodName := ⟨"NetWiresModel", "meddle", "(III)Z"⟩
set_option maxRecDepth 20000 in
theorem m_M_meddle : ga_M y_M_meddle b_M_meddle 6 (some .boolean) 3 := ⟨⟨ga_tb (i := 715) (by decide +kernel) rfl, ga_tb (i := 716) (by decide +kernel) rfl, ga_tb (i := 7) (by decide +kernel) rfl, ga_tb (i := 717) rfl rfl⟩, ⟨by decide +kernel, by decide +kernel, by decide +kernel⟩⟩
abbrev b_M_nth : ByteArray := prog_8_method_8_code
def y_M_nth : MethodName := ⟨"NetWiresModel", "nth", "(IZ)I"⟩
set_option maxRecDepth 20000 in
theorem m_M_nth : ga_M y_M_nth b_M_nth 7 (some .int) 2 := ⟨⟨ga_tb (i := 720) (by decide +kernel) rfl, ga_sl (i := 19) (by decide +kernel) rfl, ga_tb (i := 7) (by decide +kernel) rfl, ga_tb (i := 721) rfl rfl⟩, ⟨by decide +kernel, by decide +kernel, by decide +kernel⟩⟩
abbrev b_M_step : ByteArray := prog_8_method_24_code
def y_M_step : MethodName := ⟨"NetWiresModel", "step", "()I"⟩
set_option maxRecDepth 20000 in
theorem m_M_step : ga_M y_M_step b_M_step 2 (some .int) 0 := ⟨⟨ga_tb (i := 723) (by decide +kernel) rfl, ga_tb (i := 724) (by decide +kernel) rfl, ga_tb (i := 7) (by decide +kernel) rfl, ga_tb (i := 725) rfl rfl⟩, ⟨by decide +kernel, by decide +kernel, by decide +kernel⟩⟩
abbrev b_M_least : ByteArray := prog_8_method_9_code
def y_M_least : MethodName := ⟨"NetWiresModel", "least", "()I"⟩
set_option maxRecDepth 20000 in
theorem m_M_least : ga_M y_M_least b_M_least 3 (some .int) 0 := ⟨⟨ga_tb (i := 728) (by decide +kernel) rfl, ga_sl (i := 20) (by decide +kernel) rfl, ga_tb (i := 7) (by decide +kernel) rfl, ga_tb (i := 729) rfl rfl⟩, ⟨by decide +kernel, by decide +kernel, by decide +kernel⟩⟩
abbrev b_M_happen : ByteArray := prog_8_method_23_code
def y_M_happen : MethodName := ⟨"NetWiresModel", "happen", "(I)I"⟩
set_option maxRecDepth 20000 in
theorem m_M_happen : ga_M y_M_happen b_M_happen 4 (some .int) 1 := ⟨⟨ga_tb (i := 732) (by decide +kernel) rfl, ga_sl (i := 21) (by decide +kernel) rfl, ga_tb (i := 7) (by decide +kernel) rfl, ga_tb (i := 733) rfl rfl⟩, ⟨by decide +kernel, by decide +kernel, by decide +kernel⟩⟩
abbrev b_M_run : ByteArray := prog_8_method_25_code
def y_M_run : MethodName := ⟨"NetWiresModel", "run", "(I)I"⟩
set_option maxRecDepth 20000 in
theorem m_M_run : ga_M y_M_run b_M_run 5 (some .int) 1 := ⟨⟨ga_tb (i := 735) (by decide +kernel) rfl, ga_tb (i := 736) (by decide +kernel) rfl, ga_tb (i := 7) (by decide +kernel) rfl, ga_tb (i := 737) rfl rfl⟩, ⟨by decide +kernel, by decide +kernel, by decide +kernel⟩⟩
abbrev b_M_delay : ByteArray := prog_8_method_26_code
def y_M_delay : MethodName := ⟨"NetWiresModel", "delay", "(III)I"⟩
set_option maxRecDepth 20000 in
theorem m_M_delay : ga_M y_M_delay b_M_delay 5 (some .int) 3 := ⟨⟨ga_tb (i := 739) (by decide +kernel) rfl, ga_tb (i := 740) (by decide +kernel) rfl, ga_tb (i := 7) (by decide +kernel) rfl, ga_tb (i := 741) rfl rfl⟩, ⟨by decide +kernel, by decide +kernel, by decide +kernel⟩⟩
abbrev b_M_part : ByteArray := prog_8_method_27_code
def y_M_part : MethodName := ⟨"NetWiresModel", "part", "(I)I"⟩
set_option maxRecDepth 20000 in
theorem m_M_part : ga_M y_M_part b_M_part 3 (some .int) 1 := ⟨⟨ga_tb (i := 743) (by decide +kernel) rfl, ga_tb (i := 744) (by decide +kernel) rfl, ga_tb (i := 7) (by decide +kernel) rfl, ga_tb (i := 745) rfl rfl⟩, ⟨by decide +kernel, by decide +kernel, by decide +kernel⟩⟩
abbrev b_M_down : ByteArray := prog_8_method_28_code
def y_M_down : MethodName := ⟨"NetWiresModel", "down", "(I)I"⟩
set_option maxRecDepth 20000 in
theorem m_M_down : ga_M y_M_down b_M_down 3 (some .int) 1 := ⟨⟨ga_tb (i := 748) (by decide +kernel) rfl, ga_tb (i := 749) (by decide +kernel) rfl, ga_tb (i := 7) (by decide +kernel) rfl, ga_tb (i := 750) rfl rfl⟩, ⟨by decide +kernel, by decide +kernel, by decide +kernel⟩⟩
abbrev b_M_noise : ByteArray := prog_8_method_29_code
def y_M_noise : MethodName := ⟨"NetWiresModel", "noise", "(IIIJ)V"⟩
set_option maxRecDepth 20000 in
theorem m_M_noise : ga_M y_M_noise b_M_noise 6 none 4 := ⟨⟨ga_tb (i := 752) (by decide +kernel) rfl, ga_tb (i := 753) (by decide +kernel) rfl, ga_tb (i := 7) (by decide +kernel) rfl, ga_tb (i := 754) rfl rfl⟩, ⟨by decide +kernel, by decide +kernel, by decide +kernel⟩⟩
abbrev b_M_message : ByteArray := prog_8_method_30_code
def y_M_message : MethodName := ⟨"NetWiresModel", "message", "(II)I"⟩
set_option maxRecDepth 20000 in
theorem m_M_message : ga_M y_M_message b_M_message 4 (some .int) 2 := ⟨⟨ga_tb (i := 756) (by decide +kernel) rfl, ga_tb (i := 757) (by decide +kernel) rfl, ga_tb (i := 7) (by decide +kernel) rfl, ga_tb (i := 758) rfl rfl⟩, ⟨by decide +kernel, by decide +kernel, by decide +kernel⟩⟩
abbrev b_M_messageAt : ByteArray := prog_8_method_31_code
def y_M_messageAt : MethodName := ⟨"NetWiresModel", "messageAt", "(II)I"⟩
set_option maxRecDepth 20000 in
theorem m_M_messageAt : ga_M y_M_messageAt b_M_messageAt 4 (some .int) 2 := ⟨⟨ga_tb (i := 760) (by decide +kernel) rfl, ga_tb (i := 761) (by decide +kernel) rfl, ga_tb (i := 7) (by decide +kernel) rfl, ga_tb (i := 762) rfl rfl⟩, ⟨by decide +kernel, by decide +kernel, by decide +kernel⟩⟩
abbrev b_M_happened : ByteArray := prog_8_method_32_code
def y_M_happened : MethodName := ⟨"NetWiresModel", "happened", "(II)I"⟩
set_option maxRecDepth 20000 in
theorem m_M_happened : ga_M y_M_happened b_M_happened 5 (some .int) 2 := ⟨⟨ga_tb (i := 764) (by decide +kernel) rfl, ga_tb (i := 765) (by decide +kernel) rfl, ga_tb (i := 7) (by decide +kernel) rfl, ga_tb (i := 766) rfl rfl⟩, ⟨by decide +kernel, by decide +kernel, by decide +kernel⟩⟩
abbrev b_M_byteAt : ByteArray := prog_8_method_33_code
def y_M_byteAt : MethodName := ⟨"NetWiresModel", "byteAt", "(I)I"⟩
set_option maxRecDepth 20000 in
theorem m_M_byteAt : ga_M y_M_byteAt b_M_byteAt 2 (some .int) 1 := ⟨⟨ga_tb (i := 768) (by decide +kernel) rfl, ga_tb (i := 769) (by decide +kernel) rfl, ga_tb (i := 7) (by decide +kernel) rfl, ga_tb (i := 770) rfl rfl⟩, ⟨by decide +kernel, by decide +kernel, by decide +kernel⟩⟩
abbrev b_M_when : ByteArray := prog_8_method_34_code
def y_M_when : MethodName := ⟨"NetWiresModel", "when", "(II)I"⟩
set_option maxRecDepth 20000 in
theorem m_M_when : ga_M y_M_when b_M_when 4 (some .int) 2 := ⟨⟨ga_tb (i := 772) (by decide +kernel) rfl, ga_tb (i := 773) (by decide +kernel) rfl, ga_tb (i := 7) (by decide +kernel) rfl, ga_tb (i := 774) rfl rfl⟩, ⟨by decide +kernel, by decide +kernel, by decide +kernel⟩⟩
abbrev b_M_count : ByteArray := prog_8_method_35_code
def y_M_count : MethodName := ⟨"NetWiresModel", "count", "(I)I"⟩
set_option maxRecDepth 20000 in
theorem m_M_count : ga_M y_M_count b_M_count 2 (some .int) 1 := ⟨⟨ga_tb (i := 776) (by decide +kernel) rfl, ga_tb (i := 777) (by decide +kernel) rfl, ga_tb (i := 7) (by decide +kernel) rfl, ga_tb (i := 778) rfl rfl⟩, ⟨by decide +kernel, by decide +kernel, by decide +kernel⟩⟩
theorem kl_L_8 : Cond.classLink "NetWiresLaw" 8 "NetWires" ∈ ga_T := ga_tb (i := 17) (by decide +kernel) rfl
theorem ml_L_68 : Cond.methodLink "NetWiresLaw" 68 y_NetWires_init ∈ ga_T := ga_tb (i := 19) (by decide +kernel) rfl
theorem ml_NetWires_3 : Cond.methodLink "NetWires" 3 objectInit ∈ ga_T := ga_tb (i := 22) (by decide +kernel) rfl
theorem kl_NetWires_9 : Cond.classLink "NetWires" 9 "NetWires$Tape" ∈ ga_T := ga_tb (i := 25) (by decide +kernel) rfl
theorem ml_NetWires_11 : Cond.methodLink "NetWires" 11 y_Tape_init ∈ ga_T := ga_tb (i := 27) (by decide +kernel) rfl
theorem ml_Tape_3 : Cond.methodLink "NetWires$Tape" 3 objectInit ∈ ga_T := ga_tb (i := 30) (by decide +kernel) rfl
theorem fl_Tape_9 : Cond.fieldLink "NetWires$Tape" 9 "NetWires$Tape" "bytes" "[B" ∈ ga_T := ga_tb (i := 31) (by decide +kernel) rfl
theorem fl_Tape_15 : Cond.fieldLink "NetWires$Tape" 15 "NetWires$Tape" "length" "I" ∈ ga_T := ga_tb (i := 32) (by decide +kernel) rfl
theorem fl_NetWires_93 : Cond.fieldLink "NetWires" 93 "NetWires$Tape" "length" "I" ∈ ga_T := ga_tb (i := 33) (by decide +kernel) rfl
theorem kl_NetWires_16 : Cond.classLink "NetWires" 16 "NetWires$Agenda" ∈ ga_T := ga_tb (i := 40) (by decide +kernel) rfl
theorem ml_NetWires_18 : Cond.methodLink "NetWires" 18 y_Agenda_init ∈ ga_T := ga_tb (i := 42) (by decide +kernel) rfl
theorem ml_Agenda_3 : Cond.methodLink "NetWires$Agenda" 3 objectInit ∈ ga_T := ga_tb (i := 45) (by decide +kernel) rfl
theorem kl_Agenda_9 : Cond.classLink "NetWires$Agenda" 9 "NetWires$Event" ∈ ga_T := ga_tb (i := 46) (by decide +kernel) rfl
theorem fl_Agenda_11 : Cond.fieldLink "NetWires$Agenda" 11 "NetWires$Agenda" "events" "[LNetWires$Event;" ∈ ga_T := ga_tb (i := 48) (by decide +kernel) rfl
theorem fl_Agenda_17 : Cond.fieldLink "NetWires$Agenda" 17 "NetWires$Agenda" "size" "I" ∈ ga_T := ga_tb (i := 49) (by decide +kernel) rfl
theorem fl_Agenda_21 : Cond.fieldLink "NetWires$Agenda" 21 "NetWires$Agenda" "messages" "I" ∈ ga_T := ga_tb (i := 50) (by decide +kernel) rfl
theorem fl_NetWires_206 : Cond.fieldLink "NetWires" 206 "NetWires$Agenda" "messages" "I" ∈ ga_T := ga_tb (i := 51) (by decide +kernel) rfl
theorem kl_NetWires_23 : Cond.classLink "NetWires" 23 "NetWires$History" ∈ ga_T := ga_tb (i := 59) (by decide +kernel) rfl
theorem ml_NetWires_25 : Cond.methodLink "NetWires" 25 y_History_init ∈ ga_T := ga_tb (i := 61) (by decide +kernel) rfl
theorem ml_History_3 : Cond.methodLink "NetWires$History" 3 objectInit ∈ ga_T := ga_tb (i := 64) (by decide +kernel) rfl
theorem fl_History_9 : Cond.fieldLink "NetWires$History" 9 "NetWires$History" "facts" "[I" ∈ ga_T := ga_tb (i := 65) (by decide +kernel) rfl
theorem fl_History_15 : Cond.fieldLink "NetWires$History" 15 "NetWires$History" "newest" "I" ∈ ga_T := ga_tb (i := 66) (by decide +kernel) rfl
theorem fl_History_19 : Cond.fieldLink "NetWires$History" 19 "NetWires$History" "kept" "I" ∈ ga_T := ga_tb (i := 67) (by decide +kernel) rfl
theorem fl_History_22 : Cond.fieldLink "NetWires$History" 22 "NetWires$History" "total" "I" ∈ ga_T := ga_tb (i := 68) (by decide +kernel) rfl
theorem fl_NetWires_209 : Cond.fieldLink "NetWires" 209 "NetWires$History" "total" "I" ∈ ga_T := ga_tb (i := 69) (by decide +kernel) rfl
theorem kl_NetWires_30 : Cond.classLink "NetWires" 30 "NetWires$Noise" ∈ ga_T := ga_tb (i := 80) (by decide +kernel) rfl
theorem ml_NetWires_32 : Cond.methodLink "NetWires" 32 y_Noise_init ∈ ga_T := ga_tb (i := 82) (by decide +kernel) rfl
theorem ml_Noise_1 : Cond.methodLink "NetWires$Noise" 1 objectInit ∈ ga_T := ga_tb (i := 85) (by decide +kernel) rfl
theorem fl_Noise_7 : Cond.fieldLink "NetWires$Noise" 7 "NetWires$Noise" "loss" "I" ∈ ga_T := ga_tb (i := 86) (by decide +kernel) rfl
theorem fl_NetWires_225 : Cond.fieldLink "NetWires" 225 "NetWires$Noise" "loss" "I" ∈ ga_T := ga_tb (i := 87) (by decide +kernel) rfl
theorem fl_Noise_13 : Cond.fieldLink "NetWires$Noise" 13 "NetWires$Noise" "twice" "I" ∈ ga_T := ga_tb (i := 88) (by decide +kernel) rfl
theorem fl_NetWires_228 : Cond.fieldLink "NetWires" 228 "NetWires$Noise" "twice" "I" ∈ ga_T := ga_tb (i := 89) (by decide +kernel) rfl
theorem fl_Noise_16 : Cond.fieldLink "NetWires$Noise" 16 "NetWires$Noise" "spread" "I" ∈ ga_T := ga_tb (i := 90) (by decide +kernel) rfl
theorem fl_NetWires_231 : Cond.fieldLink "NetWires" 231 "NetWires$Noise" "spread" "I" ∈ ga_T := ga_tb (i := 91) (by decide +kernel) rfl
theorem fl_Noise_19 : Cond.fieldLink "NetWires$Noise" 19 "NetWires$Noise" "draw" "J" ∈ ga_T := ga_tb (i := 92) (by decide +kernel) rfl
theorem ml_NetWires_41 : Cond.methodLink "NetWires" 41 y_J_fill ∈ ga_T := ga_tb (i := 102) (by decide +kernel) rfl
theorem fl_NetWires_66 : Cond.fieldLink "NetWires" 66 "NetWires" "NO_BYTES" "[B" ∈ ga_T := ga_tb (i := 105) (by decide +kernel) rfl
theorem fl_NetWires_12 : Cond.fieldLink "NetWires" 12 "NetWires" "tape" "LNetWires$Tape;" ∈ ga_T := ga_tb (i := 107) (by decide +kernel) rfl
theorem fl_NetWires_19 : Cond.fieldLink "NetWires" 19 "NetWires" "agenda" "LNetWires$Agenda;" ∈ ga_T := ga_tb (i := 108) (by decide +kernel) rfl
theorem fl_NetWires_26 : Cond.fieldLink "NetWires" 26 "NetWires" "history" "LNetWires$History;" ∈ ga_T := ga_tb (i := 109) (by decide +kernel) rfl
theorem fl_NetWires_33 : Cond.fieldLink "NetWires" 33 "NetWires" "disturbance" "LNetWires$Noise;" ∈ ga_T := ga_tb (i := 110) (by decide +kernel) rfl
theorem fl_NetWires_37 : Cond.fieldLink "NetWires" 37 "NetWires" "delays" "[I" ∈ ga_T := ga_tb (i := 111) (by decide +kernel) rfl
theorem fl_NetWires_47 : Cond.fieldLink "NetWires" 47 "NetWires" "now" "I" ∈ ga_T := ga_tb (i := 112) (by decide +kernel) rfl
theorem fl_NetWires_51 : Cond.fieldLink "NetWires" 51 "NetWires" "nextNumber" "I" ∈ ga_T := ga_tb (i := 113) (by decide +kernel) rfl
theorem fl_NetWires_54 : Cond.fieldLink "NetWires" 54 "NetWires" "partedSet" "I" ∈ ga_T := ga_tb (i := 114) (by decide +kernel) rfl
theorem fl_NetWires_57 : Cond.fieldLink "NetWires" 57 "NetWires" "downSet" "I" ∈ ga_T := ga_tb (i := 115) (by decide +kernel) rfl
theorem fl_NetWires_60 : Cond.fieldLink "NetWires" 60 "NetWires" "everOnWay" "I" ∈ ga_T := ga_tb (i := 116) (by decide +kernel) rfl
theorem fl_NetWires_63 : Cond.fieldLink "NetWires" 63 "NetWires" "lost" "I" ∈ ga_T := ga_tb (i := 117) (by decide +kernel) rfl
theorem fl_NetWires_70 : Cond.fieldLink "NetWires" 70 "NetWires" "arrivedBytes" "[B" ∈ ga_T := ga_tb (i := 118) (by decide +kernel) rfl
theorem ml_L_101 : Cond.methodLink "NetWiresLaw" 101 y_NetWires_step ∈ ga_T := ga_tb (i := 144) (by decide +kernel) rfl
theorem ml_NetWires_132 : Cond.methodLink "NetWires" 132 y_Agenda_takeAt ∈ ga_T := ga_tb (i := 148) (by decide +kernel) rfl
theorem ml_Agenda_34 : Cond.methodLink "NetWires$Agenda" 34 y_Agenda_at ∈ ga_T := ga_tb (i := 152) (by decide +kernel) rfl
theorem ml_NetWires_136 : Cond.methodLink "NetWires" 136 y_NetWires_letHappen ∈ ga_T := ga_tb (i := 156) (by decide +kernel) rfl
theorem ml_NetWires_248 : Cond.methodLink "NetWires" 248 y_NetWires_receive ∈ ga_T := ga_tb (i := 160) (by decide +kernel) rfl
theorem ml_NetWires_104 : Cond.methodLink "NetWires" 104 y_NetWires_areParted ∈ ga_T := ga_tb (i := 164) (by decide +kernel) rfl
theorem ml_NetWires_219 : Cond.methodLink "NetWires" 219 y_NetWires_isIn ∈ ga_T := ga_tb (i := 168) (by decide +kernel) rfl
theorem ml_NetWires_251 : Cond.methodLink "NetWires" 251 y_History_remember ∈ ga_T := ga_tb (i := 171) (by decide +kernel) rfl
theorem ml_L_125 : Cond.methodLink "NetWiresLaw" 125 y_NetWires_message ∈ ga_T := ga_tb (i := 175) (by decide +kernel) rfl
theorem ml_NetWires_171 : Cond.methodLink "NetWires" 171 y_Agenda_placeOfMessage ∈ ga_T := ga_tb (i := 179) (by decide +kernel) rfl
theorem ml_NetWires_145 : Cond.methodLink "NetWires" 145 y_Agenda_at ∈ ga_T := ga_tb (i := 183) (by decide +kernel) rfl
theorem ml_L_132 : Cond.methodLink "NetWiresLaw" 132 y_NetWires_happened ∈ ga_T := ga_tb (i := 184) (by decide +kernel) rfl
theorem ml_NetWires_198 : Cond.methodLink "NetWires" 198 y_History_fact ∈ ga_T := ga_tb (i := 188) (by decide +kernel) rfl
theorem ml_L_142 : Cond.methodLink "NetWiresLaw" 142 y_NetWires_count ∈ ga_T := ga_tb (i := 192) (by decide +kernel) rfl
theorem ml_L_74 : Cond.methodLink "NetWiresLaw" 74 y_L_feed ∈ ga_T := ga_tb (i := 196) (by decide +kernel) rfl
theorem kl_L_13 : Cond.classLink "NetWiresLaw" 13 "java/lang/IllegalArgumentException" ∈ ga_T := ga_tb (i := 199) (by decide +kernel) rfl
theorem kl_L_15 : Cond.classLink "NetWiresLaw" 15 "java/lang/IllegalStateException" ∈ ga_T := ga_tb (i := 200) (by decide +kernel) rfl
theorem ml_L_7 : Cond.methodLink "NetWiresLaw" 7 y_NetWires_feed ∈ ga_T := ga_tb (i := 201) (by decide +kernel) rfl
theorem kl_NetWires_73 : Cond.classLink "NetWires" 73 "java/lang/IllegalArgumentException" ∈ ga_T := ga_tb (i := 205) (by decide +kernel) rfl
theorem ml_NetWires_77 : Cond.methodLink "NetWires" 77 ⟨"java/lang/IllegalArgumentException", "<init>", "(Ljava/lang/String;)V"⟩ ∈ ga_T := ga_tb (i := 247) (by decide +kernel) rfl
theorem ml_NetWires_80 : Cond.methodLink "NetWires" 80 y_Tape_hasRoomFor ∈ ga_T := ga_tb (i := 272) (by decide +kernel) rfl
theorem kl_NetWires_84 : Cond.classLink "NetWires" 84 "java/lang/IllegalStateException" ∈ ga_T := ga_tb (i := 276) (by decide +kernel) rfl
theorem ml_NetWires_88 : Cond.methodLink "NetWires" 88 ⟨"java/lang/IllegalStateException", "<init>", "(Ljava/lang/String;)V"⟩ ∈ ga_T := ga_tb (i := 286) (by decide +kernel) rfl
theorem ml_NetWires_89 : Cond.methodLink "NetWires" 89 y_Tape_append ∈ ga_T := ga_tb (i := 292) (by decide +kernel) rfl
theorem ml_Tape_19 : Cond.methodLink "NetWires$Tape" 19 y_Tape_hasRoomFor ∈ ga_T := ga_tb (i := 296) (by decide +kernel) rfl
theorem ml_L_84 : Cond.methodLink "NetWiresLaw" 84 y_L_send ∈ ga_T := ga_tb (i := 297) (by decide +kernel) rfl
theorem kl_L_21 : Cond.classLink "NetWiresLaw" 21 "java/lang/IndexOutOfBoundsException" ∈ ga_T := ga_tb (i := 300) (by decide +kernel) rfl
theorem ml_L_17 : Cond.methodLink "NetWiresLaw" 17 y_NetWires_send ∈ ga_T := ga_tb (i := 301) (by decide +kernel) rfl
theorem ml_NetWires_96 : Cond.methodLink "NetWires" 96 y_Tape_takeAll ∈ ga_T := ga_tb (i := 305) (by decide +kernel) rfl
theorem ml_Tape_26 : Cond.methodLink "NetWires$Tape" 26 y_J_copyOf ∈ ga_T := ga_tb (i := 310) (by decide +kernel) rfl
theorem ml_J_310 : Cond.methodLink "java/util/Arrays" 310 ⟨"[B", "clone", "()Ljava/lang/Object;"⟩ ∈ ga_T := ga_tb (i := 313) (by decide +kernel) rfl
theorem kl_J_311 : Cond.classLink "java/util/Arrays" 311 "[B" ∈ ga_T := ga_tb (i := 319) (by decide +kernel) rfl
theorem ml_J_304 : Cond.methodLink "java/util/Arrays" 304 ⟨"java/lang/Math", "min", "(II)I"⟩ ∈ ga_T := ga_tb (i := 320) (by decide +kernel) rfl
theorem ml_J_150 : Cond.methodLink "java/util/Arrays" 150 ⟨"java/lang/System", "arraycopy", "(Ljava/lang/Object;ILjava/lang/Object;II)V"⟩ ∈ ga_T := ga_tb (i := 323) (by decide +kernel) rfl
theorem ml_NetWires_100 : Cond.methodLink "NetWires" 100 y_NetWires_demandEndpoint ∈ ga_T := ga_tb (i := 326) (by decide +kernel) rfl
theorem ml_NetWires_140 : Cond.methodLink "NetWires" 140 y_NetWires_isWithin ∈ ga_T := ga_tb (i := 329) (by decide +kernel) rfl
theorem kl_NetWires_191 : Cond.classLink "NetWires" 191 "java/lang/IndexOutOfBoundsException" ∈ ga_T := ga_tb (i := 332) (by decide +kernel) rfl
theorem ml_NetWires_195 : Cond.methodLink "NetWires" 195 ⟨"java/lang/IndexOutOfBoundsException", "<init>", "(Ljava/lang/String;)V"⟩ ∈ ga_T := ga_tb (i := 342) (by decide +kernel) rfl
theorem ml_NetWires_108 : Cond.methodLink "NetWires" 108 y_Noise_isOn ∈ ga_T := ga_tb (i := 348) (by decide +kernel) rfl
theorem ml_NetWires_112 : Cond.methodLink "NetWires" 112 y_NetWires_launchThroughNoise ∈ ga_T := ga_tb (i := 352) (by decide +kernel) rfl
theorem ml_NetWires_222 : Cond.methodLink "NetWires" 222 y_Noise_drawBelow ∈ ga_T := ga_tb (i := 356) (by decide +kernel) rfl
theorem kc_Noise_23 : Cond.constantLong "NetWires$Noise" 23 6364136223846793005 ∈ ga_T := ga_tb (i := 360) (by decide +kernel) rfl
theorem kc_Noise_25 : Cond.constantLong "NetWires$Noise" 25 1442695040888963407 ∈ ga_T := ga_tb (i := 361) (by decide +kernel) rfl
theorem ml_NetWires_116 : Cond.methodLink "NetWires" 116 y_NetWires_launch ∈ ga_T := ga_tb (i := 362) (by decide +kernel) rfl
theorem ml_NetWires_153 : Cond.methodLink "NetWires" 153 y_NetWires_linkOf ∈ ga_T := ga_tb (i := 366) (by decide +kernel) rfl
theorem ml_NetWires_184 : Cond.methodLink "NetWires" 184 y_NetWires_addMessage ∈ ga_T := ga_tb (i := 369) (by decide +kernel) rfl
theorem kl_NetWires_149 : Cond.classLink "NetWires" 149 "NetWires$Event" ∈ ga_T := ga_tb (i := 373) (by decide +kernel) rfl
theorem ml_NetWires_234 : Cond.methodLink "NetWires" 234 y_NetWires_takeNumber ∈ ga_T := ga_tb (i := 375) (by decide +kernel) rfl
theorem ml_NetWires_238 : Cond.methodLink "NetWires" 238 y_Event_init ∈ ga_T := ga_tb (i := 379) (by decide +kernel) rfl
theorem ml_Event_1 : Cond.methodLink "NetWires$Event" 1 objectInit ∈ ga_T := ga_tb (i := 382) (by decide +kernel) rfl
theorem fl_Event_7 : Cond.fieldLink "NetWires$Event" 7 "NetWires$Event" "kind" "I" ∈ ga_T := ga_tb (i := 383) (by decide +kernel) rfl
theorem fl_Agenda_31 : Cond.fieldLink "NetWires$Agenda" 31 "NetWires$Event" "kind" "I" ∈ ga_T := ga_tb (i := 384) (by decide +kernel) rfl
theorem fl_NetWires_245 : Cond.fieldLink "NetWires" 245 "NetWires$Event" "kind" "I" ∈ ga_T := ga_tb (i := 385) (by decide +kernel) rfl
theorem fl_Event_13 : Cond.fieldLink "NetWires$Event" 13 "NetWires$Event" "endpoint" "I" ∈ ga_T := ga_tb (i := 386) (by decide +kernel) rfl
theorem fl_Agenda_38 : Cond.fieldLink "NetWires$Agenda" 38 "NetWires$Event" "endpoint" "I" ∈ ga_T := ga_tb (i := 387) (by decide +kernel) rfl
theorem fl_NetWires_178 : Cond.fieldLink "NetWires" 178 "NetWires$Event" "endpoint" "I" ∈ ga_T := ga_tb (i := 388) (by decide +kernel) rfl
theorem fl_Event_16 : Cond.fieldLink "NetWires$Event" 16 "NetWires$Event" "from" "I" ∈ ga_T := ga_tb (i := 389) (by decide +kernel) rfl
theorem fl_History_33 : Cond.fieldLink "NetWires$History" 33 "NetWires$Event" "from" "I" ∈ ga_T := ga_tb (i := 390) (by decide +kernel) rfl
theorem fl_NetWires_175 : Cond.fieldLink "NetWires" 175 "NetWires$Event" "from" "I" ∈ ga_T := ga_tb (i := 391) (by decide +kernel) rfl
theorem fl_Event_19 : Cond.fieldLink "NetWires$Event" 19 "NetWires$Event" "time" "I" ∈ ga_T := ga_tb (i := 392) (by decide +kernel) rfl
theorem fl_History_25 : Cond.fieldLink "NetWires$History" 25 "NetWires$Event" "time" "I" ∈ ga_T := ga_tb (i := 393) (by decide +kernel) rfl
theorem fl_Agenda_24 : Cond.fieldLink "NetWires$Agenda" 24 "NetWires$Event" "time" "I" ∈ ga_T := ga_tb (i := 394) (by decide +kernel) rfl
theorem fl_NetWires_148 : Cond.fieldLink "NetWires" 148 "NetWires$Event" "time" "I" ∈ ga_T := ga_tb (i := 395) (by decide +kernel) rfl
theorem fl_Event_22 : Cond.fieldLink "NetWires$Event" 22 "NetWires$Event" "number" "I" ∈ ga_T := ga_tb (i := 396) (by decide +kernel) rfl
theorem fl_History_30 : Cond.fieldLink "NetWires$History" 30 "NetWires$Event" "number" "I" ∈ ga_T := ga_tb (i := 397) (by decide +kernel) rfl
theorem fl_NetWires_188 : Cond.fieldLink "NetWires" 188 "NetWires$Event" "number" "I" ∈ ga_T := ga_tb (i := 398) (by decide +kernel) rfl
theorem fl_Event_25 : Cond.fieldLink "NetWires$Event" 25 "NetWires$Event" "bytes" "[B" ∈ ga_T := ga_tb (i := 399) (by decide +kernel) rfl
theorem fl_NetWires_181 : Cond.fieldLink "NetWires" 181 "NetWires$Event" "bytes" "[B" ∈ ga_T := ga_tb (i := 400) (by decide +kernel) rfl
theorem ml_NetWires_241 : Cond.methodLink "NetWires" 241 y_Agenda_insert ∈ ga_T := ga_tb (i := 414) (by decide +kernel) rfl
theorem ml_Agenda_27 : Cond.methodLink "NetWires$Agenda" 27 y_Agenda_isAfter ∈ ga_T := ga_tb (i := 418) (by decide +kernel) rfl
theorem ml_L_88 : Cond.methodLink "NetWiresLaw" 88 y_L_alarm ∈ ga_T := ga_tb (i := 422) (by decide +kernel) rfl
theorem ml_L_23 : Cond.methodLink "NetWiresLaw" 23 y_NetWires_alarm ∈ ga_T := ga_tb (i := 425) (by decide +kernel) rfl
theorem kc_NetWires_120 : Cond.constant "NetWires" 120 100000 ∈ ga_T := ga_tb (i := 429) (by decide +kernel) rfl
theorem ml_NetWires_121 : Cond.methodLink "NetWires" 121 y_NetWires_demandTicks ∈ ga_T := ga_tb (i := 430) (by decide +kernel) rfl
theorem ml_NetWires_125 : Cond.methodLink "NetWires" 125 y_NetWires_setTimer ∈ ga_T := ga_tb (i := 434) (by decide +kernel) rfl
theorem ml_NetWires_129 : Cond.methodLink "NetWires" 129 y_NetWires_dropTimer ∈ ga_T := ga_tb (i := 438) (by decide +kernel) rfl
theorem ml_NetWires_203 : Cond.methodLink "NetWires" 203 y_Agenda_placeOfTimer ∈ ga_T := ga_tb (i := 442) (by decide +kernel) rfl
theorem ml_L_91 : Cond.methodLink "NetWiresLaw" 91 y_L_noAlarm ∈ ga_T := ga_tb (i := 446) (by decide +kernel) rfl
theorem ml_L_27 : Cond.methodLink "NetWiresLaw" 27 y_NetWires_noAlarm ∈ ga_T := ga_tb (i := 449) (by decide +kernel) rfl
theorem ml_L_95 : Cond.methodLink "NetWiresLaw" 95 y_L_sync ∈ ga_T := ga_tb (i := 453) (by decide +kernel) rfl
theorem ml_L_31 : Cond.methodLink "NetWiresLaw" 31 y_NetWires_sync ∈ ga_T := ga_tb (i := 456) (by decide +kernel) rfl
theorem ml_L_98 : Cond.methodLink "NetWiresLaw" 98 y_L_noSync ∈ ga_T := ga_tb (i := 460) (by decide +kernel) rfl
theorem ml_L_34 : Cond.methodLink "NetWiresLaw" 34 y_NetWires_noSync ∈ ga_T := ga_tb (i := 463) (by decide +kernel) rfl
theorem ml_L_105 : Cond.methodLink "NetWiresLaw" 105 y_L_run ∈ ga_T := ga_tb (i := 467) (by decide +kernel) rfl
theorem ml_L_37 : Cond.methodLink "NetWiresLaw" 37 y_NetWires_run ∈ ga_T := ga_tb (i := 470) (by decide +kernel) rfl
theorem ml_L_108 : Cond.methodLink "NetWiresLaw" 108 y_L_delay ∈ ga_T := ga_tb (i := 475) (by decide +kernel) rfl
theorem ml_L_41 : Cond.methodLink "NetWiresLaw" 41 y_NetWires_delay ∈ ga_T := ga_tb (i := 478) (by decide +kernel) rfl
theorem ml_L_112 : Cond.methodLink "NetWiresLaw" 112 y_L_part ∈ ga_T := ga_tb (i := 482) (by decide +kernel) rfl
theorem ml_L_45 : Cond.methodLink "NetWiresLaw" 45 y_NetWires_part ∈ ga_T := ga_tb (i := 485) (by decide +kernel) rfl
theorem ml_NetWires_157 : Cond.methodLink "NetWires" 157 y_NetWires_demandSet ∈ ga_T := ga_tb (i := 489) (by decide +kernel) rfl
theorem kc_NetWires_216 : Cond.constant "NetWires" 216 65535 ∈ ga_T := ga_tb (i := 492) (by decide +kernel) rfl
theorem ml_L_115 : Cond.methodLink "NetWiresLaw" 115 y_L_down ∈ ga_T := ga_tb (i := 494) (by decide +kernel) rfl
theorem ml_L_48 : Cond.methodLink "NetWiresLaw" 48 y_NetWires_down ∈ ga_T := ga_tb (i := 497) (by decide +kernel) rfl
theorem ml_L_118 : Cond.methodLink "NetWiresLaw" 118 y_L_noise ∈ ga_T := ga_tb (i := 501) (by decide +kernel) rfl
theorem ml_L_51 : Cond.methodLink "NetWiresLaw" 51 y_NetWires_noise ∈ ga_T := ga_tb (i := 504) (by decide +kernel) rfl
theorem ml_NetWires_162 : Cond.methodLink "NetWires" 162 y_Noise_set ∈ ga_T := ga_tb (i := 509) (by decide +kernel) rfl
theorem ml_L_122 : Cond.methodLink "NetWiresLaw" 122 y_L_meddle ∈ ga_T := ga_tb (i := 513) (by decide +kernel) rfl
theorem ml_L_55 : Cond.methodLink "NetWiresLaw" 55 y_NetWires_meddle ∈ ga_T := ga_tb (i := 516) (by decide +kernel) rfl
theorem ml_NetWires_166 : Cond.methodLink "NetWires" 166 y_NetWires_canMeddle ∈ ga_T := ga_tb (i := 520) (by decide +kernel) rfl
theorem ml_L_129 : Cond.methodLink "NetWiresLaw" 129 y_L_messageAt ∈ ga_T := ga_tb (i := 524) (by decide +kernel) rfl
theorem ml_L_59 : Cond.methodLink "NetWiresLaw" 59 y_NetWires_messageAt ∈ ga_T := ga_tb (i := 527) (by decide +kernel) rfl
theorem ml_L_136 : Cond.methodLink "NetWiresLaw" 136 y_L_byteAt ∈ ga_T := ga_tb (i := 533) (by decide +kernel) rfl
theorem ml_L_62 : Cond.methodLink "NetWiresLaw" 62 y_NetWires_byteAt ∈ ga_T := ga_tb (i := 536) (by decide +kernel) rfl
theorem ml_L_139 : Cond.methodLink "NetWiresLaw" 139 y_L_when ∈ ga_T := ga_tb (i := 540) (by decide +kernel) rfl
theorem ml_L_65 : Cond.methodLink "NetWiresLaw" 65 y_NetWires_when ∈ ga_T := ga_tb (i := 543) (by decide +kernel) rfl
theorem kl_L_69 : Cond.classLink "NetWiresLaw" 69 "NetWiresModel" ∈ ga_T := ga_tb (i := 548) (by decide +kernel) rfl
theorem ml_L_71 : Cond.methodLink "NetWiresLaw" 71 y_M_init ∈ ga_T := ga_tb (i := 550) (by decide +kernel) rfl
theorem ml_M_1 : Cond.methodLink "NetWiresModel" 1 objectInit ∈ ga_T := ga_tb (i := 553) (by decide +kernel) rfl
theorem fl_M_51 : Cond.fieldLink "NetWiresModel" 51 "NetWiresModel" "thrown" "I" ∈ ga_T := ga_tb (i := 554) (by decide +kernel) rfl
theorem fl_M_83 : Cond.fieldLink "NetWiresModel" 83 "NetWiresModel" "now" "I" ∈ ga_T := ga_tb (i := 555) (by decide +kernel) rfl
theorem fl_M_67 : Cond.fieldLink "NetWiresModel" 67 "NetWiresModel" "made" "I" ∈ ga_T := ga_tb (i := 556) (by decide +kernel) rfl
theorem fl_M_7 : Cond.fieldLink "NetWiresModel" 7 "NetWiresModel" "times" "[I" ∈ ga_T := ga_tb (i := 557) (by decide +kernel) rfl
theorem fl_M_13 : Cond.fieldLink "NetWiresModel" 13 "NetWiresModel" "sorts" "[I" ∈ ga_T := ga_tb (i := 558) (by decide +kernel) rfl
theorem fl_M_16 : Cond.fieldLink "NetWiresModel" 16 "NetWiresModel" "whose" "[I" ∈ ga_T := ga_tb (i := 559) (by decide +kernel) rfl
theorem fl_M_19 : Cond.fieldLink "NetWiresModel" 19 "NetWiresModel" "froms" "[I" ∈ ga_T := ga_tb (i := 560) (by decide +kernel) rfl
theorem fl_M_22 : Cond.fieldLink "NetWiresModel" 22 "NetWiresModel" "begins" "[I" ∈ ga_T := ga_tb (i := 561) (by decide +kernel) rfl
theorem fl_M_25 : Cond.fieldLink "NetWiresModel" 25 "NetWiresModel" "sizes" "[I" ∈ ga_T := ga_tb (i := 562) (by decide +kernel) rfl
theorem fl_M_28 : Cond.fieldLink "NetWiresModel" 28 "NetWiresModel" "there" "[Z" ∈ ga_T := ga_tb (i := 563) (by decide +kernel) rfl
theorem fl_M_116 : Cond.fieldLink "NetWiresModel" 116 "NetWiresModel" "used" "I" ∈ ga_T := ga_tb (i := 564) (by decide +kernel) rfl
theorem fl_M_32 : Cond.fieldLink "NetWiresModel" 32 "NetWiresModel" "said" "[I" ∈ ga_T := ga_tb (i := 565) (by decide +kernel) rfl
theorem fl_M_62 : Cond.fieldLink "NetWiresModel" 62 "NetWiresModel" "tape" "I" ∈ ga_T := ga_tb (i := 566) (by decide +kernel) rfl
theorem fl_M_35 : Cond.fieldLink "NetWiresModel" 35 "NetWiresModel" "fed" "[I" ∈ ga_T := ga_tb (i := 567) (by decide +kernel) rfl
theorem fl_M_38 : Cond.fieldLink "NetWiresModel" 38 "NetWiresModel" "delays" "[I" ∈ ga_T := ga_tb (i := 568) (by decide +kernel) rfl
theorem fl_M_104 : Cond.fieldLink "NetWiresModel" 104 "NetWiresModel" "parted" "I" ∈ ga_T := ga_tb (i := 569) (by decide +kernel) rfl
theorem fl_M_142 : Cond.fieldLink "NetWiresModel" 142 "NetWiresModel" "down" "I" ∈ ga_T := ga_tb (i := 570) (by decide +kernel) rfl
theorem fl_M_119 : Cond.fieldLink "NetWiresModel" 119 "NetWiresModel" "loss" "I" ∈ ga_T := ga_tb (i := 571) (by decide +kernel) rfl
theorem fl_M_122 : Cond.fieldLink "NetWiresModel" 122 "NetWiresModel" "twice" "I" ∈ ga_T := ga_tb (i := 572) (by decide +kernel) rfl
theorem fl_M_125 : Cond.fieldLink "NetWiresModel" 125 "NetWiresModel" "spread" "I" ∈ ga_T := ga_tb (i := 573) (by decide +kernel) rfl
theorem fl_M_96 : Cond.fieldLink "NetWiresModel" 96 "NetWiresModel" "draw" "J" ∈ ga_T := ga_tb (i := 574) (by decide +kernel) rfl
theorem fl_M_107 : Cond.fieldLink "NetWiresModel" 107 "NetWiresModel" "onTheWay" "I" ∈ ga_T := ga_tb (i := 575) (by decide +kernel) rfl
theorem fl_M_113 : Cond.fieldLink "NetWiresModel" 113 "NetWiresModel" "sent" "I" ∈ ga_T := ga_tb (i := 576) (by decide +kernel) rfl
theorem fl_M_110 : Cond.fieldLink "NetWiresModel" 110 "NetWiresModel" "lost" "I" ∈ ga_T := ga_tb (i := 577) (by decide +kernel) rfl
theorem fl_M_145 : Cond.fieldLink "NetWiresModel" 145 "NetWiresModel" "done" "I" ∈ ga_T := ga_tb (i := 578) (by decide +kernel) rfl
theorem fl_M_41 : Cond.fieldLink "NetWiresModel" 41 "NetWiresModel" "codes" "[I" ∈ ga_T := ga_tb (i := 579) (by decide +kernel) rfl
theorem fl_M_44 : Cond.fieldLink "NetWiresModel" 44 "NetWiresModel" "order" "[I" ∈ ga_T := ga_tb (i := 580) (by decide +kernel) rfl
theorem fl_M_47 : Cond.fieldLink "NetWiresModel" 47 "NetWiresModel" "arrived" "I" ∈ ga_T := ga_tb (i := 581) (by decide +kernel) rfl
theorem ml_L_80 : Cond.methodLink "NetWiresLaw" 80 y_M_thrown ∈ ga_T := ga_tb (i := 640) (by decide +kernel) rfl
theorem ml_L_79 : Cond.methodLink "NetWiresLaw" 79 y_M_feed ∈ ga_T := ga_tb (i := 644) (by decide +kernel) rfl
theorem ml_M_54 : Cond.methodLink "NetWiresModel" 54 y_M_within ∈ ga_T := ga_tb (i := 648) (by decide +kernel) rfl
theorem ml_M_58 : Cond.methodLink "NetWiresModel" 58 y_M_fail ∈ ga_T := ga_tb (i := 651) (by decide +kernel) rfl
theorem kc_M_65 : Cond.constantLong "NetWiresModel" 65 255 ∈ ga_T := ga_tb (i := 655) (by decide +kernel) rfl
theorem ml_L_90 : Cond.methodLink "NetWiresLaw" 90 y_M_alarm ∈ ga_T := ga_tb (i := 656) (by decide +kernel) rfl
theorem ml_M_90 : Cond.methodLink "NetWiresModel" 90 y_M_set ∈ ga_T := ga_tb (i := 660) (by decide +kernel) rfl
theorem ml_M_74 : Cond.methodLink "NetWiresModel" 74 y_M_isEnd ∈ ga_T := ga_tb (i := 664) (by decide +kernel) rfl
theorem kc_M_78 : Cond.constant "NetWiresModel" 78 100000 ∈ ga_T := ga_tb (i := 667) (by decide +kernel) rfl
theorem ml_M_79 : Cond.methodLink "NetWiresModel" 79 y_M_drop ∈ ga_T := ga_tb (i := 668) (by decide +kernel) rfl
theorem ml_M_70 : Cond.methodLink "NetWiresModel" 70 y_M_find ∈ ga_T := ga_tb (i := 672) (by decide +kernel) rfl
theorem ml_M_86 : Cond.methodLink "NetWiresModel" 86 y_M_event ∈ ga_T := ga_tb (i := 676) (by decide +kernel) rfl
theorem ml_L_94 : Cond.methodLink "NetWiresLaw" 94 y_M_noAlarm ∈ ga_T := ga_tb (i := 680) (by decide +kernel) rfl
theorem ml_M_93 : Cond.methodLink "NetWiresModel" 93 y_M_unset ∈ ga_T := ga_tb (i := 684) (by decide +kernel) rfl
theorem ml_L_97 : Cond.methodLink "NetWiresLaw" 97 y_M_sync ∈ ga_T := ga_tb (i := 688) (by decide +kernel) rfl
theorem ml_L_100 : Cond.methodLink "NetWiresLaw" 100 y_M_noSync ∈ ga_T := ga_tb (i := 692) (by decide +kernel) rfl
theorem ml_L_87 : Cond.methodLink "NetWiresLaw" 87 y_M_send ∈ ga_T := ga_tb (i := 696) (by decide +kernel) rfl
theorem ml_M_128 : Cond.methodLink "NetWiresModel" 128 y_M_areParted ∈ ga_T := ga_tb (i := 700) (by decide +kernel) rfl
theorem ml_M_131 : Cond.methodLink "NetWiresModel" 131 y_M_drawn ∈ ga_T := ga_tb (i := 704) (by decide +kernel) rfl
theorem kc_M_100 : Cond.constantLong "NetWiresModel" 100 6364136223846793005 ∈ ga_T := ga_tb (i := 708) (by decide +kernel) rfl
theorem kc_M_102 : Cond.constantLong "NetWiresModel" 102 1442695040888963407 ∈ ga_T := ga_tb (i := 709) (by decide +kernel) rfl
theorem ml_M_134 : Cond.methodLink "NetWiresModel" 134 y_M_go ∈ ga_T := ga_tb (i := 710) (by decide +kernel) rfl
theorem ml_L_124 : Cond.methodLink "NetWiresLaw" 124 y_M_meddle ∈ ga_T := ga_tb (i := 714) (by decide +kernel) rfl
theorem ml_M_138 : Cond.methodLink "NetWiresModel" 138 y_M_nth ∈ ga_T := ga_tb (i := 718) (by decide +kernel) rfl
theorem ml_L_104 : Cond.methodLink "NetWiresLaw" 104 y_M_step ∈ ga_T := ga_tb (i := 722) (by decide +kernel) rfl
theorem ml_M_148 : Cond.methodLink "NetWiresModel" 148 y_M_least ∈ ga_T := ga_tb (i := 726) (by decide +kernel) rfl
theorem ml_M_152 : Cond.methodLink "NetWiresModel" 152 y_M_happen ∈ ga_T := ga_tb (i := 730) (by decide +kernel) rfl
theorem ml_L_107 : Cond.methodLink "NetWiresLaw" 107 y_M_run ∈ ga_T := ga_tb (i := 734) (by decide +kernel) rfl
theorem ml_L_111 : Cond.methodLink "NetWiresLaw" 111 y_M_delay ∈ ga_T := ga_tb (i := 738) (by decide +kernel) rfl
theorem ml_L_114 : Cond.methodLink "NetWiresLaw" 114 y_M_part ∈ ga_T := ga_tb (i := 742) (by decide +kernel) rfl
theorem kc_M_155 : Cond.constant "NetWiresModel" 155 65535 ∈ ga_T := ga_tb (i := 746) (by decide +kernel) rfl
theorem ml_L_117 : Cond.methodLink "NetWiresLaw" 117 y_M_down ∈ ga_T := ga_tb (i := 747) (by decide +kernel) rfl
theorem ml_L_121 : Cond.methodLink "NetWiresLaw" 121 y_M_noise ∈ ga_T := ga_tb (i := 751) (by decide +kernel) rfl
theorem ml_L_128 : Cond.methodLink "NetWiresLaw" 128 y_M_message ∈ ga_T := ga_tb (i := 755) (by decide +kernel) rfl
theorem ml_L_131 : Cond.methodLink "NetWiresLaw" 131 y_M_messageAt ∈ ga_T := ga_tb (i := 759) (by decide +kernel) rfl
theorem ml_L_135 : Cond.methodLink "NetWiresLaw" 135 y_M_happened ∈ ga_T := ga_tb (i := 763) (by decide +kernel) rfl
theorem ml_L_138 : Cond.methodLink "NetWiresLaw" 138 y_M_byteAt ∈ ga_T := ga_tb (i := 767) (by decide +kernel) rfl
theorem ml_L_141 : Cond.methodLink "NetWiresLaw" 141 y_M_when ∈ ga_T := ga_tb (i := 771) (by decide +kernel) rfl
theorem ml_L_145 : Cond.methodLink "NetWiresLaw" 145 y_M_count ∈ ga_T := ga_tb (i := 775) (by decide +kernel) rfl
theorem kc_L_72 : Cond.constantLong "NetWiresLaw" 72 4294967295 ∈ ga_T := ga_tb (i := 779) (by decide +kernel) rfl
end
section
theorem d_NetWires_init_0 : decode b_NetWires_init 0 = .ok (.aload_n 0, 1) := by decide +kernel
theorem d_NetWires_init_1 : decode b_NetWires_init 1 = .ok (.invokespecial 3, 3) := by decide +kernel
theorem d_NetWires_init_4 : decode b_NetWires_init 4 = .ok (.aload_n 0, 1) := by decide +kernel
theorem d_NetWires_init_5 : decode b_NetWires_init 5 = .ok (.new 9, 3) := by decide +kernel
theorem d_NetWires_init_8 : decode b_NetWires_init 8 = .ok (.dup, 1) := by decide +kernel
theorem d_NetWires_init_9 : decode b_NetWires_init 9 = .ok (.invokespecial 11, 3) := by decide +kernel
theorem d_NetWires_init_12 : decode b_NetWires_init 12 = .ok (.putfield 12, 3) := by decide +kernel
theorem d_NetWires_init_15 : decode b_NetWires_init 15 = .ok (.aload_n 0, 1) := by decide +kernel
theorem d_NetWires_init_16 : decode b_NetWires_init 16 = .ok (.new 16, 3) := by decide +kernel
theorem d_NetWires_init_19 : decode b_NetWires_init 19 = .ok (.dup, 1) := by decide +kernel
theorem d_NetWires_init_20 : decode b_NetWires_init 20 = .ok (.invokespecial 18, 3) := by decide +kernel
theorem d_NetWires_init_23 : decode b_NetWires_init 23 = .ok (.putfield 19, 3) := by decide +kernel
theorem d_NetWires_init_26 : decode b_NetWires_init 26 = .ok (.aload_n 0, 1) := by decide +kernel
theorem d_NetWires_init_27 : decode b_NetWires_init 27 = .ok (.new 23, 3) := by decide +kernel
theorem d_NetWires_init_30 : decode b_NetWires_init 30 = .ok (.dup, 1) := by decide +kernel
theorem d_NetWires_init_31 : decode b_NetWires_init 31 = .ok (.invokespecial 25, 3) := by decide +kernel
theorem d_NetWires_init_34 : decode b_NetWires_init 34 = .ok (.putfield 26, 3) := by decide +kernel
theorem d_NetWires_init_37 : decode b_NetWires_init 37 = .ok (.aload_n 0, 1) := by decide +kernel
theorem d_NetWires_init_38 : decode b_NetWires_init 38 = .ok (.new 30, 3) := by decide +kernel
theorem d_NetWires_init_41 : decode b_NetWires_init 41 = .ok (.dup, 1) := by decide +kernel
theorem d_NetWires_init_42 : decode b_NetWires_init 42 = .ok (.invokespecial 32, 3) := by decide +kernel
theorem d_NetWires_init_45 : decode b_NetWires_init 45 = .ok (.putfield 33, 3) := by decide +kernel
theorem d_NetWires_init_48 : decode b_NetWires_init 48 = .ok (.aload_n 0, 1) := by decide +kernel
theorem d_NetWires_init_49 : decode b_NetWires_init 49 = .ok (.sipush 256, 3) := by decide +kernel
theorem d_NetWires_init_52 : decode b_NetWires_init 52 = .ok (.newarray .int, 2) := by decide +kernel
theorem d_NetWires_init_54 : decode b_NetWires_init 54 = .ok (.putfield 37, 3) := by decide +kernel
theorem d_NetWires_init_57 : decode b_NetWires_init 57 = .ok (.aload_n 0, 1) := by decide +kernel
theorem d_NetWires_init_58 : decode b_NetWires_init 58 = .ok (.getfield 37, 3) := by decide +kernel
theorem d_NetWires_init_61 : decode b_NetWires_init 61 = .ok (.iconst 3, 1) := by decide +kernel
theorem d_NetWires_init_62 : decode b_NetWires_init 62 = .ok (.invokestatic 41, 3) := by decide +kernel
theorem d_NetWires_init_65 : decode b_NetWires_init 65 = .ok (.aload_n 0, 1) := by decide +kernel
theorem d_NetWires_init_66 : decode b_NetWires_init 66 = .ok (.iconst 0, 1) := by decide +kernel
theorem d_NetWires_init_67 : decode b_NetWires_init 67 = .ok (.putfield 47, 3) := by decide +kernel
theorem d_NetWires_init_70 : decode b_NetWires_init 70 = .ok (.aload_n 0, 1) := by decide +kernel
theorem d_NetWires_init_71 : decode b_NetWires_init 71 = .ok (.iconst 0, 1) := by decide +kernel
theorem d_NetWires_init_72 : decode b_NetWires_init 72 = .ok (.putfield 51, 3) := by decide +kernel
theorem d_NetWires_init_75 : decode b_NetWires_init 75 = .ok (.aload_n 0, 1) := by decide +kernel
theorem d_NetWires_init_76 : decode b_NetWires_init 76 = .ok (.iconst 0, 1) := by decide +kernel
theorem d_NetWires_init_77 : decode b_NetWires_init 77 = .ok (.putfield 54, 3) := by decide +kernel
theorem d_NetWires_init_80 : decode b_NetWires_init 80 = .ok (.aload_n 0, 1) := by decide +kernel
theorem d_NetWires_init_81 : decode b_NetWires_init 81 = .ok (.iconst 0, 1) := by decide +kernel
theorem d_NetWires_init_82 : decode b_NetWires_init 82 = .ok (.putfield 57, 3) := by decide +kernel
theorem d_NetWires_init_85 : decode b_NetWires_init 85 = .ok (.aload_n 0, 1) := by decide +kernel
theorem d_NetWires_init_86 : decode b_NetWires_init 86 = .ok (.iconst 0, 1) := by decide +kernel
theorem d_NetWires_init_87 : decode b_NetWires_init 87 = .ok (.putfield 60, 3) := by decide +kernel
theorem d_NetWires_init_90 : decode b_NetWires_init 90 = .ok (.aload_n 0, 1) := by decide +kernel
theorem d_NetWires_init_91 : decode b_NetWires_init 91 = .ok (.iconst 0, 1) := by decide +kernel
theorem d_NetWires_init_92 : decode b_NetWires_init 92 = .ok (.putfield 63, 3) := by decide +kernel
theorem d_NetWires_init_95 : decode b_NetWires_init 95 = .ok (.aload_n 0, 1) := by decide +kernel
theorem d_NetWires_init_96 : decode b_NetWires_init 96 = .ok (.getstatic 66, 3) := by decide +kernel
theorem d_NetWires_init_99 : decode b_NetWires_init 99 = .ok (.putfield 70, 3) := by decide +kernel
theorem d_NetWires_init_102 : decode b_NetWires_init 102 = .ok (.return_, 1) := by decide +kernel
theorem d_Tape_init_0 : decode b_Tape_init 0 = .ok (.aload_n 0, 1) := by decide +kernel
theorem d_Tape_init_1 : decode b_Tape_init 1 = .ok (.invokespecial 3, 3) := by decide +kernel
theorem d_Tape_init_4 : decode b_Tape_init 4 = .ok (.aload_n 0, 1) := by decide +kernel
theorem d_Tape_init_5 : decode b_Tape_init 5 = .ok (.sipush 2048, 3) := by decide +kernel
theorem d_Tape_init_8 : decode b_Tape_init 8 = .ok (.newarray .byte, 2) := by decide +kernel
theorem d_Tape_init_10 : decode b_Tape_init 10 = .ok (.putfield 9, 3) := by decide +kernel
theorem d_Tape_init_13 : decode b_Tape_init 13 = .ok (.aload_n 0, 1) := by decide +kernel
theorem d_Tape_init_14 : decode b_Tape_init 14 = .ok (.iconst 0, 1) := by decide +kernel
theorem d_Tape_init_15 : decode b_Tape_init 15 = .ok (.putfield 15, 3) := by decide +kernel
theorem d_Tape_init_18 : decode b_Tape_init 18 = .ok (.return_, 1) := by decide +kernel
theorem d_Agenda_init_0 : decode b_Agenda_init 0 = .ok (.aload_n 0, 1) := by decide +kernel
theorem d_Agenda_init_1 : decode b_Agenda_init 1 = .ok (.invokespecial 3, 3) := by decide +kernel
theorem d_Agenda_init_4 : decode b_Agenda_init 4 = .ok (.aload_n 0, 1) := by decide +kernel
theorem d_Agenda_init_5 : decode b_Agenda_init 5 = .ok (.sipush 232, 3) := by decide +kernel
theorem d_Agenda_init_8 : decode b_Agenda_init 8 = .ok (.anewarray 9, 3) := by decide +kernel
theorem d_Agenda_init_11 : decode b_Agenda_init 11 = .ok (.putfield 11, 3) := by decide +kernel
theorem d_Agenda_init_14 : decode b_Agenda_init 14 = .ok (.aload_n 0, 1) := by decide +kernel
theorem d_Agenda_init_15 : decode b_Agenda_init 15 = .ok (.iconst 0, 1) := by decide +kernel
theorem d_Agenda_init_16 : decode b_Agenda_init 16 = .ok (.putfield 17, 3) := by decide +kernel
theorem d_Agenda_init_19 : decode b_Agenda_init 19 = .ok (.aload_n 0, 1) := by decide +kernel
theorem d_Agenda_init_20 : decode b_Agenda_init 20 = .ok (.iconst 0, 1) := by decide +kernel
theorem d_Agenda_init_21 : decode b_Agenda_init 21 = .ok (.putfield 21, 3) := by decide +kernel
theorem d_Agenda_init_24 : decode b_Agenda_init 24 = .ok (.return_, 1) := by decide +kernel
theorem d_History_init_0 : decode b_History_init 0 = .ok (.aload_n 0, 1) := by decide +kernel
theorem d_History_init_1 : decode b_History_init 1 = .ok (.invokespecial 3, 3) := by decide +kernel
theorem d_History_init_4 : decode b_History_init 4 = .ok (.aload_n 0, 1) := by decide +kernel
theorem d_History_init_5 : decode b_History_init 5 = .ok (.sipush 128, 3) := by decide +kernel
theorem d_History_init_8 : decode b_History_init 8 = .ok (.newarray .int, 2) := by decide +kernel
theorem d_History_init_10 : decode b_History_init 10 = .ok (.putfield 9, 3) := by decide +kernel
theorem d_History_init_13 : decode b_History_init 13 = .ok (.aload_n 0, 1) := by decide +kernel
theorem d_History_init_14 : decode b_History_init 14 = .ok (.iconst 0, 1) := by decide +kernel
theorem d_History_init_15 : decode b_History_init 15 = .ok (.putfield 15, 3) := by decide +kernel
theorem d_History_init_18 : decode b_History_init 18 = .ok (.aload_n 0, 1) := by decide +kernel
theorem d_History_init_19 : decode b_History_init 19 = .ok (.iconst 0, 1) := by decide +kernel
theorem d_History_init_20 : decode b_History_init 20 = .ok (.putfield 19, 3) := by decide +kernel
theorem d_History_init_23 : decode b_History_init 23 = .ok (.aload_n 0, 1) := by decide +kernel
theorem d_History_init_24 : decode b_History_init 24 = .ok (.iconst 0, 1) := by decide +kernel
theorem d_History_init_25 : decode b_History_init 25 = .ok (.putfield 22, 3) := by decide +kernel
theorem d_History_init_28 : decode b_History_init 28 = .ok (.return_, 1) := by decide +kernel
theorem d_Noise_init_0 : decode b_Noise_init 0 = .ok (.aload_n 0, 1) := by decide +kernel
theorem d_Noise_init_1 : decode b_Noise_init 1 = .ok (.invokespecial 1, 3) := by decide +kernel
theorem d_Noise_init_4 : decode b_Noise_init 4 = .ok (.aload_n 0, 1) := by decide +kernel
theorem d_Noise_init_5 : decode b_Noise_init 5 = .ok (.iconst 0, 1) := by decide +kernel
theorem d_Noise_init_6 : decode b_Noise_init 6 = .ok (.putfield 7, 3) := by decide +kernel
theorem d_Noise_init_9 : decode b_Noise_init 9 = .ok (.aload_n 0, 1) := by decide +kernel
theorem d_Noise_init_10 : decode b_Noise_init 10 = .ok (.iconst 0, 1) := by decide +kernel
theorem d_Noise_init_11 : decode b_Noise_init 11 = .ok (.putfield 13, 3) := by decide +kernel
theorem d_Noise_init_14 : decode b_Noise_init 14 = .ok (.aload_n 0, 1) := by decide +kernel
theorem d_Noise_init_15 : decode b_Noise_init 15 = .ok (.iconst 0, 1) := by decide +kernel
theorem d_Noise_init_16 : decode b_Noise_init 16 = .ok (.putfield 16, 3) := by decide +kernel
theorem d_Noise_init_19 : decode b_Noise_init 19 = .ok (.aload_n 0, 1) := by decide +kernel
theorem d_Noise_init_20 : decode b_Noise_init 20 = .ok (.lconst 0, 1) := by decide +kernel
theorem d_Noise_init_21 : decode b_Noise_init 21 = .ok (.putfield 19, 3) := by decide +kernel
theorem d_Noise_init_24 : decode b_Noise_init 24 = .ok (.return_, 1) := by decide +kernel
theorem d_NetWires_step_0 : decode b_NetWires_step 0 = .ok (.aload_n 0, 1) := by decide +kernel
theorem d_NetWires_step_1 : decode b_NetWires_step 1 = .ok (.getfield 19, 3) := by decide +kernel
theorem d_NetWires_step_4 : decode b_NetWires_step 4 = .ok (.iconst 0, 1) := by decide +kernel
theorem d_NetWires_step_5 : decode b_NetWires_step 5 = .ok (.invokevirtual 132, 3) := by decide +kernel
theorem d_NetWires_step_8 : decode b_NetWires_step 8 = .ok (.astore_n 1, 1) := by decide +kernel
theorem d_NetWires_step_9 : decode b_NetWires_step 9 = .ok (.aload_n 1, 1) := by decide +kernel
theorem d_NetWires_step_10 : decode b_NetWires_step 10 = .ok (.ifnonnull 5, 3) := by decide +kernel
theorem d_NetWires_step_13 : decode b_NetWires_step 13 = .ok (.iconst (-1), 1) := by decide +kernel
theorem d_NetWires_step_14 : decode b_NetWires_step 14 = .ok (.ireturn, 1) := by decide +kernel
theorem d_NetWires_step_15 : decode b_NetWires_step 15 = .ok (.aload_n 0, 1) := by decide +kernel
theorem d_NetWires_step_16 : decode b_NetWires_step 16 = .ok (.aload_n 1, 1) := by decide +kernel
theorem d_NetWires_step_17 : decode b_NetWires_step 17 = .ok (.invokevirtual 136, 3) := by decide +kernel
theorem d_NetWires_step_20 : decode b_NetWires_step 20 = .ok (.ireturn, 1) := by decide +kernel
theorem d_Agenda_takeAt_0 : decode b_Agenda_takeAt 0 = .ok (.aload_n 0, 1) := by decide +kernel
theorem d_Agenda_takeAt_1 : decode b_Agenda_takeAt 1 = .ok (.iload_n 1, 1) := by decide +kernel
theorem d_Agenda_takeAt_2 : decode b_Agenda_takeAt 2 = .ok (.invokevirtual 34, 3) := by decide +kernel
theorem d_Agenda_takeAt_5 : decode b_Agenda_takeAt 5 = .ok (.astore_n 2, 1) := by decide +kernel
theorem d_Agenda_takeAt_6 : decode b_Agenda_takeAt 6 = .ok (.aload_n 2, 1) := by decide +kernel
theorem d_Agenda_takeAt_7 : decode b_Agenda_takeAt 7 = .ok (.ifnonnull 5, 3) := by decide +kernel
theorem d_Agenda_takeAt_10 : decode b_Agenda_takeAt 10 = .ok (.aconst_null, 1) := by decide +kernel
theorem d_Agenda_takeAt_11 : decode b_Agenda_takeAt 11 = .ok (.areturn, 1) := by decide +kernel
theorem d_Agenda_takeAt_12 : decode b_Agenda_takeAt 12 = .ok (.iload_n 1, 1) := by decide +kernel
theorem d_Agenda_takeAt_13 : decode b_Agenda_takeAt 13 = .ok (.iconst 1, 1) := by decide +kernel
theorem d_Agenda_takeAt_14 : decode b_Agenda_takeAt 14 = .ok (.iadd, 1) := by decide +kernel
theorem d_Agenda_takeAt_15 : decode b_Agenda_takeAt 15 = .ok (.istore_n 3, 1) := by decide +kernel
theorem d_Agenda_takeAt_16 : decode b_Agenda_takeAt 16 = .ok (.iload_n 3, 1) := by decide +kernel
theorem d_Agenda_takeAt_17 : decode b_Agenda_takeAt 17 = .ok (.aload_n 0, 1) := by decide +kernel
theorem d_Agenda_takeAt_18 : decode b_Agenda_takeAt 18 = .ok (.getfield 17, 3) := by decide +kernel
theorem d_Agenda_takeAt_21 : decode b_Agenda_takeAt 21 = .ok (.if_icmp .ge 23, 3) := by decide +kernel
theorem d_Agenda_takeAt_24 : decode b_Agenda_takeAt 24 = .ok (.aload_n 0, 1) := by decide +kernel
theorem d_Agenda_takeAt_25 : decode b_Agenda_takeAt 25 = .ok (.getfield 11, 3) := by decide +kernel
theorem d_Agenda_takeAt_28 : decode b_Agenda_takeAt 28 = .ok (.iload_n 3, 1) := by decide +kernel
theorem d_Agenda_takeAt_29 : decode b_Agenda_takeAt 29 = .ok (.iconst 1, 1) := by decide +kernel
theorem d_Agenda_takeAt_30 : decode b_Agenda_takeAt 30 = .ok (.isub, 1) := by decide +kernel
theorem d_Agenda_takeAt_31 : decode b_Agenda_takeAt 31 = .ok (.aload_n 0, 1) := by decide +kernel
theorem d_Agenda_takeAt_32 : decode b_Agenda_takeAt 32 = .ok (.getfield 11, 3) := by decide +kernel
theorem d_Agenda_takeAt_35 : decode b_Agenda_takeAt 35 = .ok (.iload_n 3, 1) := by decide +kernel
theorem d_Agenda_takeAt_36 : decode b_Agenda_takeAt 36 = .ok (.aaload, 1) := by decide +kernel
theorem d_Agenda_takeAt_37 : decode b_Agenda_takeAt 37 = .ok (.aastore, 1) := by decide +kernel
theorem d_Agenda_takeAt_38 : decode b_Agenda_takeAt 38 = .ok (.iinc 3 1, 3) := by decide +kernel
theorem d_Agenda_takeAt_41 : decode b_Agenda_takeAt 41 = .ok (.goto (-25), 3) := by decide +kernel
theorem d_Agenda_takeAt_44 : decode b_Agenda_takeAt 44 = .ok (.aload_n 0, 1) := by decide +kernel
theorem d_Agenda_takeAt_45 : decode b_Agenda_takeAt 45 = .ok (.dup, 1) := by decide +kernel
theorem d_Agenda_takeAt_46 : decode b_Agenda_takeAt 46 = .ok (.getfield 17, 3) := by decide +kernel
theorem d_Agenda_takeAt_49 : decode b_Agenda_takeAt 49 = .ok (.iconst 1, 1) := by decide +kernel
theorem d_Agenda_takeAt_50 : decode b_Agenda_takeAt 50 = .ok (.isub, 1) := by decide +kernel
theorem d_Agenda_takeAt_51 : decode b_Agenda_takeAt 51 = .ok (.putfield 17, 3) := by decide +kernel
theorem d_Agenda_takeAt_54 : decode b_Agenda_takeAt 54 = .ok (.aload_n 0, 1) := by decide +kernel
theorem d_Agenda_takeAt_55 : decode b_Agenda_takeAt 55 = .ok (.getfield 11, 3) := by decide +kernel
theorem d_Agenda_takeAt_58 : decode b_Agenda_takeAt 58 = .ok (.aload_n 0, 1) := by decide +kernel
theorem d_Agenda_takeAt_59 : decode b_Agenda_takeAt 59 = .ok (.getfield 17, 3) := by decide +kernel
theorem d_Agenda_takeAt_62 : decode b_Agenda_takeAt 62 = .ok (.aconst_null, 1) := by decide +kernel
theorem d_Agenda_takeAt_63 : decode b_Agenda_takeAt 63 = .ok (.aastore, 1) := by decide +kernel
theorem d_Agenda_takeAt_64 : decode b_Agenda_takeAt 64 = .ok (.aload_n 2, 1) := by decide +kernel
theorem d_Agenda_takeAt_65 : decode b_Agenda_takeAt 65 = .ok (.getfield 31, 3) := by decide +kernel
theorem d_Agenda_takeAt_68 : decode b_Agenda_takeAt 68 = .ok (.ifCond .ne 13, 3) := by decide +kernel
theorem d_Agenda_takeAt_71 : decode b_Agenda_takeAt 71 = .ok (.aload_n 0, 1) := by decide +kernel
theorem d_Agenda_takeAt_72 : decode b_Agenda_takeAt 72 = .ok (.dup, 1) := by decide +kernel
theorem d_Agenda_takeAt_73 : decode b_Agenda_takeAt 73 = .ok (.getfield 21, 3) := by decide +kernel
theorem d_Agenda_takeAt_76 : decode b_Agenda_takeAt 76 = .ok (.iconst 1, 1) := by decide +kernel
theorem d_Agenda_takeAt_77 : decode b_Agenda_takeAt 77 = .ok (.isub, 1) := by decide +kernel
theorem d_Agenda_takeAt_78 : decode b_Agenda_takeAt 78 = .ok (.putfield 21, 3) := by decide +kernel
theorem d_Agenda_takeAt_81 : decode b_Agenda_takeAt 81 = .ok (.aload_n 2, 1) := by decide +kernel
theorem d_Agenda_takeAt_82 : decode b_Agenda_takeAt 82 = .ok (.areturn, 1) := by decide +kernel
theorem d_Agenda_at_0 : decode b_Agenda_at 0 = .ok (.iload_n 1, 1) := by decide +kernel
theorem d_Agenda_at_1 : decode b_Agenda_at 1 = .ok (.ifCond .lt 11, 3) := by decide +kernel
theorem d_Agenda_at_4 : decode b_Agenda_at 4 = .ok (.iload_n 1, 1) := by decide +kernel
theorem d_Agenda_at_5 : decode b_Agenda_at 5 = .ok (.aload_n 0, 1) := by decide +kernel
theorem d_Agenda_at_6 : decode b_Agenda_at 6 = .ok (.getfield 17, 3) := by decide +kernel
theorem d_Agenda_at_9 : decode b_Agenda_at 9 = .ok (.if_icmp .lt 5, 3) := by decide +kernel
theorem d_Agenda_at_12 : decode b_Agenda_at 12 = .ok (.aconst_null, 1) := by decide +kernel
theorem d_Agenda_at_13 : decode b_Agenda_at 13 = .ok (.areturn, 1) := by decide +kernel
theorem d_Agenda_at_14 : decode b_Agenda_at 14 = .ok (.aload_n 0, 1) := by decide +kernel
theorem d_Agenda_at_15 : decode b_Agenda_at 15 = .ok (.getfield 11, 3) := by decide +kernel
theorem d_Agenda_at_18 : decode b_Agenda_at 18 = .ok (.iload_n 1, 1) := by decide +kernel
theorem d_Agenda_at_19 : decode b_Agenda_at 19 = .ok (.aaload, 1) := by decide +kernel
theorem d_Agenda_at_20 : decode b_Agenda_at 20 = .ok (.areturn, 1) := by decide +kernel
theorem d_NetWires_letHappen_0 : decode b_NetWires_letHappen 0 = .ok (.aload_n 0, 1) := by decide +kernel
theorem d_NetWires_letHappen_1 : decode b_NetWires_letHappen 1 = .ok (.aload_n 1, 1) := by decide +kernel
theorem d_NetWires_letHappen_2 : decode b_NetWires_letHappen 2 = .ok (.getfield 148, 3) := by decide +kernel
theorem d_NetWires_letHappen_5 : decode b_NetWires_letHappen 5 = .ok (.putfield 47, 3) := by decide +kernel
theorem d_NetWires_letHappen_8 : decode b_NetWires_letHappen 8 = .ok (.aload_n 1, 1) := by decide +kernel
theorem d_NetWires_letHappen_9 : decode b_NetWires_letHappen 9 = .ok (.getfield 245, 3) := by decide +kernel
theorem d_NetWires_letHappen_12 : decode b_NetWires_letHappen 12 = .ok (.istore_n 2, 1) := by decide +kernel
theorem d_NetWires_letHappen_13 : decode b_NetWires_letHappen 13 = .ok (.iload_n 2, 1) := by decide +kernel
theorem d_NetWires_letHappen_14 : decode b_NetWires_letHappen 14 = .ok (.ifCond .ne 9, 3) := by decide +kernel
theorem d_NetWires_letHappen_17 : decode b_NetWires_letHappen 17 = .ok (.aload_n 0, 1) := by decide +kernel
theorem d_NetWires_letHappen_18 : decode b_NetWires_letHappen 18 = .ok (.aload_n 1, 1) := by decide +kernel
theorem d_NetWires_letHappen_19 : decode b_NetWires_letHappen 19 = .ok (.invokevirtual 248, 3) := by decide +kernel
theorem d_NetWires_letHappen_22 : decode b_NetWires_letHappen 22 = .ok (.istore_n 2, 1) := by decide +kernel
theorem d_NetWires_letHappen_23 : decode b_NetWires_letHappen 23 = .ok (.aload_n 1, 1) := by decide +kernel
theorem d_NetWires_letHappen_24 : decode b_NetWires_letHappen 24 = .ok (.getfield 178, 3) := by decide +kernel
theorem d_NetWires_letHappen_27 : decode b_NetWires_letHappen 27 = .ok (.iload_n 2, 1) := by decide +kernel
theorem d_NetWires_letHappen_28 : decode b_NetWires_letHappen 28 = .ok (.iadd, 1) := by decide +kernel
theorem d_NetWires_letHappen_29 : decode b_NetWires_letHappen 29 = .ok (.istore_n 3, 1) := by decide +kernel
theorem d_NetWires_letHappen_30 : decode b_NetWires_letHappen 30 = .ok (.aload_n 0, 1) := by decide +kernel
theorem d_NetWires_letHappen_31 : decode b_NetWires_letHappen 31 = .ok (.getfield 26, 3) := by decide +kernel
theorem d_NetWires_letHappen_34 : decode b_NetWires_letHappen 34 = .ok (.iload_n 3, 1) := by decide +kernel
theorem d_NetWires_letHappen_35 : decode b_NetWires_letHappen 35 = .ok (.aload_n 1, 1) := by decide +kernel
theorem d_NetWires_letHappen_36 : decode b_NetWires_letHappen 36 = .ok (.invokevirtual 251, 3) := by decide +kernel
theorem d_NetWires_letHappen_39 : decode b_NetWires_letHappen 39 = .ok (.iload_n 3, 1) := by decide +kernel
theorem d_NetWires_letHappen_40 : decode b_NetWires_letHappen 40 = .ok (.ireturn, 1) := by decide +kernel
theorem d_NetWires_receive_0 : decode b_NetWires_receive 0 = .ok (.aload_n 0, 1) := by decide +kernel
theorem d_NetWires_receive_1 : decode b_NetWires_receive 1 = .ok (.aload_n 1, 1) := by decide +kernel
theorem d_NetWires_receive_2 : decode b_NetWires_receive 2 = .ok (.getfield 175, 3) := by decide +kernel
theorem d_NetWires_receive_5 : decode b_NetWires_receive 5 = .ok (.aload_n 1, 1) := by decide +kernel
theorem d_NetWires_receive_6 : decode b_NetWires_receive 6 = .ok (.getfield 178, 3) := by decide +kernel
theorem d_NetWires_receive_9 : decode b_NetWires_receive 9 = .ok (.invokevirtual 104, 3) := by decide +kernel
theorem d_NetWires_receive_12 : decode b_NetWires_receive 12 = .ok (.ifCond .ne 17, 3) := by decide +kernel
theorem d_NetWires_receive_15 : decode b_NetWires_receive 15 = .ok (.aload_n 0, 1) := by decide +kernel
theorem d_NetWires_receive_16 : decode b_NetWires_receive 16 = .ok (.getfield 57, 3) := by decide +kernel
theorem d_NetWires_receive_19 : decode b_NetWires_receive 19 = .ok (.aload_n 1, 1) := by decide +kernel
theorem d_NetWires_receive_20 : decode b_NetWires_receive 20 = .ok (.getfield 178, 3) := by decide +kernel
theorem d_NetWires_receive_23 : decode b_NetWires_receive 23 = .ok (.invokestatic 219, 3) := by decide +kernel
theorem d_NetWires_receive_26 : decode b_NetWires_receive 26 = .ok (.ifCond .eq 16, 3) := by decide +kernel
theorem d_NetWires_receive_29 : decode b_NetWires_receive 29 = .ok (.aload_n 0, 1) := by decide +kernel
theorem d_NetWires_receive_30 : decode b_NetWires_receive 30 = .ok (.dup, 1) := by decide +kernel
theorem d_NetWires_receive_31 : decode b_NetWires_receive 31 = .ok (.getfield 63, 3) := by decide +kernel
theorem d_NetWires_receive_34 : decode b_NetWires_receive 34 = .ok (.iconst 1, 1) := by decide +kernel
theorem d_NetWires_receive_35 : decode b_NetWires_receive 35 = .ok (.iadd, 1) := by decide +kernel
theorem d_NetWires_receive_36 : decode b_NetWires_receive 36 = .ok (.putfield 63, 3) := by decide +kernel
theorem d_NetWires_receive_39 : decode b_NetWires_receive 39 = .ok (.bipush 16, 2) := by decide +kernel
theorem d_NetWires_receive_41 : decode b_NetWires_receive 41 = .ok (.ireturn, 1) := by decide +kernel
theorem d_NetWires_receive_42 : decode b_NetWires_receive 42 = .ok (.aload_n 0, 1) := by decide +kernel
theorem d_NetWires_receive_43 : decode b_NetWires_receive 43 = .ok (.aload_n 1, 1) := by decide +kernel
theorem d_NetWires_receive_44 : decode b_NetWires_receive 44 = .ok (.getfield 181, 3) := by decide +kernel
theorem d_NetWires_receive_47 : decode b_NetWires_receive 47 = .ok (.putfield 70, 3) := by decide +kernel
theorem d_NetWires_receive_50 : decode b_NetWires_receive 50 = .ok (.iconst 0, 1) := by decide +kernel
theorem d_NetWires_receive_51 : decode b_NetWires_receive 51 = .ok (.ireturn, 1) := by decide +kernel
theorem d_NetWires_areParted_0 : decode b_NetWires_areParted 0 = .ok (.aload_n 0, 1) := by decide +kernel
theorem d_NetWires_areParted_1 : decode b_NetWires_areParted 1 = .ok (.getfield 54, 3) := by decide +kernel
theorem d_NetWires_areParted_4 : decode b_NetWires_areParted 4 = .ok (.iload_n 1, 1) := by decide +kernel
theorem d_NetWires_areParted_5 : decode b_NetWires_areParted 5 = .ok (.invokestatic 219, 3) := by decide +kernel
theorem d_NetWires_areParted_8 : decode b_NetWires_areParted 8 = .ok (.aload_n 0, 1) := by decide +kernel
theorem d_NetWires_areParted_9 : decode b_NetWires_areParted 9 = .ok (.getfield 54, 3) := by decide +kernel
theorem d_NetWires_areParted_12 : decode b_NetWires_areParted 12 = .ok (.iload_n 2, 1) := by decide +kernel
theorem d_NetWires_areParted_13 : decode b_NetWires_areParted 13 = .ok (.invokestatic 219, 3) := by decide +kernel
theorem d_NetWires_areParted_16 : decode b_NetWires_areParted 16 = .ok (.if_icmp .eq 7, 3) := by decide +kernel
theorem d_NetWires_areParted_19 : decode b_NetWires_areParted 19 = .ok (.iconst 1, 1) := by decide +kernel
theorem d_NetWires_areParted_20 : decode b_NetWires_areParted 20 = .ok (.goto 4, 3) := by decide +kernel
theorem d_NetWires_areParted_23 : decode b_NetWires_areParted 23 = .ok (.iconst 0, 1) := by decide +kernel
theorem d_NetWires_areParted_24 : decode b_NetWires_areParted 24 = .ok (.ireturn, 1) := by decide +kernel
theorem d_NetWires_isIn_0 : decode b_NetWires_isIn 0 = .ok (.iload_n 0, 1) := by decide +kernel
theorem d_NetWires_isIn_1 : decode b_NetWires_isIn 1 = .ok (.iload_n 1, 1) := by decide +kernel
theorem d_NetWires_isIn_2 : decode b_NetWires_isIn 2 = .ok (.ishr, 1) := by decide +kernel
theorem d_NetWires_isIn_3 : decode b_NetWires_isIn 3 = .ok (.iconst 1, 1) := by decide +kernel
theorem d_NetWires_isIn_4 : decode b_NetWires_isIn 4 = .ok (.iand, 1) := by decide +kernel
theorem d_NetWires_isIn_5 : decode b_NetWires_isIn 5 = .ok (.iconst 1, 1) := by decide +kernel
theorem d_NetWires_isIn_6 : decode b_NetWires_isIn 6 = .ok (.if_icmp .ne 7, 3) := by decide +kernel
theorem d_NetWires_isIn_9 : decode b_NetWires_isIn 9 = .ok (.iconst 1, 1) := by decide +kernel
theorem d_NetWires_isIn_10 : decode b_NetWires_isIn 10 = .ok (.goto 4, 3) := by decide +kernel
theorem d_NetWires_isIn_13 : decode b_NetWires_isIn 13 = .ok (.iconst 0, 1) := by decide +kernel
theorem d_NetWires_isIn_14 : decode b_NetWires_isIn 14 = .ok (.ireturn, 1) := by decide +kernel
theorem d_History_remember_0 : decode b_History_remember 0 = .ok (.aload_n 0, 1) := by decide +kernel
theorem d_History_remember_1 : decode b_History_remember 1 = .ok (.aload_n 0, 1) := by decide +kernel
theorem d_History_remember_2 : decode b_History_remember 2 = .ok (.getfield 15, 3) := by decide +kernel
theorem d_History_remember_5 : decode b_History_remember 5 = .ok (.iconst 1, 1) := by decide +kernel
theorem d_History_remember_6 : decode b_History_remember 6 = .ok (.iadd, 1) := by decide +kernel
theorem d_History_remember_7 : decode b_History_remember 7 = .ok (.bipush 32, 2) := by decide +kernel
theorem d_History_remember_9 : decode b_History_remember 9 = .ok (.irem, 1) := by decide +kernel
theorem d_History_remember_10 : decode b_History_remember 10 = .ok (.putfield 15, 3) := by decide +kernel
theorem d_History_remember_13 : decode b_History_remember 13 = .ok (.aload_n 0, 1) := by decide +kernel
theorem d_History_remember_14 : decode b_History_remember 14 = .ok (.getfield 15, 3) := by decide +kernel
theorem d_History_remember_17 : decode b_History_remember 17 = .ok (.iconst 4, 1) := by decide +kernel
theorem d_History_remember_18 : decode b_History_remember 18 = .ok (.imul, 1) := by decide +kernel
theorem d_History_remember_19 : decode b_History_remember 19 = .ok (.istore_n 3, 1) := by decide +kernel
theorem d_History_remember_20 : decode b_History_remember 20 = .ok (.aload_n 0, 1) := by decide +kernel
theorem d_History_remember_21 : decode b_History_remember 21 = .ok (.getfield 9, 3) := by decide +kernel
theorem d_History_remember_24 : decode b_History_remember 24 = .ok (.iload_n 3, 1) := by decide +kernel
theorem d_History_remember_25 : decode b_History_remember 25 = .ok (.iload_n 1, 1) := by decide +kernel
theorem d_History_remember_26 : decode b_History_remember 26 = .ok (.iastore, 1) := by decide +kernel
theorem d_History_remember_27 : decode b_History_remember 27 = .ok (.aload_n 0, 1) := by decide +kernel
theorem d_History_remember_28 : decode b_History_remember 28 = .ok (.getfield 9, 3) := by decide +kernel
theorem d_History_remember_31 : decode b_History_remember 31 = .ok (.iload_n 3, 1) := by decide +kernel
theorem d_History_remember_32 : decode b_History_remember 32 = .ok (.iconst 1, 1) := by decide +kernel
theorem d_History_remember_33 : decode b_History_remember 33 = .ok (.iadd, 1) := by decide +kernel
theorem d_History_remember_34 : decode b_History_remember 34 = .ok (.aload_n 2, 1) := by decide +kernel
theorem d_History_remember_35 : decode b_History_remember 35 = .ok (.getfield 25, 3) := by decide +kernel
theorem d_History_remember_38 : decode b_History_remember 38 = .ok (.iastore, 1) := by decide +kernel
theorem d_History_remember_39 : decode b_History_remember 39 = .ok (.aload_n 0, 1) := by decide +kernel
theorem d_History_remember_40 : decode b_History_remember 40 = .ok (.getfield 9, 3) := by decide +kernel
theorem d_History_remember_43 : decode b_History_remember 43 = .ok (.iload_n 3, 1) := by decide +kernel
theorem d_History_remember_44 : decode b_History_remember 44 = .ok (.iconst 2, 1) := by decide +kernel
theorem d_History_remember_45 : decode b_History_remember 45 = .ok (.iadd, 1) := by decide +kernel
theorem d_History_remember_46 : decode b_History_remember 46 = .ok (.aload_n 2, 1) := by decide +kernel
theorem d_History_remember_47 : decode b_History_remember 47 = .ok (.getfield 30, 3) := by decide +kernel
theorem d_History_remember_50 : decode b_History_remember 50 = .ok (.iastore, 1) := by decide +kernel
theorem d_History_remember_51 : decode b_History_remember 51 = .ok (.aload_n 0, 1) := by decide +kernel
theorem d_History_remember_52 : decode b_History_remember 52 = .ok (.getfield 9, 3) := by decide +kernel
theorem d_History_remember_55 : decode b_History_remember 55 = .ok (.iload_n 3, 1) := by decide +kernel
theorem d_History_remember_56 : decode b_History_remember 56 = .ok (.iconst 3, 1) := by decide +kernel
theorem d_History_remember_57 : decode b_History_remember 57 = .ok (.iadd, 1) := by decide +kernel
theorem d_History_remember_58 : decode b_History_remember 58 = .ok (.aload_n 2, 1) := by decide +kernel
theorem d_History_remember_59 : decode b_History_remember 59 = .ok (.getfield 33, 3) := by decide +kernel
theorem d_History_remember_62 : decode b_History_remember 62 = .ok (.iastore, 1) := by decide +kernel
theorem d_History_remember_63 : decode b_History_remember 63 = .ok (.aload_n 0, 1) := by decide +kernel
theorem d_History_remember_64 : decode b_History_remember 64 = .ok (.getfield 19, 3) := by decide +kernel
theorem d_History_remember_67 : decode b_History_remember 67 = .ok (.bipush 32, 2) := by decide +kernel
theorem d_History_remember_69 : decode b_History_remember 69 = .ok (.if_icmp .ge 13, 3) := by decide +kernel
theorem d_History_remember_72 : decode b_History_remember 72 = .ok (.aload_n 0, 1) := by decide +kernel
theorem d_History_remember_73 : decode b_History_remember 73 = .ok (.dup, 1) := by decide +kernel
theorem d_History_remember_74 : decode b_History_remember 74 = .ok (.getfield 19, 3) := by decide +kernel
theorem d_History_remember_77 : decode b_History_remember 77 = .ok (.iconst 1, 1) := by decide +kernel
theorem d_History_remember_78 : decode b_History_remember 78 = .ok (.iadd, 1) := by decide +kernel
theorem d_History_remember_79 : decode b_History_remember 79 = .ok (.putfield 19, 3) := by decide +kernel
theorem d_History_remember_82 : decode b_History_remember 82 = .ok (.aload_n 0, 1) := by decide +kernel
theorem d_History_remember_83 : decode b_History_remember 83 = .ok (.dup, 1) := by decide +kernel
theorem d_History_remember_84 : decode b_History_remember 84 = .ok (.getfield 22, 3) := by decide +kernel
theorem d_History_remember_87 : decode b_History_remember 87 = .ok (.iconst 1, 1) := by decide +kernel
theorem d_History_remember_88 : decode b_History_remember 88 = .ok (.iadd, 1) := by decide +kernel
theorem d_History_remember_89 : decode b_History_remember 89 = .ok (.putfield 22, 3) := by decide +kernel
theorem d_History_remember_92 : decode b_History_remember 92 = .ok (.return_, 1) := by decide +kernel
theorem d_NetWires_message_0 : decode b_NetWires_message 0 = .ok (.aload_n 0, 1) := by decide +kernel
theorem d_NetWires_message_1 : decode b_NetWires_message 1 = .ok (.getfield 19, 3) := by decide +kernel
theorem d_NetWires_message_4 : decode b_NetWires_message 4 = .ok (.aload_n 0, 1) := by decide +kernel
theorem d_NetWires_message_5 : decode b_NetWires_message 5 = .ok (.getfield 19, 3) := by decide +kernel
theorem d_NetWires_message_8 : decode b_NetWires_message 8 = .ok (.iload_n 1, 1) := by decide +kernel
theorem d_NetWires_message_9 : decode b_NetWires_message 9 = .ok (.invokevirtual 171, 3) := by decide +kernel
theorem d_NetWires_message_12 : decode b_NetWires_message 12 = .ok (.invokevirtual 145, 3) := by decide +kernel
theorem d_NetWires_message_15 : decode b_NetWires_message 15 = .ok (.astore_n 3, 1) := by decide +kernel
theorem d_NetWires_message_16 : decode b_NetWires_message 16 = .ok (.aload_n 3, 1) := by decide +kernel
theorem d_NetWires_message_17 : decode b_NetWires_message 17 = .ok (.ifnonnull 5, 3) := by decide +kernel
theorem d_NetWires_message_20 : decode b_NetWires_message 20 = .ok (.iconst (-1), 1) := by decide +kernel
theorem d_NetWires_message_21 : decode b_NetWires_message 21 = .ok (.ireturn, 1) := by decide +kernel
theorem d_NetWires_message_22 : decode b_NetWires_message 22 = .ok (.iload_n 2, 1) := by decide +kernel
theorem d_NetWires_message_23 : decode b_NetWires_message 23 = .ok (.tableswitch 59 0 4 #[33, 38, 43, 48, 53], 33) := by decide +kernel
theorem d_NetWires_message_56 : decode b_NetWires_message 56 = .ok (.aload_n 3, 1) := by decide +kernel
theorem d_NetWires_message_57 : decode b_NetWires_message 57 = .ok (.getfield 175, 3) := by decide +kernel
theorem d_NetWires_message_60 : decode b_NetWires_message 60 = .ok (.ireturn, 1) := by decide +kernel
theorem d_NetWires_message_61 : decode b_NetWires_message 61 = .ok (.aload_n 3, 1) := by decide +kernel
theorem d_NetWires_message_62 : decode b_NetWires_message 62 = .ok (.getfield 178, 3) := by decide +kernel
theorem d_NetWires_message_65 : decode b_NetWires_message 65 = .ok (.ireturn, 1) := by decide +kernel
theorem d_NetWires_message_66 : decode b_NetWires_message 66 = .ok (.aload_n 3, 1) := by decide +kernel
theorem d_NetWires_message_67 : decode b_NetWires_message 67 = .ok (.getfield 148, 3) := by decide +kernel
theorem d_NetWires_message_70 : decode b_NetWires_message 70 = .ok (.ireturn, 1) := by decide +kernel
theorem d_NetWires_message_71 : decode b_NetWires_message 71 = .ok (.aload_n 3, 1) := by decide +kernel
theorem d_NetWires_message_72 : decode b_NetWires_message 72 = .ok (.getfield 188, 3) := by decide +kernel
theorem d_NetWires_message_75 : decode b_NetWires_message 75 = .ok (.ireturn, 1) := by decide +kernel
theorem d_NetWires_message_76 : decode b_NetWires_message 76 = .ok (.aload_n 3, 1) := by decide +kernel
theorem d_NetWires_message_77 : decode b_NetWires_message 77 = .ok (.getfield 181, 3) := by decide +kernel
theorem d_NetWires_message_80 : decode b_NetWires_message 80 = .ok (.arraylength, 1) := by decide +kernel
theorem d_NetWires_message_81 : decode b_NetWires_message 81 = .ok (.ireturn, 1) := by decide +kernel
theorem d_NetWires_message_82 : decode b_NetWires_message 82 = .ok (.iconst (-1), 1) := by decide +kernel
theorem d_NetWires_message_83 : decode b_NetWires_message 83 = .ok (.ireturn, 1) := by decide +kernel
theorem d_Agenda_placeOfMessage_0 : decode b_Agenda_placeOfMessage 0 = .ok (.iload_n 1, 1) := by decide +kernel
theorem d_Agenda_placeOfMessage_1 : decode b_Agenda_placeOfMessage 1 = .ok (.ifCond .lt 11, 3) := by decide +kernel
theorem d_Agenda_placeOfMessage_4 : decode b_Agenda_placeOfMessage 4 = .ok (.iload_n 1, 1) := by decide +kernel
theorem d_Agenda_placeOfMessage_5 : decode b_Agenda_placeOfMessage 5 = .ok (.aload_n 0, 1) := by decide +kernel
theorem d_Agenda_placeOfMessage_6 : decode b_Agenda_placeOfMessage 6 = .ok (.getfield 21, 3) := by decide +kernel
theorem d_Agenda_placeOfMessage_9 : decode b_Agenda_placeOfMessage 9 = .ok (.if_icmp .lt 5, 3) := by decide +kernel
theorem d_Agenda_placeOfMessage_12 : decode b_Agenda_placeOfMessage 12 = .ok (.iconst (-1), 1) := by decide +kernel
theorem d_Agenda_placeOfMessage_13 : decode b_Agenda_placeOfMessage 13 = .ok (.ireturn, 1) := by decide +kernel
theorem d_Agenda_placeOfMessage_14 : decode b_Agenda_placeOfMessage 14 = .ok (.iconst 0, 1) := by decide +kernel
theorem d_Agenda_placeOfMessage_15 : decode b_Agenda_placeOfMessage 15 = .ok (.istore_n 2, 1) := by decide +kernel
theorem d_Agenda_placeOfMessage_16 : decode b_Agenda_placeOfMessage 16 = .ok (.iconst 0, 1) := by decide +kernel
theorem d_Agenda_placeOfMessage_17 : decode b_Agenda_placeOfMessage 17 = .ok (.istore_n 3, 1) := by decide +kernel
theorem d_Agenda_placeOfMessage_18 : decode b_Agenda_placeOfMessage 18 = .ok (.iload_n 3, 1) := by decide +kernel
theorem d_Agenda_placeOfMessage_19 : decode b_Agenda_placeOfMessage 19 = .ok (.aload_n 0, 1) := by decide +kernel
theorem d_Agenda_placeOfMessage_20 : decode b_Agenda_placeOfMessage 20 = .ok (.getfield 17, 3) := by decide +kernel
theorem d_Agenda_placeOfMessage_23 : decode b_Agenda_placeOfMessage 23 = .ok (.if_icmp .ge 39, 3) := by decide +kernel
theorem d_Agenda_placeOfMessage_26 : decode b_Agenda_placeOfMessage 26 = .ok (.aload_n 0, 1) := by decide +kernel
theorem d_Agenda_placeOfMessage_27 : decode b_Agenda_placeOfMessage 27 = .ok (.iload_n 3, 1) := by decide +kernel
theorem d_Agenda_placeOfMessage_28 : decode b_Agenda_placeOfMessage 28 = .ok (.invokevirtual 34, 3) := by decide +kernel
theorem d_Agenda_placeOfMessage_31 : decode b_Agenda_placeOfMessage 31 = .ok (.astore 4, 2) := by decide +kernel
theorem d_Agenda_placeOfMessage_33 : decode b_Agenda_placeOfMessage 33 = .ok (.aload 4, 2) := by decide +kernel
theorem d_Agenda_placeOfMessage_35 : decode b_Agenda_placeOfMessage 35 = .ok (.ifnull 21, 3) := by decide +kernel
theorem d_Agenda_placeOfMessage_38 : decode b_Agenda_placeOfMessage 38 = .ok (.aload 4, 2) := by decide +kernel
theorem d_Agenda_placeOfMessage_40 : decode b_Agenda_placeOfMessage 40 = .ok (.getfield 31, 3) := by decide +kernel
theorem d_Agenda_placeOfMessage_43 : decode b_Agenda_placeOfMessage 43 = .ok (.ifCond .ne 13, 3) := by decide +kernel
theorem d_Agenda_placeOfMessage_46 : decode b_Agenda_placeOfMessage 46 = .ok (.iload_n 2, 1) := by decide +kernel
theorem d_Agenda_placeOfMessage_47 : decode b_Agenda_placeOfMessage 47 = .ok (.iload_n 1, 1) := by decide +kernel
theorem d_Agenda_placeOfMessage_48 : decode b_Agenda_placeOfMessage 48 = .ok (.if_icmp .ne 5, 3) := by decide +kernel
theorem d_Agenda_placeOfMessage_51 : decode b_Agenda_placeOfMessage 51 = .ok (.iload_n 3, 1) := by decide +kernel
theorem d_Agenda_placeOfMessage_52 : decode b_Agenda_placeOfMessage 52 = .ok (.ireturn, 1) := by decide +kernel
theorem d_Agenda_placeOfMessage_53 : decode b_Agenda_placeOfMessage 53 = .ok (.iinc 2 1, 3) := by decide +kernel
theorem d_Agenda_placeOfMessage_56 : decode b_Agenda_placeOfMessage 56 = .ok (.iinc 3 1, 3) := by decide +kernel
theorem d_Agenda_placeOfMessage_59 : decode b_Agenda_placeOfMessage 59 = .ok (.goto (-41), 3) := by decide +kernel
theorem d_Agenda_placeOfMessage_62 : decode b_Agenda_placeOfMessage 62 = .ok (.iconst (-1), 1) := by decide +kernel
theorem d_Agenda_placeOfMessage_63 : decode b_Agenda_placeOfMessage 63 = .ok (.ireturn, 1) := by decide +kernel
theorem d_NetWires_happened_0 : decode b_NetWires_happened 0 = .ok (.aload_n 0, 1) := by decide +kernel
theorem d_NetWires_happened_1 : decode b_NetWires_happened 1 = .ok (.getfield 26, 3) := by decide +kernel
theorem d_NetWires_happened_4 : decode b_NetWires_happened 4 = .ok (.iload_n 1, 1) := by decide +kernel
theorem d_NetWires_happened_5 : decode b_NetWires_happened 5 = .ok (.iload_n 2, 1) := by decide +kernel
theorem d_NetWires_happened_6 : decode b_NetWires_happened 6 = .ok (.invokevirtual 198, 3) := by decide +kernel
theorem d_NetWires_happened_9 : decode b_NetWires_happened 9 = .ok (.ireturn, 1) := by decide +kernel
theorem d_History_fact_0 : decode b_History_fact 0 = .ok (.iload_n 1, 1) := by decide +kernel
theorem d_History_fact_1 : decode b_History_fact 1 = .ok (.ifCond .lt 20, 3) := by decide +kernel
theorem d_History_fact_4 : decode b_History_fact 4 = .ok (.iload_n 1, 1) := by decide +kernel
theorem d_History_fact_5 : decode b_History_fact 5 = .ok (.aload_n 0, 1) := by decide +kernel
theorem d_History_fact_6 : decode b_History_fact 6 = .ok (.getfield 19, 3) := by decide +kernel
theorem d_History_fact_9 : decode b_History_fact 9 = .ok (.if_icmp .ge 12, 3) := by decide +kernel
theorem d_History_fact_12 : decode b_History_fact 12 = .ok (.iload_n 2, 1) := by decide +kernel
theorem d_History_fact_13 : decode b_History_fact 13 = .ok (.ifCond .lt 8, 3) := by decide +kernel
theorem d_History_fact_16 : decode b_History_fact 16 = .ok (.iload_n 2, 1) := by decide +kernel
theorem d_History_fact_17 : decode b_History_fact 17 = .ok (.iconst 4, 1) := by decide +kernel
theorem d_History_fact_18 : decode b_History_fact 18 = .ok (.if_icmp .lt 5, 3) := by decide +kernel
theorem d_History_fact_21 : decode b_History_fact 21 = .ok (.iconst (-1), 1) := by decide +kernel
theorem d_History_fact_22 : decode b_History_fact 22 = .ok (.ireturn, 1) := by decide +kernel
theorem d_History_fact_23 : decode b_History_fact 23 = .ok (.aload_n 0, 1) := by decide +kernel
theorem d_History_fact_24 : decode b_History_fact 24 = .ok (.getfield 15, 3) := by decide +kernel
theorem d_History_fact_27 : decode b_History_fact 27 = .ok (.iload_n 1, 1) := by decide +kernel
theorem d_History_fact_28 : decode b_History_fact 28 = .ok (.isub, 1) := by decide +kernel
theorem d_History_fact_29 : decode b_History_fact 29 = .ok (.bipush 32, 2) := by decide +kernel
theorem d_History_fact_31 : decode b_History_fact 31 = .ok (.iadd, 1) := by decide +kernel
theorem d_History_fact_32 : decode b_History_fact 32 = .ok (.bipush 32, 2) := by decide +kernel
theorem d_History_fact_34 : decode b_History_fact 34 = .ok (.irem, 1) := by decide +kernel
theorem d_History_fact_35 : decode b_History_fact 35 = .ok (.istore_n 3, 1) := by decide +kernel
theorem d_History_fact_36 : decode b_History_fact 36 = .ok (.aload_n 0, 1) := by decide +kernel
theorem d_History_fact_37 : decode b_History_fact 37 = .ok (.getfield 9, 3) := by decide +kernel
theorem d_History_fact_40 : decode b_History_fact 40 = .ok (.iload_n 3, 1) := by decide +kernel
theorem d_History_fact_41 : decode b_History_fact 41 = .ok (.iconst 4, 1) := by decide +kernel
theorem d_History_fact_42 : decode b_History_fact 42 = .ok (.imul, 1) := by decide +kernel
theorem d_History_fact_43 : decode b_History_fact 43 = .ok (.iload_n 2, 1) := by decide +kernel
theorem d_History_fact_44 : decode b_History_fact 44 = .ok (.iadd, 1) := by decide +kernel
theorem d_History_fact_45 : decode b_History_fact 45 = .ok (.iaload, 1) := by decide +kernel
theorem d_History_fact_46 : decode b_History_fact 46 = .ok (.ireturn, 1) := by decide +kernel
theorem d_NetWires_count_0 : decode b_NetWires_count 0 = .ok (.iload_n 1, 1) := by decide +kernel
theorem d_NetWires_count_1 : decode b_NetWires_count 1 = .ok (.tableswitch 97 0 7 #[47, 52, 60, 65, 70, 78, 83, 91], 47) := by decide +kernel
theorem d_NetWires_count_48 : decode b_NetWires_count 48 = .ok (.aload_n 0, 1) := by decide +kernel
theorem d_NetWires_count_49 : decode b_NetWires_count 49 = .ok (.getfield 47, 3) := by decide +kernel
theorem d_NetWires_count_52 : decode b_NetWires_count 52 = .ok (.ireturn, 1) := by decide +kernel
theorem d_NetWires_count_53 : decode b_NetWires_count 53 = .ok (.aload_n 0, 1) := by decide +kernel
theorem d_NetWires_count_54 : decode b_NetWires_count 54 = .ok (.getfield 19, 3) := by decide +kernel
theorem d_NetWires_count_57 : decode b_NetWires_count 57 = .ok (.getfield 206, 3) := by decide +kernel
theorem d_NetWires_count_60 : decode b_NetWires_count 60 = .ok (.ireturn, 1) := by decide +kernel
theorem d_NetWires_count_61 : decode b_NetWires_count 61 = .ok (.aload_n 0, 1) := by decide +kernel
theorem d_NetWires_count_62 : decode b_NetWires_count 62 = .ok (.getfield 60, 3) := by decide +kernel
theorem d_NetWires_count_65 : decode b_NetWires_count 65 = .ok (.ireturn, 1) := by decide +kernel
theorem d_NetWires_count_66 : decode b_NetWires_count 66 = .ok (.aload_n 0, 1) := by decide +kernel
theorem d_NetWires_count_67 : decode b_NetWires_count 67 = .ok (.getfield 63, 3) := by decide +kernel
theorem d_NetWires_count_70 : decode b_NetWires_count 70 = .ok (.ireturn, 1) := by decide +kernel
theorem d_NetWires_count_71 : decode b_NetWires_count 71 = .ok (.aload_n 0, 1) := by decide +kernel
theorem d_NetWires_count_72 : decode b_NetWires_count 72 = .ok (.getfield 26, 3) := by decide +kernel
theorem d_NetWires_count_75 : decode b_NetWires_count 75 = .ok (.getfield 209, 3) := by decide +kernel
theorem d_NetWires_count_78 : decode b_NetWires_count 78 = .ok (.ireturn, 1) := by decide +kernel
theorem d_NetWires_count_79 : decode b_NetWires_count 79 = .ok (.aload_n 0, 1) := by decide +kernel
theorem d_NetWires_count_80 : decode b_NetWires_count 80 = .ok (.getfield 51, 3) := by decide +kernel
theorem d_NetWires_count_83 : decode b_NetWires_count 83 = .ok (.ireturn, 1) := by decide +kernel
theorem d_NetWires_count_84 : decode b_NetWires_count 84 = .ok (.aload_n 0, 1) := by decide +kernel
theorem d_NetWires_count_85 : decode b_NetWires_count 85 = .ok (.getfield 12, 3) := by decide +kernel
theorem d_NetWires_count_88 : decode b_NetWires_count 88 = .ok (.getfield 93, 3) := by decide +kernel
theorem d_NetWires_count_91 : decode b_NetWires_count 91 = .ok (.ireturn, 1) := by decide +kernel
theorem d_NetWires_count_92 : decode b_NetWires_count 92 = .ok (.aload_n 0, 1) := by decide +kernel
theorem d_NetWires_count_93 : decode b_NetWires_count 93 = .ok (.getfield 70, 3) := by decide +kernel
theorem d_NetWires_count_96 : decode b_NetWires_count 96 = .ok (.arraylength, 1) := by decide +kernel
theorem d_NetWires_count_97 : decode b_NetWires_count 97 = .ok (.ireturn, 1) := by decide +kernel
theorem d_NetWires_count_98 : decode b_NetWires_count 98 = .ok (.iconst (-1), 1) := by decide +kernel
theorem d_NetWires_count_99 : decode b_NetWires_count 99 = .ok (.ireturn, 1) := by decide +kernel
theorem d_NetWires_feed_0 : decode b_NetWires_feed 0 = .ok (.iload_n 3, 1) := by decide +kernel
theorem d_NetWires_feed_1 : decode b_NetWires_feed 1 = .ok (.iconst 1, 1) := by decide +kernel
theorem d_NetWires_feed_2 : decode b_NetWires_feed 2 = .ok (.if_icmp .lt 9, 3) := by decide +kernel
theorem d_NetWires_feed_5 : decode b_NetWires_feed 5 = .ok (.iload_n 3, 1) := by decide +kernel
theorem d_NetWires_feed_6 : decode b_NetWires_feed 6 = .ok (.bipush 8, 2) := by decide +kernel
theorem d_NetWires_feed_8 : decode b_NetWires_feed 8 = .ok (.if_icmp .le 13, 3) := by decide +kernel
theorem d_NetWires_feed_11 : decode b_NetWires_feed 11 = .ok (.new 73, 3) := by decide +kernel
theorem d_NetWires_feed_14 : decode b_NetWires_feed 14 = .ok (.dup, 1) := by decide +kernel
theorem d_NetWires_feed_15 : decode b_NetWires_feed 15 = .ok (.ldc 75, 2) := by decide +kernel
theorem d_NetWires_feed_17 : decode b_NetWires_feed 17 = .ok (.invokespecial 77, 3) := by decide +kernel
theorem d_NetWires_feed_20 : decode b_NetWires_feed 20 = .ok (.athrow, 1) := by decide +kernel
theorem d_NetWires_feed_21 : decode b_NetWires_feed 21 = .ok (.aload_n 0, 1) := by decide +kernel
theorem d_NetWires_feed_22 : decode b_NetWires_feed 22 = .ok (.getfield 12, 3) := by decide +kernel
theorem d_NetWires_feed_25 : decode b_NetWires_feed 25 = .ok (.iload_n 3, 1) := by decide +kernel
theorem d_NetWires_feed_26 : decode b_NetWires_feed 26 = .ok (.invokevirtual 80, 3) := by decide +kernel
theorem d_NetWires_feed_29 : decode b_NetWires_feed 29 = .ok (.ifCond .ne 13, 3) := by decide +kernel
theorem d_NetWires_feed_32 : decode b_NetWires_feed 32 = .ok (.new 84, 3) := by decide +kernel
theorem d_NetWires_feed_35 : decode b_NetWires_feed 35 = .ok (.dup, 1) := by decide +kernel
theorem d_NetWires_feed_36 : decode b_NetWires_feed 36 = .ok (.ldc 86, 2) := by decide +kernel
theorem d_NetWires_feed_38 : decode b_NetWires_feed 38 = .ok (.invokespecial 88, 3) := by decide +kernel
theorem d_NetWires_feed_41 : decode b_NetWires_feed 41 = .ok (.athrow, 1) := by decide +kernel
theorem d_NetWires_feed_42 : decode b_NetWires_feed 42 = .ok (.iconst 0, 1) := by decide +kernel
theorem d_NetWires_feed_43 : decode b_NetWires_feed 43 = .ok (.istore 4, 2) := by decide +kernel
theorem d_NetWires_feed_45 : decode b_NetWires_feed 45 = .ok (.iload 4, 2) := by decide +kernel
theorem d_NetWires_feed_47 : decode b_NetWires_feed 47 = .ok (.iload_n 3, 1) := by decide +kernel
theorem d_NetWires_feed_48 : decode b_NetWires_feed 48 = .ok (.if_icmp .ge 25, 3) := by decide +kernel
theorem d_NetWires_feed_51 : decode b_NetWires_feed 51 = .ok (.aload_n 0, 1) := by decide +kernel
theorem d_NetWires_feed_52 : decode b_NetWires_feed 52 = .ok (.getfield 12, 3) := by decide +kernel
theorem d_NetWires_feed_55 : decode b_NetWires_feed 55 = .ok (.lload_n 1, 1) := by decide +kernel
theorem d_NetWires_feed_56 : decode b_NetWires_feed 56 = .ok (.bipush 8, 2) := by decide +kernel
theorem d_NetWires_feed_58 : decode b_NetWires_feed 58 = .ok (.iload 4, 2) := by decide +kernel
theorem d_NetWires_feed_60 : decode b_NetWires_feed 60 = .ok (.imul, 1) := by decide +kernel
theorem d_NetWires_feed_61 : decode b_NetWires_feed 61 = .ok (.lushr, 1) := by decide +kernel
theorem d_NetWires_feed_62 : decode b_NetWires_feed 62 = .ok (.l2i, 1) := by decide +kernel
theorem d_NetWires_feed_63 : decode b_NetWires_feed 63 = .ok (.i2b, 1) := by decide +kernel
theorem d_NetWires_feed_64 : decode b_NetWires_feed 64 = .ok (.invokevirtual 89, 3) := by decide +kernel
theorem d_NetWires_feed_67 : decode b_NetWires_feed 67 = .ok (.iinc 4 1, 3) := by decide +kernel
theorem d_NetWires_feed_70 : decode b_NetWires_feed 70 = .ok (.goto (-25), 3) := by decide +kernel
theorem d_NetWires_feed_73 : decode b_NetWires_feed 73 = .ok (.aload_n 0, 1) := by decide +kernel
theorem d_NetWires_feed_74 : decode b_NetWires_feed 74 = .ok (.getfield 12, 3) := by decide +kernel
theorem d_NetWires_feed_77 : decode b_NetWires_feed 77 = .ok (.getfield 93, 3) := by decide +kernel
theorem d_NetWires_feed_80 : decode b_NetWires_feed 80 = .ok (.ireturn, 1) := by decide +kernel
theorem d_Tape_hasRoomFor_0 : decode b_Tape_hasRoomFor 0 = .ok (.iload_n 1, 1) := by decide +kernel
theorem d_Tape_hasRoomFor_1 : decode b_Tape_hasRoomFor 1 = .ok (.sipush 2048, 3) := by decide +kernel
theorem d_Tape_hasRoomFor_4 : decode b_Tape_hasRoomFor 4 = .ok (.aload_n 0, 1) := by decide +kernel
theorem d_Tape_hasRoomFor_5 : decode b_Tape_hasRoomFor 5 = .ok (.getfield 15, 3) := by decide +kernel
theorem d_Tape_hasRoomFor_8 : decode b_Tape_hasRoomFor 8 = .ok (.isub, 1) := by decide +kernel
theorem d_Tape_hasRoomFor_9 : decode b_Tape_hasRoomFor 9 = .ok (.if_icmp .gt 7, 3) := by decide +kernel
theorem d_Tape_hasRoomFor_12 : decode b_Tape_hasRoomFor 12 = .ok (.iconst 1, 1) := by decide +kernel
theorem d_Tape_hasRoomFor_13 : decode b_Tape_hasRoomFor 13 = .ok (.goto 4, 3) := by decide +kernel
theorem d_Tape_hasRoomFor_16 : decode b_Tape_hasRoomFor 16 = .ok (.iconst 0, 1) := by decide +kernel
theorem d_Tape_hasRoomFor_17 : decode b_Tape_hasRoomFor 17 = .ok (.ireturn, 1) := by decide +kernel
theorem d_Tape_append_0 : decode b_Tape_append 0 = .ok (.aload_n 0, 1) := by decide +kernel
theorem d_Tape_append_1 : decode b_Tape_append 1 = .ok (.iconst 1, 1) := by decide +kernel
theorem d_Tape_append_2 : decode b_Tape_append 2 = .ok (.invokevirtual 19, 3) := by decide +kernel
theorem d_Tape_append_5 : decode b_Tape_append 5 = .ok (.ifCond .eq 23, 3) := by decide +kernel
theorem d_Tape_append_8 : decode b_Tape_append 8 = .ok (.aload_n 0, 1) := by decide +kernel
theorem d_Tape_append_9 : decode b_Tape_append 9 = .ok (.getfield 9, 3) := by decide +kernel
theorem d_Tape_append_12 : decode b_Tape_append 12 = .ok (.aload_n 0, 1) := by decide +kernel
theorem d_Tape_append_13 : decode b_Tape_append 13 = .ok (.getfield 15, 3) := by decide +kernel
theorem d_Tape_append_16 : decode b_Tape_append 16 = .ok (.iload_n 1, 1) := by decide +kernel
theorem d_Tape_append_17 : decode b_Tape_append 17 = .ok (.bastore, 1) := by decide +kernel
theorem d_Tape_append_18 : decode b_Tape_append 18 = .ok (.aload_n 0, 1) := by decide +kernel
theorem d_Tape_append_19 : decode b_Tape_append 19 = .ok (.dup, 1) := by decide +kernel
theorem d_Tape_append_20 : decode b_Tape_append 20 = .ok (.getfield 15, 3) := by decide +kernel
theorem d_Tape_append_23 : decode b_Tape_append 23 = .ok (.iconst 1, 1) := by decide +kernel
theorem d_Tape_append_24 : decode b_Tape_append 24 = .ok (.iadd, 1) := by decide +kernel
theorem d_Tape_append_25 : decode b_Tape_append 25 = .ok (.putfield 15, 3) := by decide +kernel
theorem d_Tape_append_28 : decode b_Tape_append 28 = .ok (.return_, 1) := by decide +kernel
theorem d_NetWires_send_0 : decode b_NetWires_send 0 = .ok (.aload_n 0, 1) := by decide +kernel
theorem d_NetWires_send_1 : decode b_NetWires_send 1 = .ok (.getfield 12, 3) := by decide +kernel
theorem d_NetWires_send_4 : decode b_NetWires_send 4 = .ok (.invokevirtual 96, 3) := by decide +kernel
theorem d_NetWires_send_7 : decode b_NetWires_send 7 = .ok (.astore_n 3, 1) := by decide +kernel
theorem d_NetWires_send_8 : decode b_NetWires_send 8 = .ok (.iload_n 1, 1) := by decide +kernel
theorem d_NetWires_send_9 : decode b_NetWires_send 9 = .ok (.invokestatic 100, 3) := by decide +kernel
theorem d_NetWires_send_12 : decode b_NetWires_send 12 = .ok (.iload_n 2, 1) := by decide +kernel
theorem d_NetWires_send_13 : decode b_NetWires_send 13 = .ok (.invokestatic 100, 3) := by decide +kernel
theorem d_NetWires_send_16 : decode b_NetWires_send 16 = .ok (.aload_n 0, 1) := by decide +kernel
theorem d_NetWires_send_17 : decode b_NetWires_send 17 = .ok (.iload_n 1, 1) := by decide +kernel
theorem d_NetWires_send_18 : decode b_NetWires_send 18 = .ok (.iload_n 2, 1) := by decide +kernel
theorem d_NetWires_send_19 : decode b_NetWires_send 19 = .ok (.invokevirtual 104, 3) := by decide +kernel
theorem d_NetWires_send_22 : decode b_NetWires_send 22 = .ok (.ifCond .eq 15, 3) := by decide +kernel
theorem d_NetWires_send_25 : decode b_NetWires_send 25 = .ok (.aload_n 0, 1) := by decide +kernel
theorem d_NetWires_send_26 : decode b_NetWires_send 26 = .ok (.dup, 1) := by decide +kernel
theorem d_NetWires_send_27 : decode b_NetWires_send 27 = .ok (.getfield 63, 3) := by decide +kernel
theorem d_NetWires_send_30 : decode b_NetWires_send 30 = .ok (.iconst 1, 1) := by decide +kernel
theorem d_NetWires_send_31 : decode b_NetWires_send 31 = .ok (.iadd, 1) := by decide +kernel
theorem d_NetWires_send_32 : decode b_NetWires_send 32 = .ok (.putfield 63, 3) := by decide +kernel
theorem d_NetWires_send_35 : decode b_NetWires_send 35 = .ok (.iconst 0, 1) := by decide +kernel
theorem d_NetWires_send_36 : decode b_NetWires_send 36 = .ok (.ireturn, 1) := by decide +kernel
theorem d_NetWires_send_37 : decode b_NetWires_send 37 = .ok (.aload_n 0, 1) := by decide +kernel
theorem d_NetWires_send_38 : decode b_NetWires_send 38 = .ok (.getfield 33, 3) := by decide +kernel
theorem d_NetWires_send_41 : decode b_NetWires_send 41 = .ok (.invokevirtual 108, 3) := by decide +kernel
theorem d_NetWires_send_44 : decode b_NetWires_send 44 = .ok (.ifCond .eq 11, 3) := by decide +kernel
theorem d_NetWires_send_47 : decode b_NetWires_send 47 = .ok (.aload_n 0, 1) := by decide +kernel
theorem d_NetWires_send_48 : decode b_NetWires_send 48 = .ok (.iload_n 1, 1) := by decide +kernel
theorem d_NetWires_send_49 : decode b_NetWires_send 49 = .ok (.iload_n 2, 1) := by decide +kernel
theorem d_NetWires_send_50 : decode b_NetWires_send 50 = .ok (.aload_n 3, 1) := by decide +kernel
theorem d_NetWires_send_51 : decode b_NetWires_send 51 = .ok (.invokevirtual 112, 3) := by decide +kernel
theorem d_NetWires_send_54 : decode b_NetWires_send 54 = .ok (.ireturn, 1) := by decide +kernel
theorem d_NetWires_send_55 : decode b_NetWires_send 55 = .ok (.aload_n 0, 1) := by decide +kernel
theorem d_NetWires_send_56 : decode b_NetWires_send 56 = .ok (.iload_n 1, 1) := by decide +kernel
theorem d_NetWires_send_57 : decode b_NetWires_send 57 = .ok (.iload_n 2, 1) := by decide +kernel
theorem d_NetWires_send_58 : decode b_NetWires_send 58 = .ok (.iconst 0, 1) := by decide +kernel
theorem d_NetWires_send_59 : decode b_NetWires_send 59 = .ok (.aload_n 3, 1) := by decide +kernel
theorem d_NetWires_send_60 : decode b_NetWires_send 60 = .ok (.invokevirtual 116, 3) := by decide +kernel
theorem d_NetWires_send_63 : decode b_NetWires_send 63 = .ok (.ireturn, 1) := by decide +kernel
theorem d_Tape_takeAll_0 : decode b_Tape_takeAll 0 = .ok (.aload_n 0, 1) := by decide +kernel
theorem d_Tape_takeAll_1 : decode b_Tape_takeAll 1 = .ok (.getfield 15, 3) := by decide +kernel
theorem d_Tape_takeAll_4 : decode b_Tape_takeAll 4 = .ok (.ifCond .gt 7, 3) := by decide +kernel
theorem d_Tape_takeAll_7 : decode b_Tape_takeAll 7 = .ok (.getstatic 23, 3) := by decide +kernel
theorem d_Tape_takeAll_10 : decode b_Tape_takeAll 10 = .ok (.areturn, 1) := by decide +kernel
theorem d_Tape_takeAll_11 : decode b_Tape_takeAll 11 = .ok (.aload_n 0, 1) := by decide +kernel
theorem d_Tape_takeAll_12 : decode b_Tape_takeAll 12 = .ok (.getfield 9, 3) := by decide +kernel
theorem d_Tape_takeAll_15 : decode b_Tape_takeAll 15 = .ok (.aload_n 0, 1) := by decide +kernel
theorem d_Tape_takeAll_16 : decode b_Tape_takeAll 16 = .ok (.getfield 15, 3) := by decide +kernel
theorem d_Tape_takeAll_19 : decode b_Tape_takeAll 19 = .ok (.invokestatic 26, 3) := by decide +kernel
theorem d_Tape_takeAll_22 : decode b_Tape_takeAll 22 = .ok (.astore_n 1, 1) := by decide +kernel
theorem d_Tape_takeAll_23 : decode b_Tape_takeAll 23 = .ok (.aload_n 0, 1) := by decide +kernel
theorem d_Tape_takeAll_24 : decode b_Tape_takeAll 24 = .ok (.iconst 0, 1) := by decide +kernel
theorem d_Tape_takeAll_25 : decode b_Tape_takeAll 25 = .ok (.putfield 15, 3) := by decide +kernel
theorem d_Tape_takeAll_28 : decode b_Tape_takeAll 28 = .ok (.aload_n 1, 1) := by decide +kernel
theorem d_Tape_takeAll_29 : decode b_Tape_takeAll 29 = .ok (.areturn, 1) := by decide +kernel
theorem d_NetWires_demandEndpoint_0 : decode b_NetWires_demandEndpoint 0 = .ok (.iload_n 0, 1) := by decide +kernel
theorem d_NetWires_demandEndpoint_1 : decode b_NetWires_demandEndpoint 1 = .ok (.iconst 0, 1) := by decide +kernel
theorem d_NetWires_demandEndpoint_2 : decode b_NetWires_demandEndpoint 2 = .ok (.bipush 15, 2) := by decide +kernel
theorem d_NetWires_demandEndpoint_4 : decode b_NetWires_demandEndpoint 4 = .ok (.invokestatic 140, 3) := by decide +kernel
theorem d_NetWires_demandEndpoint_7 : decode b_NetWires_demandEndpoint 7 = .ok (.ifCond .ne 13, 3) := by decide +kernel
theorem d_NetWires_demandEndpoint_10 : decode b_NetWires_demandEndpoint 10 = .ok (.new 191, 3) := by decide +kernel
theorem d_NetWires_demandEndpoint_13 : decode b_NetWires_demandEndpoint 13 = .ok (.dup, 1) := by decide +kernel
theorem d_NetWires_demandEndpoint_14 : decode b_NetWires_demandEndpoint 14 = .ok (.ldc 212, 2) := by decide +kernel
theorem d_NetWires_demandEndpoint_16 : decode b_NetWires_demandEndpoint 16 = .ok (.invokespecial 195, 3) := by decide +kernel
theorem d_NetWires_demandEndpoint_19 : decode b_NetWires_demandEndpoint 19 = .ok (.athrow, 1) := by decide +kernel
theorem d_NetWires_demandEndpoint_20 : decode b_NetWires_demandEndpoint 20 = .ok (.return_, 1) := by decide +kernel
theorem d_NetWires_isWithin_0 : decode b_NetWires_isWithin 0 = .ok (.iload_n 0, 1) := by decide +kernel
theorem d_NetWires_isWithin_1 : decode b_NetWires_isWithin 1 = .ok (.iload_n 1, 1) := by decide +kernel
theorem d_NetWires_isWithin_2 : decode b_NetWires_isWithin 2 = .ok (.if_icmp .lt 12, 3) := by decide +kernel
theorem d_NetWires_isWithin_5 : decode b_NetWires_isWithin 5 = .ok (.iload_n 0, 1) := by decide +kernel
theorem d_NetWires_isWithin_6 : decode b_NetWires_isWithin 6 = .ok (.iload_n 2, 1) := by decide +kernel
theorem d_NetWires_isWithin_7 : decode b_NetWires_isWithin 7 = .ok (.if_icmp .gt 7, 3) := by decide +kernel
theorem d_NetWires_isWithin_10 : decode b_NetWires_isWithin 10 = .ok (.iconst 1, 1) := by decide +kernel
theorem d_NetWires_isWithin_11 : decode b_NetWires_isWithin 11 = .ok (.goto 4, 3) := by decide +kernel
theorem d_NetWires_isWithin_14 : decode b_NetWires_isWithin 14 = .ok (.iconst 0, 1) := by decide +kernel
theorem d_NetWires_isWithin_15 : decode b_NetWires_isWithin 15 = .ok (.ireturn, 1) := by decide +kernel
theorem d_Noise_isOn_0 : decode b_Noise_isOn 0 = .ok (.aload_n 0, 1) := by decide +kernel
theorem d_Noise_isOn_1 : decode b_Noise_isOn 1 = .ok (.getfield 7, 3) := by decide +kernel
theorem d_Noise_isOn_4 : decode b_Noise_isOn 4 = .ok (.ifCond .ne 17, 3) := by decide +kernel
theorem d_Noise_isOn_7 : decode b_Noise_isOn 7 = .ok (.aload_n 0, 1) := by decide +kernel
theorem d_Noise_isOn_8 : decode b_Noise_isOn 8 = .ok (.getfield 13, 3) := by decide +kernel
theorem d_Noise_isOn_11 : decode b_Noise_isOn 11 = .ok (.ifCond .ne 10, 3) := by decide +kernel
theorem d_Noise_isOn_14 : decode b_Noise_isOn 14 = .ok (.aload_n 0, 1) := by decide +kernel
theorem d_Noise_isOn_15 : decode b_Noise_isOn 15 = .ok (.getfield 16, 3) := by decide +kernel
theorem d_Noise_isOn_18 : decode b_Noise_isOn 18 = .ok (.ifCond .eq 7, 3) := by decide +kernel
theorem d_Noise_isOn_21 : decode b_Noise_isOn 21 = .ok (.iconst 1, 1) := by decide +kernel
theorem d_Noise_isOn_22 : decode b_Noise_isOn 22 = .ok (.goto 4, 3) := by decide +kernel
theorem d_Noise_isOn_25 : decode b_Noise_isOn 25 = .ok (.iconst 0, 1) := by decide +kernel
theorem d_Noise_isOn_26 : decode b_Noise_isOn 26 = .ok (.ireturn, 1) := by decide +kernel
theorem d_NetWires_launchThroughNoise_0 : decode b_NetWires_launchThroughNoise 0 = .ok (.aload_n 0, 1) := by decide +kernel
theorem d_NetWires_launchThroughNoise_1 : decode b_NetWires_launchThroughNoise 1 = .ok (.getfield 33, 3) := by decide +kernel
theorem d_NetWires_launchThroughNoise_4 : decode b_NetWires_launchThroughNoise 4 = .ok (.sipush 1000, 3) := by decide +kernel
theorem d_NetWires_launchThroughNoise_7 : decode b_NetWires_launchThroughNoise 7 = .ok (.invokevirtual 222, 3) := by decide +kernel
theorem d_NetWires_launchThroughNoise_10 : decode b_NetWires_launchThroughNoise 10 = .ok (.aload_n 0, 1) := by decide +kernel
theorem d_NetWires_launchThroughNoise_11 : decode b_NetWires_launchThroughNoise 11 = .ok (.getfield 33, 3) := by decide +kernel
theorem d_NetWires_launchThroughNoise_14 : decode b_NetWires_launchThroughNoise 14 = .ok (.getfield 225, 3) := by decide +kernel
theorem d_NetWires_launchThroughNoise_17 : decode b_NetWires_launchThroughNoise 17 = .ok (.if_icmp .ge 15, 3) := by decide +kernel
theorem d_NetWires_launchThroughNoise_20 : decode b_NetWires_launchThroughNoise 20 = .ok (.aload_n 0, 1) := by decide +kernel
theorem d_NetWires_launchThroughNoise_21 : decode b_NetWires_launchThroughNoise 21 = .ok (.dup, 1) := by decide +kernel
theorem d_NetWires_launchThroughNoise_22 : decode b_NetWires_launchThroughNoise 22 = .ok (.getfield 63, 3) := by decide +kernel
theorem d_NetWires_launchThroughNoise_25 : decode b_NetWires_launchThroughNoise 25 = .ok (.iconst 1, 1) := by decide +kernel
theorem d_NetWires_launchThroughNoise_26 : decode b_NetWires_launchThroughNoise 26 = .ok (.iadd, 1) := by decide +kernel
theorem d_NetWires_launchThroughNoise_27 : decode b_NetWires_launchThroughNoise 27 = .ok (.putfield 63, 3) := by decide +kernel
theorem d_NetWires_launchThroughNoise_30 : decode b_NetWires_launchThroughNoise 30 = .ok (.iconst 0, 1) := by decide +kernel
theorem d_NetWires_launchThroughNoise_31 : decode b_NetWires_launchThroughNoise 31 = .ok (.ireturn, 1) := by decide +kernel
theorem d_NetWires_launchThroughNoise_32 : decode b_NetWires_launchThroughNoise 32 = .ok (.aload_n 0, 1) := by decide +kernel
theorem d_NetWires_launchThroughNoise_33 : decode b_NetWires_launchThroughNoise 33 = .ok (.getfield 33, 3) := by decide +kernel
theorem d_NetWires_launchThroughNoise_36 : decode b_NetWires_launchThroughNoise 36 = .ok (.sipush 1000, 3) := by decide +kernel
theorem d_NetWires_launchThroughNoise_39 : decode b_NetWires_launchThroughNoise 39 = .ok (.invokevirtual 222, 3) := by decide +kernel
theorem d_NetWires_launchThroughNoise_42 : decode b_NetWires_launchThroughNoise 42 = .ok (.aload_n 0, 1) := by decide +kernel
theorem d_NetWires_launchThroughNoise_43 : decode b_NetWires_launchThroughNoise 43 = .ok (.getfield 33, 3) := by decide +kernel
theorem d_NetWires_launchThroughNoise_46 : decode b_NetWires_launchThroughNoise 46 = .ok (.getfield 228, 3) := by decide +kernel
theorem d_NetWires_launchThroughNoise_49 : decode b_NetWires_launchThroughNoise 49 = .ok (.if_icmp .ge 7, 3) := by decide +kernel
theorem d_NetWires_launchThroughNoise_52 : decode b_NetWires_launchThroughNoise 52 = .ok (.iconst 2, 1) := by decide +kernel
theorem d_NetWires_launchThroughNoise_53 : decode b_NetWires_launchThroughNoise 53 = .ok (.goto 4, 3) := by decide +kernel
theorem d_NetWires_launchThroughNoise_56 : decode b_NetWires_launchThroughNoise 56 = .ok (.iconst 1, 1) := by decide +kernel
theorem d_NetWires_launchThroughNoise_57 : decode b_NetWires_launchThroughNoise 57 = .ok (.istore 4, 2) := by decide +kernel
theorem d_NetWires_launchThroughNoise_59 : decode b_NetWires_launchThroughNoise 59 = .ok (.iconst 0, 1) := by decide +kernel
theorem d_NetWires_launchThroughNoise_60 : decode b_NetWires_launchThroughNoise 60 = .ok (.istore 5, 2) := by decide +kernel
theorem d_NetWires_launchThroughNoise_62 : decode b_NetWires_launchThroughNoise 62 = .ok (.iconst 0, 1) := by decide +kernel
theorem d_NetWires_launchThroughNoise_63 : decode b_NetWires_launchThroughNoise 63 = .ok (.istore 6, 2) := by decide +kernel
theorem d_NetWires_launchThroughNoise_65 : decode b_NetWires_launchThroughNoise 65 = .ok (.iload 6, 2) := by decide +kernel
theorem d_NetWires_launchThroughNoise_67 : decode b_NetWires_launchThroughNoise 67 = .ok (.iload 4, 2) := by decide +kernel
theorem d_NetWires_launchThroughNoise_69 : decode b_NetWires_launchThroughNoise 69 = .ok (.if_icmp .ge 41, 3) := by decide +kernel
theorem d_NetWires_launchThroughNoise_72 : decode b_NetWires_launchThroughNoise 72 = .ok (.aload_n 0, 1) := by decide +kernel
theorem d_NetWires_launchThroughNoise_73 : decode b_NetWires_launchThroughNoise 73 = .ok (.getfield 33, 3) := by decide +kernel
theorem d_NetWires_launchThroughNoise_76 : decode b_NetWires_launchThroughNoise 76 = .ok (.aload_n 0, 1) := by decide +kernel
theorem d_NetWires_launchThroughNoise_77 : decode b_NetWires_launchThroughNoise 77 = .ok (.getfield 33, 3) := by decide +kernel
theorem d_NetWires_launchThroughNoise_80 : decode b_NetWires_launchThroughNoise 80 = .ok (.getfield 231, 3) := by decide +kernel
theorem d_NetWires_launchThroughNoise_83 : decode b_NetWires_launchThroughNoise 83 = .ok (.iconst 1, 1) := by decide +kernel
theorem d_NetWires_launchThroughNoise_84 : decode b_NetWires_launchThroughNoise 84 = .ok (.iadd, 1) := by decide +kernel
theorem d_NetWires_launchThroughNoise_85 : decode b_NetWires_launchThroughNoise 85 = .ok (.invokevirtual 222, 3) := by decide +kernel
theorem d_NetWires_launchThroughNoise_88 : decode b_NetWires_launchThroughNoise 88 = .ok (.istore 7, 2) := by decide +kernel
theorem d_NetWires_launchThroughNoise_90 : decode b_NetWires_launchThroughNoise 90 = .ok (.iload 5, 2) := by decide +kernel
theorem d_NetWires_launchThroughNoise_92 : decode b_NetWires_launchThroughNoise 92 = .ok (.aload_n 0, 1) := by decide +kernel
theorem d_NetWires_launchThroughNoise_93 : decode b_NetWires_launchThroughNoise 93 = .ok (.iload_n 1, 1) := by decide +kernel
theorem d_NetWires_launchThroughNoise_94 : decode b_NetWires_launchThroughNoise 94 = .ok (.iload_n 2, 1) := by decide +kernel
theorem d_NetWires_launchThroughNoise_95 : decode b_NetWires_launchThroughNoise 95 = .ok (.iload 7, 2) := by decide +kernel
theorem d_NetWires_launchThroughNoise_97 : decode b_NetWires_launchThroughNoise 97 = .ok (.aload_n 3, 1) := by decide +kernel
theorem d_NetWires_launchThroughNoise_98 : decode b_NetWires_launchThroughNoise 98 = .ok (.invokevirtual 116, 3) := by decide +kernel
theorem d_NetWires_launchThroughNoise_101 : decode b_NetWires_launchThroughNoise 101 = .ok (.iadd, 1) := by decide +kernel
theorem d_NetWires_launchThroughNoise_102 : decode b_NetWires_launchThroughNoise 102 = .ok (.istore 5, 2) := by decide +kernel
theorem d_NetWires_launchThroughNoise_104 : decode b_NetWires_launchThroughNoise 104 = .ok (.iinc 6 1, 3) := by decide +kernel
theorem d_NetWires_launchThroughNoise_107 : decode b_NetWires_launchThroughNoise 107 = .ok (.goto (-42), 3) := by decide +kernel
theorem d_NetWires_launchThroughNoise_110 : decode b_NetWires_launchThroughNoise 110 = .ok (.iload 5, 2) := by decide +kernel
theorem d_NetWires_launchThroughNoise_112 : decode b_NetWires_launchThroughNoise 112 = .ok (.ireturn, 1) := by decide +kernel
theorem d_Noise_drawBelow_0 : decode b_Noise_drawBelow 0 = .ok (.aload_n 0, 1) := by decide +kernel
theorem d_Noise_drawBelow_1 : decode b_Noise_drawBelow 1 = .ok (.aload_n 0, 1) := by decide +kernel
theorem d_Noise_drawBelow_2 : decode b_Noise_drawBelow 2 = .ok (.getfield 19, 3) := by decide +kernel
theorem d_Noise_drawBelow_5 : decode b_Noise_drawBelow 5 = .ok (.ldc2_w 23, 3) := by decide +kernel
theorem d_Noise_drawBelow_8 : decode b_Noise_drawBelow 8 = .ok (.lmul, 1) := by decide +kernel
theorem d_Noise_drawBelow_9 : decode b_Noise_drawBelow 9 = .ok (.ldc2_w 25, 3) := by decide +kernel
theorem d_Noise_drawBelow_12 : decode b_Noise_drawBelow 12 = .ok (.ladd, 1) := by decide +kernel
theorem d_Noise_drawBelow_13 : decode b_Noise_drawBelow 13 = .ok (.putfield 19, 3) := by decide +kernel
theorem d_Noise_drawBelow_16 : decode b_Noise_drawBelow 16 = .ok (.iload_n 1, 1) := by decide +kernel
theorem d_Noise_drawBelow_17 : decode b_Noise_drawBelow 17 = .ok (.ifCond .gt 5, 3) := by decide +kernel
theorem d_Noise_drawBelow_20 : decode b_Noise_drawBelow 20 = .ok (.iconst 0, 1) := by decide +kernel
theorem d_Noise_drawBelow_21 : decode b_Noise_drawBelow 21 = .ok (.ireturn, 1) := by decide +kernel
theorem d_Noise_drawBelow_22 : decode b_Noise_drawBelow 22 = .ok (.aload_n 0, 1) := by decide +kernel
theorem d_Noise_drawBelow_23 : decode b_Noise_drawBelow 23 = .ok (.getfield 19, 3) := by decide +kernel
theorem d_Noise_drawBelow_26 : decode b_Noise_drawBelow 26 = .ok (.bipush 33, 2) := by decide +kernel
theorem d_Noise_drawBelow_28 : decode b_Noise_drawBelow 28 = .ok (.lushr, 1) := by decide +kernel
theorem d_Noise_drawBelow_29 : decode b_Noise_drawBelow 29 = .ok (.iload_n 1, 1) := by decide +kernel
theorem d_Noise_drawBelow_30 : decode b_Noise_drawBelow 30 = .ok (.i2l, 1) := by decide +kernel
theorem d_Noise_drawBelow_31 : decode b_Noise_drawBelow 31 = .ok (.lrem, 1) := by decide +kernel
theorem d_Noise_drawBelow_32 : decode b_Noise_drawBelow 32 = .ok (.l2i, 1) := by decide +kernel
theorem d_Noise_drawBelow_33 : decode b_Noise_drawBelow 33 = .ok (.ireturn, 1) := by decide +kernel
theorem d_NetWires_launch_0 : decode b_NetWires_launch 0 = .ok (.aload_n 0, 1) := by decide +kernel
theorem d_NetWires_launch_1 : decode b_NetWires_launch 1 = .ok (.getfield 19, 3) := by decide +kernel
theorem d_NetWires_launch_4 : decode b_NetWires_launch 4 = .ok (.getfield 206, 3) := by decide +kernel
theorem d_NetWires_launch_7 : decode b_NetWires_launch 7 = .ok (.sipush 200, 3) := by decide +kernel
theorem d_NetWires_launch_10 : decode b_NetWires_launch 10 = .ok (.if_icmp .lt 15, 3) := by decide +kernel
theorem d_NetWires_launch_13 : decode b_NetWires_launch 13 = .ok (.aload_n 0, 1) := by decide +kernel
theorem d_NetWires_launch_14 : decode b_NetWires_launch 14 = .ok (.dup, 1) := by decide +kernel
theorem d_NetWires_launch_15 : decode b_NetWires_launch 15 = .ok (.getfield 63, 3) := by decide +kernel
theorem d_NetWires_launch_18 : decode b_NetWires_launch 18 = .ok (.iconst 1, 1) := by decide +kernel
theorem d_NetWires_launch_19 : decode b_NetWires_launch 19 = .ok (.iadd, 1) := by decide +kernel
theorem d_NetWires_launch_20 : decode b_NetWires_launch 20 = .ok (.putfield 63, 3) := by decide +kernel
theorem d_NetWires_launch_23 : decode b_NetWires_launch 23 = .ok (.iconst 0, 1) := by decide +kernel
theorem d_NetWires_launch_24 : decode b_NetWires_launch 24 = .ok (.ireturn, 1) := by decide +kernel
theorem d_NetWires_launch_25 : decode b_NetWires_launch 25 = .ok (.aload_n 0, 1) := by decide +kernel
theorem d_NetWires_launch_26 : decode b_NetWires_launch 26 = .ok (.iload_n 1, 1) := by decide +kernel
theorem d_NetWires_launch_27 : decode b_NetWires_launch 27 = .ok (.iload_n 2, 1) := by decide +kernel
theorem d_NetWires_launch_28 : decode b_NetWires_launch 28 = .ok (.aload_n 0, 1) := by decide +kernel
theorem d_NetWires_launch_29 : decode b_NetWires_launch 29 = .ok (.getfield 47, 3) := by decide +kernel
theorem d_NetWires_launch_32 : decode b_NetWires_launch 32 = .ok (.aload_n 0, 1) := by decide +kernel
theorem d_NetWires_launch_33 : decode b_NetWires_launch 33 = .ok (.getfield 37, 3) := by decide +kernel
theorem d_NetWires_launch_36 : decode b_NetWires_launch 36 = .ok (.iload_n 1, 1) := by decide +kernel
theorem d_NetWires_launch_37 : decode b_NetWires_launch 37 = .ok (.iload_n 2, 1) := by decide +kernel
theorem d_NetWires_launch_38 : decode b_NetWires_launch 38 = .ok (.invokestatic 153, 3) := by decide +kernel
theorem d_NetWires_launch_41 : decode b_NetWires_launch 41 = .ok (.iaload, 1) := by decide +kernel
theorem d_NetWires_launch_42 : decode b_NetWires_launch 42 = .ok (.iadd, 1) := by decide +kernel
theorem d_NetWires_launch_43 : decode b_NetWires_launch 43 = .ok (.iload_n 3, 1) := by decide +kernel
theorem d_NetWires_launch_44 : decode b_NetWires_launch 44 = .ok (.iadd, 1) := by decide +kernel
theorem d_NetWires_launch_45 : decode b_NetWires_launch 45 = .ok (.aload 4, 2) := by decide +kernel
theorem d_NetWires_launch_47 : decode b_NetWires_launch 47 = .ok (.invokevirtual 184, 3) := by decide +kernel
theorem d_NetWires_launch_50 : decode b_NetWires_launch 50 = .ok (.aload_n 0, 1) := by decide +kernel
theorem d_NetWires_launch_51 : decode b_NetWires_launch 51 = .ok (.dup, 1) := by decide +kernel
theorem d_NetWires_launch_52 : decode b_NetWires_launch 52 = .ok (.getfield 60, 3) := by decide +kernel
theorem d_NetWires_launch_55 : decode b_NetWires_launch 55 = .ok (.iconst 1, 1) := by decide +kernel
theorem d_NetWires_launch_56 : decode b_NetWires_launch 56 = .ok (.iadd, 1) := by decide +kernel
theorem d_NetWires_launch_57 : decode b_NetWires_launch 57 = .ok (.putfield 60, 3) := by decide +kernel
theorem d_NetWires_launch_60 : decode b_NetWires_launch 60 = .ok (.iconst 1, 1) := by decide +kernel
theorem d_NetWires_launch_61 : decode b_NetWires_launch 61 = .ok (.ireturn, 1) := by decide +kernel
theorem d_NetWires_linkOf_0 : decode b_NetWires_linkOf 0 = .ok (.iload_n 0, 1) := by decide +kernel
theorem d_NetWires_linkOf_1 : decode b_NetWires_linkOf 1 = .ok (.bipush 16, 2) := by decide +kernel
theorem d_NetWires_linkOf_3 : decode b_NetWires_linkOf 3 = .ok (.imul, 1) := by decide +kernel
theorem d_NetWires_linkOf_4 : decode b_NetWires_linkOf 4 = .ok (.iload_n 1, 1) := by decide +kernel
theorem d_NetWires_linkOf_5 : decode b_NetWires_linkOf 5 = .ok (.iadd, 1) := by decide +kernel
theorem d_NetWires_linkOf_6 : decode b_NetWires_linkOf 6 = .ok (.ireturn, 1) := by decide +kernel
theorem d_NetWires_addMessage_0 : decode b_NetWires_addMessage 0 = .ok (.aload_n 0, 1) := by decide +kernel
theorem d_NetWires_addMessage_1 : decode b_NetWires_addMessage 1 = .ok (.getfield 19, 3) := by decide +kernel
theorem d_NetWires_addMessage_4 : decode b_NetWires_addMessage 4 = .ok (.new 149, 3) := by decide +kernel
theorem d_NetWires_addMessage_7 : decode b_NetWires_addMessage 7 = .ok (.dup, 1) := by decide +kernel
theorem d_NetWires_addMessage_8 : decode b_NetWires_addMessage 8 = .ok (.iconst 0, 1) := by decide +kernel
theorem d_NetWires_addMessage_9 : decode b_NetWires_addMessage 9 = .ok (.iload_n 2, 1) := by decide +kernel
theorem d_NetWires_addMessage_10 : decode b_NetWires_addMessage 10 = .ok (.iload_n 1, 1) := by decide +kernel
theorem d_NetWires_addMessage_11 : decode b_NetWires_addMessage 11 = .ok (.iload_n 3, 1) := by decide +kernel
theorem d_NetWires_addMessage_12 : decode b_NetWires_addMessage 12 = .ok (.aload_n 0, 1) := by decide +kernel
theorem d_NetWires_addMessage_13 : decode b_NetWires_addMessage 13 = .ok (.invokevirtual 234, 3) := by decide +kernel
theorem d_NetWires_addMessage_16 : decode b_NetWires_addMessage 16 = .ok (.aload 4, 2) := by decide +kernel
theorem d_NetWires_addMessage_18 : decode b_NetWires_addMessage 18 = .ok (.invokespecial 238, 3) := by decide +kernel
theorem d_NetWires_addMessage_21 : decode b_NetWires_addMessage 21 = .ok (.invokevirtual 241, 3) := by decide +kernel
theorem d_NetWires_addMessage_24 : decode b_NetWires_addMessage 24 = .ok (.return_, 1) := by decide +kernel
theorem d_NetWires_takeNumber_0 : decode b_NetWires_takeNumber 0 = .ok (.aload_n 0, 1) := by decide +kernel
theorem d_NetWires_takeNumber_1 : decode b_NetWires_takeNumber 1 = .ok (.getfield 51, 3) := by decide +kernel
theorem d_NetWires_takeNumber_4 : decode b_NetWires_takeNumber 4 = .ok (.istore_n 1, 1) := by decide +kernel
theorem d_NetWires_takeNumber_5 : decode b_NetWires_takeNumber 5 = .ok (.aload_n 0, 1) := by decide +kernel
theorem d_NetWires_takeNumber_6 : decode b_NetWires_takeNumber 6 = .ok (.dup, 1) := by decide +kernel
theorem d_NetWires_takeNumber_7 : decode b_NetWires_takeNumber 7 = .ok (.getfield 51, 3) := by decide +kernel
theorem d_NetWires_takeNumber_10 : decode b_NetWires_takeNumber 10 = .ok (.iconst 1, 1) := by decide +kernel
theorem d_NetWires_takeNumber_11 : decode b_NetWires_takeNumber 11 = .ok (.iadd, 1) := by decide +kernel
theorem d_NetWires_takeNumber_12 : decode b_NetWires_takeNumber 12 = .ok (.putfield 51, 3) := by decide +kernel
theorem d_NetWires_takeNumber_15 : decode b_NetWires_takeNumber 15 = .ok (.iload_n 1, 1) := by decide +kernel
theorem d_NetWires_takeNumber_16 : decode b_NetWires_takeNumber 16 = .ok (.ireturn, 1) := by decide +kernel
theorem d_Event_init_0 : decode b_Event_init 0 = .ok (.aload_n 0, 1) := by decide +kernel
theorem d_Event_init_1 : decode b_Event_init 1 = .ok (.invokespecial 1, 3) := by decide +kernel
theorem d_Event_init_4 : decode b_Event_init 4 = .ok (.aload_n 0, 1) := by decide +kernel
theorem d_Event_init_5 : decode b_Event_init 5 = .ok (.iload_n 1, 1) := by decide +kernel
theorem d_Event_init_6 : decode b_Event_init 6 = .ok (.putfield 7, 3) := by decide +kernel
theorem d_Event_init_9 : decode b_Event_init 9 = .ok (.aload_n 0, 1) := by decide +kernel
theorem d_Event_init_10 : decode b_Event_init 10 = .ok (.iload_n 2, 1) := by decide +kernel
theorem d_Event_init_11 : decode b_Event_init 11 = .ok (.putfield 13, 3) := by decide +kernel
theorem d_Event_init_14 : decode b_Event_init 14 = .ok (.aload_n 0, 1) := by decide +kernel
theorem d_Event_init_15 : decode b_Event_init 15 = .ok (.iload_n 3, 1) := by decide +kernel
theorem d_Event_init_16 : decode b_Event_init 16 = .ok (.putfield 16, 3) := by decide +kernel
theorem d_Event_init_19 : decode b_Event_init 19 = .ok (.aload_n 0, 1) := by decide +kernel
theorem d_Event_init_20 : decode b_Event_init 20 = .ok (.iload 4, 2) := by decide +kernel
theorem d_Event_init_22 : decode b_Event_init 22 = .ok (.putfield 19, 3) := by decide +kernel
theorem d_Event_init_25 : decode b_Event_init 25 = .ok (.aload_n 0, 1) := by decide +kernel
theorem d_Event_init_26 : decode b_Event_init 26 = .ok (.iload 5, 2) := by decide +kernel
theorem d_Event_init_28 : decode b_Event_init 28 = .ok (.putfield 22, 3) := by decide +kernel
theorem d_Event_init_31 : decode b_Event_init 31 = .ok (.aload_n 0, 1) := by decide +kernel
theorem d_Event_init_32 : decode b_Event_init 32 = .ok (.aload 6, 2) := by decide +kernel
theorem d_Event_init_34 : decode b_Event_init 34 = .ok (.putfield 25, 3) := by decide +kernel
theorem d_Event_init_37 : decode b_Event_init 37 = .ok (.return_, 1) := by decide +kernel
theorem d_Agenda_insert_0 : decode b_Agenda_insert 0 = .ok (.aload_n 0, 1) := by decide +kernel
theorem d_Agenda_insert_1 : decode b_Agenda_insert 1 = .ok (.getfield 17, 3) := by decide +kernel
theorem d_Agenda_insert_4 : decode b_Agenda_insert 4 = .ok (.sipush 232, 3) := by decide +kernel
theorem d_Agenda_insert_7 : decode b_Agenda_insert 7 = .ok (.if_icmp .lt 4, 3) := by decide +kernel
theorem d_Agenda_insert_10 : decode b_Agenda_insert 10 = .ok (.return_, 1) := by decide +kernel
theorem d_Agenda_insert_11 : decode b_Agenda_insert 11 = .ok (.aload_n 0, 1) := by decide +kernel
theorem d_Agenda_insert_12 : decode b_Agenda_insert 12 = .ok (.getfield 17, 3) := by decide +kernel
theorem d_Agenda_insert_15 : decode b_Agenda_insert 15 = .ok (.istore_n 2, 1) := by decide +kernel
theorem d_Agenda_insert_16 : decode b_Agenda_insert 16 = .ok (.iload_n 2, 1) := by decide +kernel
theorem d_Agenda_insert_17 : decode b_Agenda_insert 17 = .ok (.ifCond .le 37, 3) := by decide +kernel
theorem d_Agenda_insert_20 : decode b_Agenda_insert 20 = .ok (.aload_n 0, 1) := by decide +kernel
theorem d_Agenda_insert_21 : decode b_Agenda_insert 21 = .ok (.iload_n 2, 1) := by decide +kernel
theorem d_Agenda_insert_22 : decode b_Agenda_insert 22 = .ok (.iconst 1, 1) := by decide +kernel
theorem d_Agenda_insert_23 : decode b_Agenda_insert 23 = .ok (.isub, 1) := by decide +kernel
theorem d_Agenda_insert_24 : decode b_Agenda_insert 24 = .ok (.aload_n 1, 1) := by decide +kernel
theorem d_Agenda_insert_25 : decode b_Agenda_insert 25 = .ok (.getfield 24, 3) := by decide +kernel
theorem d_Agenda_insert_28 : decode b_Agenda_insert 28 = .ok (.invokevirtual 27, 3) := by decide +kernel
theorem d_Agenda_insert_31 : decode b_Agenda_insert 31 = .ok (.ifCond .eq 23, 3) := by decide +kernel
theorem d_Agenda_insert_34 : decode b_Agenda_insert 34 = .ok (.aload_n 0, 1) := by decide +kernel
theorem d_Agenda_insert_35 : decode b_Agenda_insert 35 = .ok (.getfield 11, 3) := by decide +kernel
theorem d_Agenda_insert_38 : decode b_Agenda_insert 38 = .ok (.iload_n 2, 1) := by decide +kernel
theorem d_Agenda_insert_39 : decode b_Agenda_insert 39 = .ok (.aload_n 0, 1) := by decide +kernel
theorem d_Agenda_insert_40 : decode b_Agenda_insert 40 = .ok (.getfield 11, 3) := by decide +kernel
theorem d_Agenda_insert_43 : decode b_Agenda_insert 43 = .ok (.iload_n 2, 1) := by decide +kernel
theorem d_Agenda_insert_44 : decode b_Agenda_insert 44 = .ok (.iconst 1, 1) := by decide +kernel
theorem d_Agenda_insert_45 : decode b_Agenda_insert 45 = .ok (.isub, 1) := by decide +kernel
theorem d_Agenda_insert_46 : decode b_Agenda_insert 46 = .ok (.aaload, 1) := by decide +kernel
theorem d_Agenda_insert_47 : decode b_Agenda_insert 47 = .ok (.aastore, 1) := by decide +kernel
theorem d_Agenda_insert_48 : decode b_Agenda_insert 48 = .ok (.iinc 2 (-1), 3) := by decide +kernel
theorem d_Agenda_insert_51 : decode b_Agenda_insert 51 = .ok (.goto (-35), 3) := by decide +kernel
theorem d_Agenda_insert_54 : decode b_Agenda_insert 54 = .ok (.aload_n 0, 1) := by decide +kernel
theorem d_Agenda_insert_55 : decode b_Agenda_insert 55 = .ok (.getfield 11, 3) := by decide +kernel
theorem d_Agenda_insert_58 : decode b_Agenda_insert 58 = .ok (.iload_n 2, 1) := by decide +kernel
theorem d_Agenda_insert_59 : decode b_Agenda_insert 59 = .ok (.aload_n 1, 1) := by decide +kernel
theorem d_Agenda_insert_60 : decode b_Agenda_insert 60 = .ok (.aastore, 1) := by decide +kernel
theorem d_Agenda_insert_61 : decode b_Agenda_insert 61 = .ok (.aload_n 0, 1) := by decide +kernel
theorem d_Agenda_insert_62 : decode b_Agenda_insert 62 = .ok (.dup, 1) := by decide +kernel
theorem d_Agenda_insert_63 : decode b_Agenda_insert 63 = .ok (.getfield 17, 3) := by decide +kernel
theorem d_Agenda_insert_66 : decode b_Agenda_insert 66 = .ok (.iconst 1, 1) := by decide +kernel
theorem d_Agenda_insert_67 : decode b_Agenda_insert 67 = .ok (.iadd, 1) := by decide +kernel
theorem d_Agenda_insert_68 : decode b_Agenda_insert 68 = .ok (.putfield 17, 3) := by decide +kernel
theorem d_Agenda_insert_71 : decode b_Agenda_insert 71 = .ok (.aload_n 1, 1) := by decide +kernel
theorem d_Agenda_insert_72 : decode b_Agenda_insert 72 = .ok (.getfield 31, 3) := by decide +kernel
theorem d_Agenda_insert_75 : decode b_Agenda_insert 75 = .ok (.ifCond .ne 13, 3) := by decide +kernel
theorem d_Agenda_insert_78 : decode b_Agenda_insert 78 = .ok (.aload_n 0, 1) := by decide +kernel
theorem d_Agenda_insert_79 : decode b_Agenda_insert 79 = .ok (.dup, 1) := by decide +kernel
theorem d_Agenda_insert_80 : decode b_Agenda_insert 80 = .ok (.getfield 21, 3) := by decide +kernel
theorem d_Agenda_insert_83 : decode b_Agenda_insert 83 = .ok (.iconst 1, 1) := by decide +kernel
theorem d_Agenda_insert_84 : decode b_Agenda_insert 84 = .ok (.iadd, 1) := by decide +kernel
theorem d_Agenda_insert_85 : decode b_Agenda_insert 85 = .ok (.putfield 21, 3) := by decide +kernel
theorem d_Agenda_insert_88 : decode b_Agenda_insert 88 = .ok (.return_, 1) := by decide +kernel
theorem d_Agenda_isAfter_0 : decode b_Agenda_isAfter 0 = .ok (.aload_n 0, 1) := by decide +kernel
theorem d_Agenda_isAfter_1 : decode b_Agenda_isAfter 1 = .ok (.iload_n 1, 1) := by decide +kernel
theorem d_Agenda_isAfter_2 : decode b_Agenda_isAfter 2 = .ok (.invokevirtual 34, 3) := by decide +kernel
theorem d_Agenda_isAfter_5 : decode b_Agenda_isAfter 5 = .ok (.astore_n 3, 1) := by decide +kernel
theorem d_Agenda_isAfter_6 : decode b_Agenda_isAfter 6 = .ok (.aload_n 3, 1) := by decide +kernel
theorem d_Agenda_isAfter_7 : decode b_Agenda_isAfter 7 = .ok (.ifnull 15, 3) := by decide +kernel
theorem d_Agenda_isAfter_10 : decode b_Agenda_isAfter 10 = .ok (.aload_n 3, 1) := by decide +kernel
theorem d_Agenda_isAfter_11 : decode b_Agenda_isAfter 11 = .ok (.getfield 24, 3) := by decide +kernel
theorem d_Agenda_isAfter_14 : decode b_Agenda_isAfter 14 = .ok (.iload_n 2, 1) := by decide +kernel
theorem d_Agenda_isAfter_15 : decode b_Agenda_isAfter 15 = .ok (.if_icmp .le 7, 3) := by decide +kernel
theorem d_Agenda_isAfter_18 : decode b_Agenda_isAfter 18 = .ok (.iconst 1, 1) := by decide +kernel
theorem d_Agenda_isAfter_19 : decode b_Agenda_isAfter 19 = .ok (.goto 4, 3) := by decide +kernel
theorem d_Agenda_isAfter_22 : decode b_Agenda_isAfter 22 = .ok (.iconst 0, 1) := by decide +kernel
theorem d_Agenda_isAfter_23 : decode b_Agenda_isAfter 23 = .ok (.ireturn, 1) := by decide +kernel
theorem d_NetWires_alarm_0 : decode b_NetWires_alarm 0 = .ok (.iload_n 1, 1) := by decide +kernel
theorem d_NetWires_alarm_1 : decode b_NetWires_alarm 1 = .ok (.invokestatic 100, 3) := by decide +kernel
theorem d_NetWires_alarm_4 : decode b_NetWires_alarm 4 = .ok (.iload_n 2, 1) := by decide +kernel
theorem d_NetWires_alarm_5 : decode b_NetWires_alarm 5 = .ok (.ldc 120, 2) := by decide +kernel
theorem d_NetWires_alarm_7 : decode b_NetWires_alarm 7 = .ok (.invokestatic 121, 3) := by decide +kernel
theorem d_NetWires_alarm_10 : decode b_NetWires_alarm 10 = .ok (.aload_n 0, 1) := by decide +kernel
theorem d_NetWires_alarm_11 : decode b_NetWires_alarm 11 = .ok (.bipush 32, 2) := by decide +kernel
theorem d_NetWires_alarm_13 : decode b_NetWires_alarm 13 = .ok (.iload_n 1, 1) := by decide +kernel
theorem d_NetWires_alarm_14 : decode b_NetWires_alarm 14 = .ok (.iload_n 2, 1) := by decide +kernel
theorem d_NetWires_alarm_15 : decode b_NetWires_alarm 15 = .ok (.invokevirtual 125, 3) := by decide +kernel
theorem d_NetWires_alarm_18 : decode b_NetWires_alarm 18 = .ok (.ireturn, 1) := by decide +kernel
theorem d_NetWires_demandTicks_0 : decode b_NetWires_demandTicks 0 = .ok (.iload_n 0, 1) := by decide +kernel
theorem d_NetWires_demandTicks_1 : decode b_NetWires_demandTicks 1 = .ok (.iconst 0, 1) := by decide +kernel
theorem d_NetWires_demandTicks_2 : decode b_NetWires_demandTicks 2 = .ok (.iload_n 1, 1) := by decide +kernel
theorem d_NetWires_demandTicks_3 : decode b_NetWires_demandTicks 3 = .ok (.invokestatic 140, 3) := by decide +kernel
theorem d_NetWires_demandTicks_6 : decode b_NetWires_demandTicks 6 = .ok (.ifCond .ne 13, 3) := by decide +kernel
theorem d_NetWires_demandTicks_9 : decode b_NetWires_demandTicks 9 = .ok (.new 73, 3) := by decide +kernel
theorem d_NetWires_demandTicks_12 : decode b_NetWires_demandTicks 12 = .ok (.dup, 1) := by decide +kernel
theorem d_NetWires_demandTicks_13 : decode b_NetWires_demandTicks 13 = .ok (.ldc 214, 2) := by decide +kernel
theorem d_NetWires_demandTicks_15 : decode b_NetWires_demandTicks 15 = .ok (.invokespecial 77, 3) := by decide +kernel
theorem d_NetWires_demandTicks_18 : decode b_NetWires_demandTicks 18 = .ok (.athrow, 1) := by decide +kernel
theorem d_NetWires_demandTicks_19 : decode b_NetWires_demandTicks 19 = .ok (.return_, 1) := by decide +kernel
theorem d_NetWires_setTimer_0 : decode b_NetWires_setTimer 0 = .ok (.aload_n 0, 1) := by decide +kernel
theorem d_NetWires_setTimer_1 : decode b_NetWires_setTimer 1 = .ok (.iload_n 1, 1) := by decide +kernel
theorem d_NetWires_setTimer_2 : decode b_NetWires_setTimer 2 = .ok (.iload_n 2, 1) := by decide +kernel
theorem d_NetWires_setTimer_3 : decode b_NetWires_setTimer 3 = .ok (.invokevirtual 129, 3) := by decide +kernel
theorem d_NetWires_setTimer_6 : decode b_NetWires_setTimer 6 = .ok (.istore 4, 2) := by decide +kernel
theorem d_NetWires_setTimer_8 : decode b_NetWires_setTimer 8 = .ok (.aload_n 0, 1) := by decide +kernel
theorem d_NetWires_setTimer_9 : decode b_NetWires_setTimer 9 = .ok (.getfield 19, 3) := by decide +kernel
theorem d_NetWires_setTimer_12 : decode b_NetWires_setTimer 12 = .ok (.new 149, 3) := by decide +kernel
theorem d_NetWires_setTimer_15 : decode b_NetWires_setTimer 15 = .ok (.dup, 1) := by decide +kernel
theorem d_NetWires_setTimer_16 : decode b_NetWires_setTimer 16 = .ok (.iload_n 1, 1) := by decide +kernel
theorem d_NetWires_setTimer_17 : decode b_NetWires_setTimer 17 = .ok (.iload_n 2, 1) := by decide +kernel
theorem d_NetWires_setTimer_18 : decode b_NetWires_setTimer 18 = .ok (.iconst (-1), 1) := by decide +kernel
theorem d_NetWires_setTimer_19 : decode b_NetWires_setTimer 19 = .ok (.aload_n 0, 1) := by decide +kernel
theorem d_NetWires_setTimer_20 : decode b_NetWires_setTimer 20 = .ok (.getfield 47, 3) := by decide +kernel
theorem d_NetWires_setTimer_23 : decode b_NetWires_setTimer 23 = .ok (.iload_n 3, 1) := by decide +kernel
theorem d_NetWires_setTimer_24 : decode b_NetWires_setTimer 24 = .ok (.iadd, 1) := by decide +kernel
theorem d_NetWires_setTimer_25 : decode b_NetWires_setTimer 25 = .ok (.aload_n 0, 1) := by decide +kernel
theorem d_NetWires_setTimer_26 : decode b_NetWires_setTimer 26 = .ok (.invokevirtual 234, 3) := by decide +kernel
theorem d_NetWires_setTimer_29 : decode b_NetWires_setTimer 29 = .ok (.getstatic 66, 3) := by decide +kernel
theorem d_NetWires_setTimer_32 : decode b_NetWires_setTimer 32 = .ok (.invokespecial 238, 3) := by decide +kernel
theorem d_NetWires_setTimer_35 : decode b_NetWires_setTimer 35 = .ok (.invokevirtual 241, 3) := by decide +kernel
theorem d_NetWires_setTimer_38 : decode b_NetWires_setTimer 38 = .ok (.iload 4, 2) := by decide +kernel
theorem d_NetWires_setTimer_40 : decode b_NetWires_setTimer 40 = .ok (.ireturn, 1) := by decide +kernel
theorem d_NetWires_dropTimer_0 : decode b_NetWires_dropTimer 0 = .ok (.aload_n 0, 1) := by decide +kernel
theorem d_NetWires_dropTimer_1 : decode b_NetWires_dropTimer 1 = .ok (.getfield 19, 3) := by decide +kernel
theorem d_NetWires_dropTimer_4 : decode b_NetWires_dropTimer 4 = .ok (.aload_n 0, 1) := by decide +kernel
theorem d_NetWires_dropTimer_5 : decode b_NetWires_dropTimer 5 = .ok (.getfield 19, 3) := by decide +kernel
theorem d_NetWires_dropTimer_8 : decode b_NetWires_dropTimer 8 = .ok (.iload_n 1, 1) := by decide +kernel
theorem d_NetWires_dropTimer_9 : decode b_NetWires_dropTimer 9 = .ok (.iload_n 2, 1) := by decide +kernel
theorem d_NetWires_dropTimer_10 : decode b_NetWires_dropTimer 10 = .ok (.invokevirtual 203, 3) := by decide +kernel
theorem d_NetWires_dropTimer_13 : decode b_NetWires_dropTimer 13 = .ok (.invokevirtual 132, 3) := by decide +kernel
theorem d_NetWires_dropTimer_16 : decode b_NetWires_dropTimer 16 = .ok (.ifnull 7, 3) := by decide +kernel
theorem d_NetWires_dropTimer_19 : decode b_NetWires_dropTimer 19 = .ok (.iconst 1, 1) := by decide +kernel
theorem d_NetWires_dropTimer_20 : decode b_NetWires_dropTimer 20 = .ok (.goto 4, 3) := by decide +kernel
theorem d_NetWires_dropTimer_23 : decode b_NetWires_dropTimer 23 = .ok (.iconst 0, 1) := by decide +kernel
theorem d_NetWires_dropTimer_24 : decode b_NetWires_dropTimer 24 = .ok (.ireturn, 1) := by decide +kernel
theorem d_Agenda_placeOfTimer_0 : decode b_Agenda_placeOfTimer 0 = .ok (.iconst 0, 1) := by decide +kernel
theorem d_Agenda_placeOfTimer_1 : decode b_Agenda_placeOfTimer 1 = .ok (.istore_n 3, 1) := by decide +kernel
theorem d_Agenda_placeOfTimer_2 : decode b_Agenda_placeOfTimer 2 = .ok (.iload_n 3, 1) := by decide +kernel
theorem d_Agenda_placeOfTimer_3 : decode b_Agenda_placeOfTimer 3 = .ok (.aload_n 0, 1) := by decide +kernel
theorem d_Agenda_placeOfTimer_4 : decode b_Agenda_placeOfTimer 4 = .ok (.getfield 17, 3) := by decide +kernel
theorem d_Agenda_placeOfTimer_7 : decode b_Agenda_placeOfTimer 7 = .ok (.if_icmp .ge 41, 3) := by decide +kernel
theorem d_Agenda_placeOfTimer_10 : decode b_Agenda_placeOfTimer 10 = .ok (.aload_n 0, 1) := by decide +kernel
theorem d_Agenda_placeOfTimer_11 : decode b_Agenda_placeOfTimer 11 = .ok (.iload_n 3, 1) := by decide +kernel
theorem d_Agenda_placeOfTimer_12 : decode b_Agenda_placeOfTimer 12 = .ok (.invokevirtual 34, 3) := by decide +kernel
theorem d_Agenda_placeOfTimer_15 : decode b_Agenda_placeOfTimer 15 = .ok (.astore 4, 2) := by decide +kernel
theorem d_Agenda_placeOfTimer_17 : decode b_Agenda_placeOfTimer 17 = .ok (.aload 4, 2) := by decide +kernel
theorem d_Agenda_placeOfTimer_19 : decode b_Agenda_placeOfTimer 19 = .ok (.ifnull 23, 3) := by decide +kernel
theorem d_Agenda_placeOfTimer_22 : decode b_Agenda_placeOfTimer 22 = .ok (.aload 4, 2) := by decide +kernel
theorem d_Agenda_placeOfTimer_24 : decode b_Agenda_placeOfTimer 24 = .ok (.getfield 31, 3) := by decide +kernel
theorem d_Agenda_placeOfTimer_27 : decode b_Agenda_placeOfTimer 27 = .ok (.iload_n 1, 1) := by decide +kernel
theorem d_Agenda_placeOfTimer_28 : decode b_Agenda_placeOfTimer 28 = .ok (.if_icmp .ne 14, 3) := by decide +kernel
theorem d_Agenda_placeOfTimer_31 : decode b_Agenda_placeOfTimer 31 = .ok (.aload 4, 2) := by decide +kernel
theorem d_Agenda_placeOfTimer_33 : decode b_Agenda_placeOfTimer 33 = .ok (.getfield 38, 3) := by decide +kernel
theorem d_Agenda_placeOfTimer_36 : decode b_Agenda_placeOfTimer 36 = .ok (.iload_n 2, 1) := by decide +kernel
theorem d_Agenda_placeOfTimer_37 : decode b_Agenda_placeOfTimer 37 = .ok (.if_icmp .ne 5, 3) := by decide +kernel
theorem d_Agenda_placeOfTimer_40 : decode b_Agenda_placeOfTimer 40 = .ok (.iload_n 3, 1) := by decide +kernel
theorem d_Agenda_placeOfTimer_41 : decode b_Agenda_placeOfTimer 41 = .ok (.ireturn, 1) := by decide +kernel
theorem d_Agenda_placeOfTimer_42 : decode b_Agenda_placeOfTimer 42 = .ok (.iinc 3 1, 3) := by decide +kernel
theorem d_Agenda_placeOfTimer_45 : decode b_Agenda_placeOfTimer 45 = .ok (.goto (-43), 3) := by decide +kernel
theorem d_Agenda_placeOfTimer_48 : decode b_Agenda_placeOfTimer 48 = .ok (.iconst (-1), 1) := by decide +kernel
theorem d_Agenda_placeOfTimer_49 : decode b_Agenda_placeOfTimer 49 = .ok (.ireturn, 1) := by decide +kernel
theorem d_NetWires_noAlarm_0 : decode b_NetWires_noAlarm 0 = .ok (.iload_n 1, 1) := by decide +kernel
theorem d_NetWires_noAlarm_1 : decode b_NetWires_noAlarm 1 = .ok (.invokestatic 100, 3) := by decide +kernel
theorem d_NetWires_noAlarm_4 : decode b_NetWires_noAlarm 4 = .ok (.aload_n 0, 1) := by decide +kernel
theorem d_NetWires_noAlarm_5 : decode b_NetWires_noAlarm 5 = .ok (.bipush 32, 2) := by decide +kernel
theorem d_NetWires_noAlarm_7 : decode b_NetWires_noAlarm 7 = .ok (.iload_n 1, 1) := by decide +kernel
theorem d_NetWires_noAlarm_8 : decode b_NetWires_noAlarm 8 = .ok (.invokevirtual 129, 3) := by decide +kernel
theorem d_NetWires_noAlarm_11 : decode b_NetWires_noAlarm 11 = .ok (.ireturn, 1) := by decide +kernel
theorem d_NetWires_sync_0 : decode b_NetWires_sync 0 = .ok (.iload_n 1, 1) := by decide +kernel
theorem d_NetWires_sync_1 : decode b_NetWires_sync 1 = .ok (.invokestatic 100, 3) := by decide +kernel
theorem d_NetWires_sync_4 : decode b_NetWires_sync 4 = .ok (.iload_n 2, 1) := by decide +kernel
theorem d_NetWires_sync_5 : decode b_NetWires_sync 5 = .ok (.ldc 120, 2) := by decide +kernel
theorem d_NetWires_sync_7 : decode b_NetWires_sync 7 = .ok (.invokestatic 121, 3) := by decide +kernel
theorem d_NetWires_sync_10 : decode b_NetWires_sync 10 = .ok (.aload_n 0, 1) := by decide +kernel
theorem d_NetWires_sync_11 : decode b_NetWires_sync 11 = .ok (.bipush 48, 2) := by decide +kernel
theorem d_NetWires_sync_13 : decode b_NetWires_sync 13 = .ok (.iload_n 1, 1) := by decide +kernel
theorem d_NetWires_sync_14 : decode b_NetWires_sync 14 = .ok (.iload_n 2, 1) := by decide +kernel
theorem d_NetWires_sync_15 : decode b_NetWires_sync 15 = .ok (.invokevirtual 125, 3) := by decide +kernel
theorem d_NetWires_sync_18 : decode b_NetWires_sync 18 = .ok (.ireturn, 1) := by decide +kernel
theorem d_NetWires_noSync_0 : decode b_NetWires_noSync 0 = .ok (.iload_n 1, 1) := by decide +kernel
theorem d_NetWires_noSync_1 : decode b_NetWires_noSync 1 = .ok (.invokestatic 100, 3) := by decide +kernel
theorem d_NetWires_noSync_4 : decode b_NetWires_noSync 4 = .ok (.aload_n 0, 1) := by decide +kernel
theorem d_NetWires_noSync_5 : decode b_NetWires_noSync 5 = .ok (.bipush 48, 2) := by decide +kernel
theorem d_NetWires_noSync_7 : decode b_NetWires_noSync 7 = .ok (.iload_n 1, 1) := by decide +kernel
theorem d_NetWires_noSync_8 : decode b_NetWires_noSync 8 = .ok (.invokevirtual 129, 3) := by decide +kernel
theorem d_NetWires_noSync_11 : decode b_NetWires_noSync 11 = .ok (.ireturn, 1) := by decide +kernel
theorem d_NetWires_run_0 : decode b_NetWires_run 0 = .ok (.iload_n 1, 1) := by decide +kernel
theorem d_NetWires_run_1 : decode b_NetWires_run 1 = .ok (.iconst 1, 1) := by decide +kernel
theorem d_NetWires_run_2 : decode b_NetWires_run 2 = .ok (.sipush 1000, 3) := by decide +kernel
theorem d_NetWires_run_5 : decode b_NetWires_run 5 = .ok (.invokestatic 140, 3) := by decide +kernel
theorem d_NetWires_run_8 : decode b_NetWires_run 8 = .ok (.ifCond .ne 13, 3) := by decide +kernel
theorem d_NetWires_run_11 : decode b_NetWires_run 11 = .ok (.new 73, 3) := by decide +kernel
theorem d_NetWires_run_14 : decode b_NetWires_run 14 = .ok (.dup, 1) := by decide +kernel
theorem d_NetWires_run_15 : decode b_NetWires_run 15 = .ok (.ldc 143, 2) := by decide +kernel
theorem d_NetWires_run_17 : decode b_NetWires_run 17 = .ok (.invokespecial 77, 3) := by decide +kernel
theorem d_NetWires_run_20 : decode b_NetWires_run 20 = .ok (.athrow, 1) := by decide +kernel
theorem d_NetWires_run_21 : decode b_NetWires_run 21 = .ok (.aload_n 0, 1) := by decide +kernel
theorem d_NetWires_run_22 : decode b_NetWires_run 22 = .ok (.getfield 47, 3) := by decide +kernel
theorem d_NetWires_run_25 : decode b_NetWires_run 25 = .ok (.iload_n 1, 1) := by decide +kernel
theorem d_NetWires_run_26 : decode b_NetWires_run 26 = .ok (.iadd, 1) := by decide +kernel
theorem d_NetWires_run_27 : decode b_NetWires_run 27 = .ok (.istore_n 2, 1) := by decide +kernel
theorem d_NetWires_run_28 : decode b_NetWires_run 28 = .ok (.iconst 0, 1) := by decide +kernel
theorem d_NetWires_run_29 : decode b_NetWires_run 29 = .ok (.istore_n 3, 1) := by decide +kernel
theorem d_NetWires_run_30 : decode b_NetWires_run 30 = .ok (.iload_n 3, 1) := by decide +kernel
theorem d_NetWires_run_31 : decode b_NetWires_run 31 = .ok (.sipush 232, 3) := by decide +kernel
theorem d_NetWires_run_34 : decode b_NetWires_run 34 = .ok (.if_icmp .ge 52, 3) := by decide +kernel
theorem d_NetWires_run_37 : decode b_NetWires_run 37 = .ok (.aload_n 0, 1) := by decide +kernel
theorem d_NetWires_run_38 : decode b_NetWires_run 38 = .ok (.getfield 19, 3) := by decide +kernel
theorem d_NetWires_run_41 : decode b_NetWires_run 41 = .ok (.iconst 0, 1) := by decide +kernel
theorem d_NetWires_run_42 : decode b_NetWires_run 42 = .ok (.invokevirtual 145, 3) := by decide +kernel
theorem d_NetWires_run_45 : decode b_NetWires_run 45 = .ok (.astore 4, 2) := by decide +kernel
theorem d_NetWires_run_47 : decode b_NetWires_run 47 = .ok (.aload 4, 2) := by decide +kernel
theorem d_NetWires_run_49 : decode b_NetWires_run 49 = .ok (.ifnull 37, 3) := by decide +kernel
theorem d_NetWires_run_52 : decode b_NetWires_run 52 = .ok (.aload 4, 2) := by decide +kernel
theorem d_NetWires_run_54 : decode b_NetWires_run 54 = .ok (.getfield 148, 3) := by decide +kernel
theorem d_NetWires_run_57 : decode b_NetWires_run 57 = .ok (.iload_n 2, 1) := by decide +kernel
theorem d_NetWires_run_58 : decode b_NetWires_run 58 = .ok (.if_icmp .le 6, 3) := by decide +kernel
theorem d_NetWires_run_61 : decode b_NetWires_run 61 = .ok (.goto 25, 3) := by decide +kernel
theorem d_NetWires_run_64 : decode b_NetWires_run 64 = .ok (.aload_n 0, 1) := by decide +kernel
theorem d_NetWires_run_65 : decode b_NetWires_run 65 = .ok (.getfield 19, 3) := by decide +kernel
theorem d_NetWires_run_68 : decode b_NetWires_run 68 = .ok (.iconst 0, 1) := by decide +kernel
theorem d_NetWires_run_69 : decode b_NetWires_run 69 = .ok (.invokevirtual 132, 3) := by decide +kernel
theorem d_NetWires_run_72 : decode b_NetWires_run 72 = .ok (.pop, 1) := by decide +kernel
theorem d_NetWires_run_73 : decode b_NetWires_run 73 = .ok (.aload_n 0, 1) := by decide +kernel
theorem d_NetWires_run_74 : decode b_NetWires_run 74 = .ok (.aload 4, 2) := by decide +kernel
theorem d_NetWires_run_76 : decode b_NetWires_run 76 = .ok (.invokevirtual 136, 3) := by decide +kernel
theorem d_NetWires_run_79 : decode b_NetWires_run 79 = .ok (.pop, 1) := by decide +kernel
theorem d_NetWires_run_80 : decode b_NetWires_run 80 = .ok (.iinc 3 1, 3) := by decide +kernel
theorem d_NetWires_run_83 : decode b_NetWires_run 83 = .ok (.goto (-53), 3) := by decide +kernel
theorem d_NetWires_run_86 : decode b_NetWires_run 86 = .ok (.aload_n 0, 1) := by decide +kernel
theorem d_NetWires_run_87 : decode b_NetWires_run 87 = .ok (.iload_n 2, 1) := by decide +kernel
theorem d_NetWires_run_88 : decode b_NetWires_run 88 = .ok (.putfield 47, 3) := by decide +kernel
theorem d_NetWires_run_91 : decode b_NetWires_run 91 = .ok (.iload_n 3, 1) := by decide +kernel
theorem d_NetWires_run_92 : decode b_NetWires_run 92 = .ok (.ireturn, 1) := by decide +kernel
theorem d_NetWires_delay_0 : decode b_NetWires_delay 0 = .ok (.iload_n 1, 1) := by decide +kernel
theorem d_NetWires_delay_1 : decode b_NetWires_delay 1 = .ok (.invokestatic 100, 3) := by decide +kernel
theorem d_NetWires_delay_4 : decode b_NetWires_delay 4 = .ok (.iload_n 2, 1) := by decide +kernel
theorem d_NetWires_delay_5 : decode b_NetWires_delay 5 = .ok (.invokestatic 100, 3) := by decide +kernel
theorem d_NetWires_delay_8 : decode b_NetWires_delay 8 = .ok (.iload_n 3, 1) := by decide +kernel
theorem d_NetWires_delay_9 : decode b_NetWires_delay 9 = .ok (.sipush 1000, 3) := by decide +kernel
theorem d_NetWires_delay_12 : decode b_NetWires_delay 12 = .ok (.invokestatic 121, 3) := by decide +kernel
theorem d_NetWires_delay_15 : decode b_NetWires_delay 15 = .ok (.iload_n 1, 1) := by decide +kernel
theorem d_NetWires_delay_16 : decode b_NetWires_delay 16 = .ok (.iload_n 2, 1) := by decide +kernel
theorem d_NetWires_delay_17 : decode b_NetWires_delay 17 = .ok (.invokestatic 153, 3) := by decide +kernel
theorem d_NetWires_delay_20 : decode b_NetWires_delay 20 = .ok (.istore 4, 2) := by decide +kernel
theorem d_NetWires_delay_22 : decode b_NetWires_delay 22 = .ok (.aload_n 0, 1) := by decide +kernel
theorem d_NetWires_delay_23 : decode b_NetWires_delay 23 = .ok (.getfield 37, 3) := by decide +kernel
theorem d_NetWires_delay_26 : decode b_NetWires_delay 26 = .ok (.iload 4, 2) := by decide +kernel
theorem d_NetWires_delay_28 : decode b_NetWires_delay 28 = .ok (.iaload, 1) := by decide +kernel
theorem d_NetWires_delay_29 : decode b_NetWires_delay 29 = .ok (.istore 5, 2) := by decide +kernel
theorem d_NetWires_delay_31 : decode b_NetWires_delay 31 = .ok (.aload_n 0, 1) := by decide +kernel
theorem d_NetWires_delay_32 : decode b_NetWires_delay 32 = .ok (.getfield 37, 3) := by decide +kernel
theorem d_NetWires_delay_35 : decode b_NetWires_delay 35 = .ok (.iload 4, 2) := by decide +kernel
theorem d_NetWires_delay_37 : decode b_NetWires_delay 37 = .ok (.iload_n 3, 1) := by decide +kernel
theorem d_NetWires_delay_38 : decode b_NetWires_delay 38 = .ok (.iastore, 1) := by decide +kernel
theorem d_NetWires_delay_39 : decode b_NetWires_delay 39 = .ok (.iload 5, 2) := by decide +kernel
theorem d_NetWires_delay_41 : decode b_NetWires_delay 41 = .ok (.ireturn, 1) := by decide +kernel
theorem d_NetWires_part_0 : decode b_NetWires_part 0 = .ok (.iload_n 1, 1) := by decide +kernel
theorem d_NetWires_part_1 : decode b_NetWires_part 1 = .ok (.invokestatic 157, 3) := by decide +kernel
theorem d_NetWires_part_4 : decode b_NetWires_part 4 = .ok (.aload_n 0, 1) := by decide +kernel
theorem d_NetWires_part_5 : decode b_NetWires_part 5 = .ok (.getfield 54, 3) := by decide +kernel
theorem d_NetWires_part_8 : decode b_NetWires_part 8 = .ok (.istore_n 2, 1) := by decide +kernel
theorem d_NetWires_part_9 : decode b_NetWires_part 9 = .ok (.aload_n 0, 1) := by decide +kernel
theorem d_NetWires_part_10 : decode b_NetWires_part 10 = .ok (.iload_n 1, 1) := by decide +kernel
theorem d_NetWires_part_11 : decode b_NetWires_part 11 = .ok (.putfield 54, 3) := by decide +kernel
theorem d_NetWires_part_14 : decode b_NetWires_part 14 = .ok (.iload_n 2, 1) := by decide +kernel
theorem d_NetWires_part_15 : decode b_NetWires_part 15 = .ok (.ireturn, 1) := by decide +kernel
theorem d_NetWires_demandSet_0 : decode b_NetWires_demandSet 0 = .ok (.iload_n 0, 1) := by decide +kernel
theorem d_NetWires_demandSet_1 : decode b_NetWires_demandSet 1 = .ok (.iconst 0, 1) := by decide +kernel
theorem d_NetWires_demandSet_2 : decode b_NetWires_demandSet 2 = .ok (.ldc 216, 2) := by decide +kernel
theorem d_NetWires_demandSet_4 : decode b_NetWires_demandSet 4 = .ok (.invokestatic 140, 3) := by decide +kernel
theorem d_NetWires_demandSet_7 : decode b_NetWires_demandSet 7 = .ok (.ifCond .ne 13, 3) := by decide +kernel
theorem d_NetWires_demandSet_10 : decode b_NetWires_demandSet 10 = .ok (.new 73, 3) := by decide +kernel
theorem d_NetWires_demandSet_13 : decode b_NetWires_demandSet 13 = .ok (.dup, 1) := by decide +kernel
theorem d_NetWires_demandSet_14 : decode b_NetWires_demandSet 14 = .ok (.ldc 217, 2) := by decide +kernel
theorem d_NetWires_demandSet_16 : decode b_NetWires_demandSet 16 = .ok (.invokespecial 77, 3) := by decide +kernel
theorem d_NetWires_demandSet_19 : decode b_NetWires_demandSet 19 = .ok (.athrow, 1) := by decide +kernel
theorem d_NetWires_demandSet_20 : decode b_NetWires_demandSet 20 = .ok (.return_, 1) := by decide +kernel
theorem d_NetWires_down_0 : decode b_NetWires_down 0 = .ok (.iload_n 1, 1) := by decide +kernel
theorem d_NetWires_down_1 : decode b_NetWires_down 1 = .ok (.invokestatic 157, 3) := by decide +kernel
theorem d_NetWires_down_4 : decode b_NetWires_down 4 = .ok (.aload_n 0, 1) := by decide +kernel
theorem d_NetWires_down_5 : decode b_NetWires_down 5 = .ok (.getfield 57, 3) := by decide +kernel
theorem d_NetWires_down_8 : decode b_NetWires_down 8 = .ok (.istore_n 2, 1) := by decide +kernel
theorem d_NetWires_down_9 : decode b_NetWires_down 9 = .ok (.aload_n 0, 1) := by decide +kernel
theorem d_NetWires_down_10 : decode b_NetWires_down 10 = .ok (.iload_n 1, 1) := by decide +kernel
theorem d_NetWires_down_11 : decode b_NetWires_down 11 = .ok (.putfield 57, 3) := by decide +kernel
theorem d_NetWires_down_14 : decode b_NetWires_down 14 = .ok (.iload_n 2, 1) := by decide +kernel
theorem d_NetWires_down_15 : decode b_NetWires_down 15 = .ok (.ireturn, 1) := by decide +kernel
theorem d_NetWires_noise_0 : decode b_NetWires_noise 0 = .ok (.iload_n 1, 1) := by decide +kernel
theorem d_NetWires_noise_1 : decode b_NetWires_noise 1 = .ok (.iconst 0, 1) := by decide +kernel
theorem d_NetWires_noise_2 : decode b_NetWires_noise 2 = .ok (.sipush 1000, 3) := by decide +kernel
theorem d_NetWires_noise_5 : decode b_NetWires_noise 5 = .ok (.invokestatic 140, 3) := by decide +kernel
theorem d_NetWires_noise_8 : decode b_NetWires_noise 8 = .ok (.ifCond .eq 25, 3) := by decide +kernel
theorem d_NetWires_noise_11 : decode b_NetWires_noise 11 = .ok (.iload_n 2, 1) := by decide +kernel
theorem d_NetWires_noise_12 : decode b_NetWires_noise 12 = .ok (.iconst 0, 1) := by decide +kernel
theorem d_NetWires_noise_13 : decode b_NetWires_noise 13 = .ok (.sipush 1000, 3) := by decide +kernel
theorem d_NetWires_noise_16 : decode b_NetWires_noise 16 = .ok (.invokestatic 140, 3) := by decide +kernel
theorem d_NetWires_noise_19 : decode b_NetWires_noise 19 = .ok (.ifCond .eq 14, 3) := by decide +kernel
theorem d_NetWires_noise_22 : decode b_NetWires_noise 22 = .ok (.iload_n 3, 1) := by decide +kernel
theorem d_NetWires_noise_23 : decode b_NetWires_noise 23 = .ok (.iconst 0, 1) := by decide +kernel
theorem d_NetWires_noise_24 : decode b_NetWires_noise 24 = .ok (.sipush 1000, 3) := by decide +kernel
theorem d_NetWires_noise_27 : decode b_NetWires_noise 27 = .ok (.invokestatic 140, 3) := by decide +kernel
theorem d_NetWires_noise_30 : decode b_NetWires_noise 30 = .ok (.ifCond .ne 13, 3) := by decide +kernel
theorem d_NetWires_noise_33 : decode b_NetWires_noise 33 = .ok (.new 73, 3) := by decide +kernel
theorem d_NetWires_noise_36 : decode b_NetWires_noise 36 = .ok (.dup, 1) := by decide +kernel
theorem d_NetWires_noise_37 : decode b_NetWires_noise 37 = .ok (.ldc 160, 2) := by decide +kernel
theorem d_NetWires_noise_39 : decode b_NetWires_noise 39 = .ok (.invokespecial 77, 3) := by decide +kernel
theorem d_NetWires_noise_42 : decode b_NetWires_noise 42 = .ok (.athrow, 1) := by decide +kernel
theorem d_NetWires_noise_43 : decode b_NetWires_noise 43 = .ok (.aload_n 0, 1) := by decide +kernel
theorem d_NetWires_noise_44 : decode b_NetWires_noise 44 = .ok (.getfield 33, 3) := by decide +kernel
theorem d_NetWires_noise_47 : decode b_NetWires_noise 47 = .ok (.iload_n 1, 1) := by decide +kernel
theorem d_NetWires_noise_48 : decode b_NetWires_noise 48 = .ok (.iload_n 2, 1) := by decide +kernel
theorem d_NetWires_noise_49 : decode b_NetWires_noise 49 = .ok (.iload_n 3, 1) := by decide +kernel
theorem d_NetWires_noise_50 : decode b_NetWires_noise 50 = .ok (.lload 4, 2) := by decide +kernel
theorem d_NetWires_noise_52 : decode b_NetWires_noise 52 = .ok (.invokevirtual 162, 3) := by decide +kernel
theorem d_NetWires_noise_55 : decode b_NetWires_noise 55 = .ok (.return_, 1) := by decide +kernel
theorem d_Noise_set_0 : decode b_Noise_set 0 = .ok (.aload_n 0, 1) := by decide +kernel
theorem d_Noise_set_1 : decode b_Noise_set 1 = .ok (.iload_n 1, 1) := by decide +kernel
theorem d_Noise_set_2 : decode b_Noise_set 2 = .ok (.putfield 7, 3) := by decide +kernel
theorem d_Noise_set_5 : decode b_Noise_set 5 = .ok (.aload_n 0, 1) := by decide +kernel
theorem d_Noise_set_6 : decode b_Noise_set 6 = .ok (.iload_n 2, 1) := by decide +kernel
theorem d_Noise_set_7 : decode b_Noise_set 7 = .ok (.putfield 13, 3) := by decide +kernel
theorem d_Noise_set_10 : decode b_Noise_set 10 = .ok (.aload_n 0, 1) := by decide +kernel
theorem d_Noise_set_11 : decode b_Noise_set 11 = .ok (.iload_n 3, 1) := by decide +kernel
theorem d_Noise_set_12 : decode b_Noise_set 12 = .ok (.putfield 16, 3) := by decide +kernel
theorem d_Noise_set_15 : decode b_Noise_set 15 = .ok (.aload_n 0, 1) := by decide +kernel
theorem d_Noise_set_16 : decode b_Noise_set 16 = .ok (.lload 4, 2) := by decide +kernel
theorem d_Noise_set_18 : decode b_Noise_set 18 = .ok (.putfield 19, 3) := by decide +kernel
theorem d_Noise_set_21 : decode b_Noise_set 21 = .ok (.return_, 1) := by decide +kernel
theorem d_NetWires_meddle_0 : decode b_NetWires_meddle 0 = .ok (.iload_n 2, 1) := by decide +kernel
theorem d_NetWires_meddle_1 : decode b_NetWires_meddle 1 = .ok (.iload_n 3, 1) := by decide +kernel
theorem d_NetWires_meddle_2 : decode b_NetWires_meddle 2 = .ok (.invokestatic 166, 3) := by decide +kernel
theorem d_NetWires_meddle_5 : decode b_NetWires_meddle 5 = .ok (.ifCond .ne 13, 3) := by decide +kernel
theorem d_NetWires_meddle_8 : decode b_NetWires_meddle 8 = .ok (.new 73, 3) := by decide +kernel
theorem d_NetWires_meddle_11 : decode b_NetWires_meddle 11 = .ok (.dup, 1) := by decide +kernel
theorem d_NetWires_meddle_12 : decode b_NetWires_meddle 12 = .ok (.ldc 169, 2) := by decide +kernel
theorem d_NetWires_meddle_14 : decode b_NetWires_meddle 14 = .ok (.invokespecial 77, 3) := by decide +kernel
theorem d_NetWires_meddle_17 : decode b_NetWires_meddle 17 = .ok (.athrow, 1) := by decide +kernel
theorem d_NetWires_meddle_18 : decode b_NetWires_meddle 18 = .ok (.aload_n 0, 1) := by decide +kernel
theorem d_NetWires_meddle_19 : decode b_NetWires_meddle 19 = .ok (.getfield 19, 3) := by decide +kernel
theorem d_NetWires_meddle_22 : decode b_NetWires_meddle 22 = .ok (.iload_n 1, 1) := by decide +kernel
theorem d_NetWires_meddle_23 : decode b_NetWires_meddle 23 = .ok (.invokevirtual 171, 3) := by decide +kernel
theorem d_NetWires_meddle_26 : decode b_NetWires_meddle 26 = .ok (.istore 4, 2) := by decide +kernel
theorem d_NetWires_meddle_28 : decode b_NetWires_meddle 28 = .ok (.aload_n 0, 1) := by decide +kernel
theorem d_NetWires_meddle_29 : decode b_NetWires_meddle 29 = .ok (.getfield 19, 3) := by decide +kernel
theorem d_NetWires_meddle_32 : decode b_NetWires_meddle 32 = .ok (.iload 4, 2) := by decide +kernel
theorem d_NetWires_meddle_34 : decode b_NetWires_meddle 34 = .ok (.invokevirtual 145, 3) := by decide +kernel
theorem d_NetWires_meddle_37 : decode b_NetWires_meddle 37 = .ok (.astore 5, 2) := by decide +kernel
theorem d_NetWires_meddle_39 : decode b_NetWires_meddle 39 = .ok (.aload 5, 2) := by decide +kernel
theorem d_NetWires_meddle_41 : decode b_NetWires_meddle 41 = .ok (.ifnonnull 5, 3) := by decide +kernel
theorem d_NetWires_meddle_44 : decode b_NetWires_meddle 44 = .ok (.iconst 0, 1) := by decide +kernel
theorem d_NetWires_meddle_45 : decode b_NetWires_meddle 45 = .ok (.ireturn, 1) := by decide +kernel
theorem d_NetWires_meddle_46 : decode b_NetWires_meddle 46 = .ok (.iload_n 2, 1) := by decide +kernel
theorem d_NetWires_meddle_47 : decode b_NetWires_meddle 47 = .ok (.iconst 1, 1) := by decide +kernel
theorem d_NetWires_meddle_48 : decode b_NetWires_meddle 48 = .ok (.if_icmp .ne 26, 3) := by decide +kernel
theorem d_NetWires_meddle_51 : decode b_NetWires_meddle 51 = .ok (.aload_n 0, 1) := by decide +kernel
theorem d_NetWires_meddle_52 : decode b_NetWires_meddle 52 = .ok (.aload 5, 2) := by decide +kernel
theorem d_NetWires_meddle_54 : decode b_NetWires_meddle 54 = .ok (.getfield 175, 3) := by decide +kernel
theorem d_NetWires_meddle_57 : decode b_NetWires_meddle 57 = .ok (.aload 5, 2) := by decide +kernel
theorem d_NetWires_meddle_59 : decode b_NetWires_meddle 59 = .ok (.getfield 178, 3) := by decide +kernel
theorem d_NetWires_meddle_62 : decode b_NetWires_meddle 62 = .ok (.iconst 0, 1) := by decide +kernel
theorem d_NetWires_meddle_63 : decode b_NetWires_meddle 63 = .ok (.aload 5, 2) := by decide +kernel
theorem d_NetWires_meddle_65 : decode b_NetWires_meddle 65 = .ok (.getfield 181, 3) := by decide +kernel
theorem d_NetWires_meddle_68 : decode b_NetWires_meddle 68 = .ok (.invokevirtual 116, 3) := by decide +kernel
theorem d_NetWires_meddle_71 : decode b_NetWires_meddle 71 = .ok (.pop, 1) := by decide +kernel
theorem d_NetWires_meddle_72 : decode b_NetWires_meddle 72 = .ok (.iconst 1, 1) := by decide +kernel
theorem d_NetWires_meddle_73 : decode b_NetWires_meddle 73 = .ok (.ireturn, 1) := by decide +kernel
theorem d_NetWires_meddle_74 : decode b_NetWires_meddle 74 = .ok (.aload_n 0, 1) := by decide +kernel
theorem d_NetWires_meddle_75 : decode b_NetWires_meddle 75 = .ok (.getfield 19, 3) := by decide +kernel
theorem d_NetWires_meddle_78 : decode b_NetWires_meddle 78 = .ok (.iload 4, 2) := by decide +kernel
theorem d_NetWires_meddle_80 : decode b_NetWires_meddle 80 = .ok (.invokevirtual 132, 3) := by decide +kernel
theorem d_NetWires_meddle_83 : decode b_NetWires_meddle 83 = .ok (.pop, 1) := by decide +kernel
theorem d_NetWires_meddle_84 : decode b_NetWires_meddle 84 = .ok (.iload_n 2, 1) := by decide +kernel
theorem d_NetWires_meddle_85 : decode b_NetWires_meddle 85 = .ok (.ifCond .ne 16, 3) := by decide +kernel
theorem d_NetWires_meddle_88 : decode b_NetWires_meddle 88 = .ok (.aload_n 0, 1) := by decide +kernel
theorem d_NetWires_meddle_89 : decode b_NetWires_meddle 89 = .ok (.dup, 1) := by decide +kernel
theorem d_NetWires_meddle_90 : decode b_NetWires_meddle 90 = .ok (.getfield 63, 3) := by decide +kernel
theorem d_NetWires_meddle_93 : decode b_NetWires_meddle 93 = .ok (.iconst 1, 1) := by decide +kernel
theorem d_NetWires_meddle_94 : decode b_NetWires_meddle 94 = .ok (.iadd, 1) := by decide +kernel
theorem d_NetWires_meddle_95 : decode b_NetWires_meddle 95 = .ok (.putfield 63, 3) := by decide +kernel
theorem d_NetWires_meddle_98 : decode b_NetWires_meddle 98 = .ok (.goto 29, 3) := by decide +kernel
theorem d_NetWires_meddle_101 : decode b_NetWires_meddle 101 = .ok (.aload_n 0, 1) := by decide +kernel
theorem d_NetWires_meddle_102 : decode b_NetWires_meddle 102 = .ok (.aload 5, 2) := by decide +kernel
theorem d_NetWires_meddle_104 : decode b_NetWires_meddle 104 = .ok (.getfield 175, 3) := by decide +kernel
theorem d_NetWires_meddle_107 : decode b_NetWires_meddle 107 = .ok (.aload 5, 2) := by decide +kernel
theorem d_NetWires_meddle_109 : decode b_NetWires_meddle 109 = .ok (.getfield 178, 3) := by decide +kernel
theorem d_NetWires_meddle_112 : decode b_NetWires_meddle 112 = .ok (.aload 5, 2) := by decide +kernel
theorem d_NetWires_meddle_114 : decode b_NetWires_meddle 114 = .ok (.getfield 148, 3) := by decide +kernel
theorem d_NetWires_meddle_117 : decode b_NetWires_meddle 117 = .ok (.iload_n 3, 1) := by decide +kernel
theorem d_NetWires_meddle_118 : decode b_NetWires_meddle 118 = .ok (.iadd, 1) := by decide +kernel
theorem d_NetWires_meddle_119 : decode b_NetWires_meddle 119 = .ok (.aload 5, 2) := by decide +kernel
theorem d_NetWires_meddle_121 : decode b_NetWires_meddle 121 = .ok (.getfield 181, 3) := by decide +kernel
theorem d_NetWires_meddle_124 : decode b_NetWires_meddle 124 = .ok (.invokevirtual 184, 3) := by decide +kernel
theorem d_NetWires_meddle_127 : decode b_NetWires_meddle 127 = .ok (.iconst 1, 1) := by decide +kernel
theorem d_NetWires_meddle_128 : decode b_NetWires_meddle 128 = .ok (.ireturn, 1) := by decide +kernel
theorem d_NetWires_canMeddle_0 : decode b_NetWires_canMeddle 0 = .ok (.iload_n 0, 1) := by decide +kernel
theorem d_NetWires_canMeddle_1 : decode b_NetWires_canMeddle 1 = .ok (.iconst 2, 1) := by decide +kernel
theorem d_NetWires_canMeddle_2 : decode b_NetWires_canMeddle 2 = .ok (.if_icmp .ne 12, 3) := by decide +kernel
theorem d_NetWires_canMeddle_5 : decode b_NetWires_canMeddle 5 = .ok (.iload_n 1, 1) := by decide +kernel
theorem d_NetWires_canMeddle_6 : decode b_NetWires_canMeddle 6 = .ok (.iconst 0, 1) := by decide +kernel
theorem d_NetWires_canMeddle_7 : decode b_NetWires_canMeddle 7 = .ok (.sipush 1000, 3) := by decide +kernel
theorem d_NetWires_canMeddle_10 : decode b_NetWires_canMeddle 10 = .ok (.invokestatic 140, 3) := by decide +kernel
theorem d_NetWires_canMeddle_13 : decode b_NetWires_canMeddle 13 = .ok (.ireturn, 1) := by decide +kernel
theorem d_NetWires_canMeddle_14 : decode b_NetWires_canMeddle 14 = .ok (.iload_n 0, 1) := by decide +kernel
theorem d_NetWires_canMeddle_15 : decode b_NetWires_canMeddle 15 = .ok (.ifCond .eq 8, 3) := by decide +kernel
theorem d_NetWires_canMeddle_18 : decode b_NetWires_canMeddle 18 = .ok (.iload_n 0, 1) := by decide +kernel
theorem d_NetWires_canMeddle_19 : decode b_NetWires_canMeddle 19 = .ok (.iconst 1, 1) := by decide +kernel
theorem d_NetWires_canMeddle_20 : decode b_NetWires_canMeddle 20 = .ok (.if_icmp .ne 11, 3) := by decide +kernel
theorem d_NetWires_canMeddle_23 : decode b_NetWires_canMeddle 23 = .ok (.iload_n 1, 1) := by decide +kernel
theorem d_NetWires_canMeddle_24 : decode b_NetWires_canMeddle 24 = .ok (.ifCond .ne 7, 3) := by decide +kernel
theorem d_NetWires_canMeddle_27 : decode b_NetWires_canMeddle 27 = .ok (.iconst 1, 1) := by decide +kernel
theorem d_NetWires_canMeddle_28 : decode b_NetWires_canMeddle 28 = .ok (.goto 4, 3) := by decide +kernel
theorem d_NetWires_canMeddle_31 : decode b_NetWires_canMeddle 31 = .ok (.iconst 0, 1) := by decide +kernel
theorem d_NetWires_canMeddle_32 : decode b_NetWires_canMeddle 32 = .ok (.ireturn, 1) := by decide +kernel
theorem d_NetWires_messageAt_0 : decode b_NetWires_messageAt 0 = .ok (.aload_n 0, 1) := by decide +kernel
theorem d_NetWires_messageAt_1 : decode b_NetWires_messageAt 1 = .ok (.getfield 19, 3) := by decide +kernel
theorem d_NetWires_messageAt_4 : decode b_NetWires_messageAt 4 = .ok (.aload_n 0, 1) := by decide +kernel
theorem d_NetWires_messageAt_5 : decode b_NetWires_messageAt 5 = .ok (.getfield 19, 3) := by decide +kernel
theorem d_NetWires_messageAt_8 : decode b_NetWires_messageAt 8 = .ok (.iload_n 1, 1) := by decide +kernel
theorem d_NetWires_messageAt_9 : decode b_NetWires_messageAt 9 = .ok (.invokevirtual 171, 3) := by decide +kernel
theorem d_NetWires_messageAt_12 : decode b_NetWires_messageAt 12 = .ok (.invokevirtual 145, 3) := by decide +kernel
theorem d_NetWires_messageAt_15 : decode b_NetWires_messageAt 15 = .ok (.astore_n 3, 1) := by decide +kernel
theorem d_NetWires_messageAt_16 : decode b_NetWires_messageAt 16 = .ok (.aload_n 3, 1) := by decide +kernel
theorem d_NetWires_messageAt_17 : decode b_NetWires_messageAt 17 = .ok (.ifnonnull 13, 3) := by decide +kernel
theorem d_NetWires_messageAt_20 : decode b_NetWires_messageAt 20 = .ok (.new 191, 3) := by decide +kernel
theorem d_NetWires_messageAt_23 : decode b_NetWires_messageAt 23 = .ok (.dup, 1) := by decide +kernel
theorem d_NetWires_messageAt_24 : decode b_NetWires_messageAt 24 = .ok (.ldc 193, 2) := by decide +kernel
theorem d_NetWires_messageAt_26 : decode b_NetWires_messageAt 26 = .ok (.invokespecial 195, 3) := by decide +kernel
theorem d_NetWires_messageAt_29 : decode b_NetWires_messageAt 29 = .ok (.athrow, 1) := by decide +kernel
theorem d_NetWires_messageAt_30 : decode b_NetWires_messageAt 30 = .ok (.iload_n 2, 1) := by decide +kernel
theorem d_NetWires_messageAt_31 : decode b_NetWires_messageAt 31 = .ok (.ifCond .lt 12, 3) := by decide +kernel
theorem d_NetWires_messageAt_34 : decode b_NetWires_messageAt 34 = .ok (.iload_n 2, 1) := by decide +kernel
theorem d_NetWires_messageAt_35 : decode b_NetWires_messageAt 35 = .ok (.aload_n 3, 1) := by decide +kernel
theorem d_NetWires_messageAt_36 : decode b_NetWires_messageAt 36 = .ok (.getfield 181, 3) := by decide +kernel
theorem d_NetWires_messageAt_39 : decode b_NetWires_messageAt 39 = .ok (.arraylength, 1) := by decide +kernel
theorem d_NetWires_messageAt_40 : decode b_NetWires_messageAt 40 = .ok (.if_icmp .lt 13, 3) := by decide +kernel
theorem d_NetWires_messageAt_43 : decode b_NetWires_messageAt 43 = .ok (.new 191, 3) := by decide +kernel
theorem d_NetWires_messageAt_46 : decode b_NetWires_messageAt 46 = .ok (.dup, 1) := by decide +kernel
theorem d_NetWires_messageAt_47 : decode b_NetWires_messageAt 47 = .ok (.ldc 196, 2) := by decide +kernel
theorem d_NetWires_messageAt_49 : decode b_NetWires_messageAt 49 = .ok (.invokespecial 195, 3) := by decide +kernel
theorem d_NetWires_messageAt_52 : decode b_NetWires_messageAt 52 = .ok (.athrow, 1) := by decide +kernel
theorem d_NetWires_messageAt_53 : decode b_NetWires_messageAt 53 = .ok (.aload_n 3, 1) := by decide +kernel
theorem d_NetWires_messageAt_54 : decode b_NetWires_messageAt 54 = .ok (.getfield 181, 3) := by decide +kernel
theorem d_NetWires_messageAt_57 : decode b_NetWires_messageAt 57 = .ok (.iload_n 2, 1) := by decide +kernel
theorem d_NetWires_messageAt_58 : decode b_NetWires_messageAt 58 = .ok (.baload, 1) := by decide +kernel
theorem d_NetWires_messageAt_59 : decode b_NetWires_messageAt 59 = .ok (.sipush 255, 3) := by decide +kernel
theorem d_NetWires_messageAt_62 : decode b_NetWires_messageAt 62 = .ok (.iand, 1) := by decide +kernel
theorem d_NetWires_messageAt_63 : decode b_NetWires_messageAt 63 = .ok (.ireturn, 1) := by decide +kernel
theorem d_NetWires_byteAt_0 : decode b_NetWires_byteAt 0 = .ok (.iload_n 1, 1) := by decide +kernel
theorem d_NetWires_byteAt_1 : decode b_NetWires_byteAt 1 = .ok (.ifCond .lt 12, 3) := by decide +kernel
theorem d_NetWires_byteAt_4 : decode b_NetWires_byteAt 4 = .ok (.iload_n 1, 1) := by decide +kernel
theorem d_NetWires_byteAt_5 : decode b_NetWires_byteAt 5 = .ok (.aload_n 0, 1) := by decide +kernel
theorem d_NetWires_byteAt_6 : decode b_NetWires_byteAt 6 = .ok (.getfield 70, 3) := by decide +kernel
theorem d_NetWires_byteAt_9 : decode b_NetWires_byteAt 9 = .ok (.arraylength, 1) := by decide +kernel
theorem d_NetWires_byteAt_10 : decode b_NetWires_byteAt 10 = .ok (.if_icmp .lt 13, 3) := by decide +kernel
theorem d_NetWires_byteAt_13 : decode b_NetWires_byteAt 13 = .ok (.new 191, 3) := by decide +kernel
theorem d_NetWires_byteAt_16 : decode b_NetWires_byteAt 16 = .ok (.dup, 1) := by decide +kernel
theorem d_NetWires_byteAt_17 : decode b_NetWires_byteAt 17 = .ok (.ldc 196, 2) := by decide +kernel
theorem d_NetWires_byteAt_19 : decode b_NetWires_byteAt 19 = .ok (.invokespecial 195, 3) := by decide +kernel
theorem d_NetWires_byteAt_22 : decode b_NetWires_byteAt 22 = .ok (.athrow, 1) := by decide +kernel
theorem d_NetWires_byteAt_23 : decode b_NetWires_byteAt 23 = .ok (.aload_n 0, 1) := by decide +kernel
theorem d_NetWires_byteAt_24 : decode b_NetWires_byteAt 24 = .ok (.getfield 70, 3) := by decide +kernel
theorem d_NetWires_byteAt_27 : decode b_NetWires_byteAt 27 = .ok (.iload_n 1, 1) := by decide +kernel
theorem d_NetWires_byteAt_28 : decode b_NetWires_byteAt 28 = .ok (.baload, 1) := by decide +kernel
theorem d_NetWires_byteAt_29 : decode b_NetWires_byteAt 29 = .ok (.sipush 255, 3) := by decide +kernel
theorem d_NetWires_byteAt_32 : decode b_NetWires_byteAt 32 = .ok (.iand, 1) := by decide +kernel
theorem d_NetWires_byteAt_33 : decode b_NetWires_byteAt 33 = .ok (.ireturn, 1) := by decide +kernel
theorem d_NetWires_when_0 : decode b_NetWires_when 0 = .ok (.iload_n 1, 1) := by decide +kernel
theorem d_NetWires_when_1 : decode b_NetWires_when 1 = .ok (.invokestatic 100, 3) := by decide +kernel
theorem d_NetWires_when_4 : decode b_NetWires_when 4 = .ok (.iload_n 2, 1) := by decide +kernel
theorem d_NetWires_when_5 : decode b_NetWires_when 5 = .ok (.ifCond .eq 18, 3) := by decide +kernel
theorem d_NetWires_when_8 : decode b_NetWires_when 8 = .ok (.iload_n 2, 1) := by decide +kernel
theorem d_NetWires_when_9 : decode b_NetWires_when 9 = .ok (.iconst 1, 1) := by decide +kernel
theorem d_NetWires_when_10 : decode b_NetWires_when 10 = .ok (.if_icmp .eq 13, 3) := by decide +kernel
theorem d_NetWires_when_13 : decode b_NetWires_when 13 = .ok (.new 191, 3) := by decide +kernel
theorem d_NetWires_when_16 : decode b_NetWires_when 16 = .ok (.dup, 1) := by decide +kernel
theorem d_NetWires_when_17 : decode b_NetWires_when 17 = .ok (.ldc 201, 2) := by decide +kernel
theorem d_NetWires_when_19 : decode b_NetWires_when 19 = .ok (.invokespecial 195, 3) := by decide +kernel
theorem d_NetWires_when_22 : decode b_NetWires_when 22 = .ok (.athrow, 1) := by decide +kernel
theorem d_NetWires_when_23 : decode b_NetWires_when 23 = .ok (.aload_n 0, 1) := by decide +kernel
theorem d_NetWires_when_24 : decode b_NetWires_when 24 = .ok (.getfield 19, 3) := by decide +kernel
theorem d_NetWires_when_27 : decode b_NetWires_when 27 = .ok (.aload_n 0, 1) := by decide +kernel
theorem d_NetWires_when_28 : decode b_NetWires_when 28 = .ok (.getfield 19, 3) := by decide +kernel
theorem d_NetWires_when_31 : decode b_NetWires_when 31 = .ok (.iload_n 2, 1) := by decide +kernel
theorem d_NetWires_when_32 : decode b_NetWires_when 32 = .ok (.ifCond .ne 8, 3) := by decide +kernel
theorem d_NetWires_when_35 : decode b_NetWires_when 35 = .ok (.bipush 32, 2) := by decide +kernel
theorem d_NetWires_when_37 : decode b_NetWires_when 37 = .ok (.goto 5, 3) := by decide +kernel
theorem d_NetWires_when_40 : decode b_NetWires_when 40 = .ok (.bipush 48, 2) := by decide +kernel
theorem d_NetWires_when_42 : decode b_NetWires_when 42 = .ok (.iload_n 1, 1) := by decide +kernel
theorem d_NetWires_when_43 : decode b_NetWires_when 43 = .ok (.invokevirtual 203, 3) := by decide +kernel
theorem d_NetWires_when_46 : decode b_NetWires_when 46 = .ok (.invokevirtual 145, 3) := by decide +kernel
theorem d_NetWires_when_49 : decode b_NetWires_when 49 = .ok (.astore_n 3, 1) := by decide +kernel
theorem d_NetWires_when_50 : decode b_NetWires_when 50 = .ok (.aload_n 3, 1) := by decide +kernel
theorem d_NetWires_when_51 : decode b_NetWires_when 51 = .ok (.ifnonnull 7, 3) := by decide +kernel
theorem d_NetWires_when_54 : decode b_NetWires_when 54 = .ok (.iconst (-1), 1) := by decide +kernel
theorem d_NetWires_when_55 : decode b_NetWires_when 55 = .ok (.goto 7, 3) := by decide +kernel
theorem d_NetWires_when_58 : decode b_NetWires_when 58 = .ok (.aload_n 3, 1) := by decide +kernel
theorem d_NetWires_when_59 : decode b_NetWires_when 59 = .ok (.getfield 148, 3) := by decide +kernel
theorem d_NetWires_when_62 : decode b_NetWires_when 62 = .ok (.ireturn, 1) := by decide +kernel
end
section
theorem d_M_init_0 : decode b_M_init 0 = .ok (.aload_n 0, 1) := by decide +kernel
theorem d_M_init_1 : decode b_M_init 1 = .ok (.invokespecial 1, 3) := by decide +kernel
theorem d_M_init_4 : decode b_M_init 4 = .ok (.aload_n 0, 1) := by decide +kernel
theorem d_M_init_5 : decode b_M_init 5 = .ok (.sipush 1700, 3) := by decide +kernel
theorem d_M_init_8 : decode b_M_init 8 = .ok (.newarray .int, 2) := by decide +kernel
theorem d_M_init_10 : decode b_M_init 10 = .ok (.putfield 7, 3) := by decide +kernel
theorem d_M_init_13 : decode b_M_init 13 = .ok (.aload_n 0, 1) := by decide +kernel
theorem d_M_init_14 : decode b_M_init 14 = .ok (.sipush 1700, 3) := by decide +kernel
theorem d_M_init_17 : decode b_M_init 17 = .ok (.newarray .int, 2) := by decide +kernel
theorem d_M_init_19 : decode b_M_init 19 = .ok (.putfield 13, 3) := by decide +kernel
theorem d_M_init_22 : decode b_M_init 22 = .ok (.aload_n 0, 1) := by decide +kernel
theorem d_M_init_23 : decode b_M_init 23 = .ok (.sipush 1700, 3) := by decide +kernel
theorem d_M_init_26 : decode b_M_init 26 = .ok (.newarray .int, 2) := by decide +kernel
theorem d_M_init_28 : decode b_M_init 28 = .ok (.putfield 16, 3) := by decide +kernel
theorem d_M_init_31 : decode b_M_init 31 = .ok (.aload_n 0, 1) := by decide +kernel
theorem d_M_init_32 : decode b_M_init 32 = .ok (.sipush 1700, 3) := by decide +kernel
theorem d_M_init_35 : decode b_M_init 35 = .ok (.newarray .int, 2) := by decide +kernel
theorem d_M_init_37 : decode b_M_init 37 = .ok (.putfield 19, 3) := by decide +kernel
theorem d_M_init_40 : decode b_M_init 40 = .ok (.aload_n 0, 1) := by decide +kernel
theorem d_M_init_41 : decode b_M_init 41 = .ok (.sipush 1700, 3) := by decide +kernel
theorem d_M_init_44 : decode b_M_init 44 = .ok (.newarray .int, 2) := by decide +kernel
theorem d_M_init_46 : decode b_M_init 46 = .ok (.putfield 22, 3) := by decide +kernel
theorem d_M_init_49 : decode b_M_init 49 = .ok (.aload_n 0, 1) := by decide +kernel
theorem d_M_init_50 : decode b_M_init 50 = .ok (.sipush 1700, 3) := by decide +kernel
theorem d_M_init_53 : decode b_M_init 53 = .ok (.newarray .int, 2) := by decide +kernel
theorem d_M_init_55 : decode b_M_init 55 = .ok (.putfield 25, 3) := by decide +kernel
theorem d_M_init_58 : decode b_M_init 58 = .ok (.aload_n 0, 1) := by decide +kernel
theorem d_M_init_59 : decode b_M_init 59 = .ok (.sipush 1700, 3) := by decide +kernel
theorem d_M_init_62 : decode b_M_init 62 = .ok (.newarray .boolean, 2) := by decide +kernel
theorem d_M_init_64 : decode b_M_init 64 = .ok (.putfield 28, 3) := by decide +kernel
theorem d_M_init_67 : decode b_M_init 67 = .ok (.aload_n 0, 1) := by decide +kernel
theorem d_M_init_68 : decode b_M_init 68 = .ok (.sipush 4200, 3) := by decide +kernel
theorem d_M_init_71 : decode b_M_init 71 = .ok (.newarray .int, 2) := by decide +kernel
theorem d_M_init_73 : decode b_M_init 73 = .ok (.putfield 32, 3) := by decide +kernel
theorem d_M_init_76 : decode b_M_init 76 = .ok (.aload_n 0, 1) := by decide +kernel
theorem d_M_init_77 : decode b_M_init 77 = .ok (.sipush 2048, 3) := by decide +kernel
theorem d_M_init_80 : decode b_M_init 80 = .ok (.newarray .int, 2) := by decide +kernel
theorem d_M_init_82 : decode b_M_init 82 = .ok (.putfield 35, 3) := by decide +kernel
theorem d_M_init_85 : decode b_M_init 85 = .ok (.aload_n 0, 1) := by decide +kernel
theorem d_M_init_86 : decode b_M_init 86 = .ok (.sipush 256, 3) := by decide +kernel
theorem d_M_init_89 : decode b_M_init 89 = .ok (.newarray .int, 2) := by decide +kernel
theorem d_M_init_91 : decode b_M_init 91 = .ok (.putfield 38, 3) := by decide +kernel
theorem d_M_init_94 : decode b_M_init 94 = .ok (.aload_n 0, 1) := by decide +kernel
theorem d_M_init_95 : decode b_M_init 95 = .ok (.bipush 32, 2) := by decide +kernel
theorem d_M_init_97 : decode b_M_init 97 = .ok (.newarray .int, 2) := by decide +kernel
theorem d_M_init_99 : decode b_M_init 99 = .ok (.putfield 41, 3) := by decide +kernel
theorem d_M_init_102 : decode b_M_init 102 = .ok (.aload_n 0, 1) := by decide +kernel
theorem d_M_init_103 : decode b_M_init 103 = .ok (.bipush 32, 2) := by decide +kernel
theorem d_M_init_105 : decode b_M_init 105 = .ok (.newarray .int, 2) := by decide +kernel
theorem d_M_init_107 : decode b_M_init 107 = .ok (.putfield 44, 3) := by decide +kernel
theorem d_M_init_110 : decode b_M_init 110 = .ok (.aload_n 0, 1) := by decide +kernel
theorem d_M_init_111 : decode b_M_init 111 = .ok (.iconst (-1), 1) := by decide +kernel
theorem d_M_init_112 : decode b_M_init 112 = .ok (.putfield 47, 3) := by decide +kernel
theorem d_M_init_115 : decode b_M_init 115 = .ok (.iconst 0, 1) := by decide +kernel
theorem d_M_init_116 : decode b_M_init 116 = .ok (.istore_n 1, 1) := by decide +kernel
theorem d_M_init_117 : decode b_M_init 117 = .ok (.iload_n 1, 1) := by decide +kernel
theorem d_M_init_118 : decode b_M_init 118 = .ok (.sipush 256, 3) := by decide +kernel
theorem d_M_init_121 : decode b_M_init 121 = .ok (.if_icmp .ge 16, 3) := by decide +kernel
theorem d_M_init_124 : decode b_M_init 124 = .ok (.aload_n 0, 1) := by decide +kernel
theorem d_M_init_125 : decode b_M_init 125 = .ok (.getfield 38, 3) := by decide +kernel
theorem d_M_init_128 : decode b_M_init 128 = .ok (.iload_n 1, 1) := by decide +kernel
theorem d_M_init_129 : decode b_M_init 129 = .ok (.iconst 3, 1) := by decide +kernel
theorem d_M_init_130 : decode b_M_init 130 = .ok (.iastore, 1) := by decide +kernel
theorem d_M_init_131 : decode b_M_init 131 = .ok (.iinc 1 1, 3) := by decide +kernel
theorem d_M_init_134 : decode b_M_init 134 = .ok (.goto (-17), 3) := by decide +kernel
theorem d_M_init_137 : decode b_M_init 137 = .ok (.return_, 1) := by decide +kernel
theorem d_M_thrown_0 : decode b_M_thrown 0 = .ok (.aload_n 0, 1) := by decide +kernel
theorem d_M_thrown_1 : decode b_M_thrown 1 = .ok (.getfield 51, 3) := by decide +kernel
theorem d_M_thrown_4 : decode b_M_thrown 4 = .ok (.ireturn, 1) := by decide +kernel
theorem d_M_feed_0 : decode b_M_feed 0 = .ok (.aload_n 0, 1) := by decide +kernel
theorem d_M_feed_1 : decode b_M_feed 1 = .ok (.iconst 0, 1) := by decide +kernel
theorem d_M_feed_2 : decode b_M_feed 2 = .ok (.putfield 51, 3) := by decide +kernel
theorem d_M_feed_5 : decode b_M_feed 5 = .ok (.iload_n 3, 1) := by decide +kernel
theorem d_M_feed_6 : decode b_M_feed 6 = .ok (.iconst 1, 1) := by decide +kernel
theorem d_M_feed_7 : decode b_M_feed 7 = .ok (.bipush 8, 2) := by decide +kernel
theorem d_M_feed_9 : decode b_M_feed 9 = .ok (.invokestatic 54, 3) := by decide +kernel
theorem d_M_feed_12 : decode b_M_feed 12 = .ok (.ifCond .ne 9, 3) := by decide +kernel
theorem d_M_feed_15 : decode b_M_feed 15 = .ok (.aload_n 0, 1) := by decide +kernel
theorem d_M_feed_16 : decode b_M_feed 16 = .ok (.iconst 1, 1) := by decide +kernel
theorem d_M_feed_17 : decode b_M_feed 17 = .ok (.invokevirtual 58, 3) := by decide +kernel
theorem d_M_feed_20 : decode b_M_feed 20 = .ok (.ireturn, 1) := by decide +kernel
theorem d_M_feed_21 : decode b_M_feed 21 = .ok (.aload_n 0, 1) := by decide +kernel
theorem d_M_feed_22 : decode b_M_feed 22 = .ok (.getfield 62, 3) := by decide +kernel
theorem d_M_feed_25 : decode b_M_feed 25 = .ok (.iload_n 3, 1) := by decide +kernel
theorem d_M_feed_26 : decode b_M_feed 26 = .ok (.iadd, 1) := by decide +kernel
theorem d_M_feed_27 : decode b_M_feed 27 = .ok (.sipush 2048, 3) := by decide +kernel
theorem d_M_feed_30 : decode b_M_feed 30 = .ok (.if_icmp .le 9, 3) := by decide +kernel
theorem d_M_feed_33 : decode b_M_feed 33 = .ok (.aload_n 0, 1) := by decide +kernel
theorem d_M_feed_34 : decode b_M_feed 34 = .ok (.iconst 2, 1) := by decide +kernel
theorem d_M_feed_35 : decode b_M_feed 35 = .ok (.invokevirtual 58, 3) := by decide +kernel
theorem d_M_feed_38 : decode b_M_feed 38 = .ok (.ireturn, 1) := by decide +kernel
theorem d_M_feed_39 : decode b_M_feed 39 = .ok (.iconst 0, 1) := by decide +kernel
theorem d_M_feed_40 : decode b_M_feed 40 = .ok (.istore 4, 2) := by decide +kernel
theorem d_M_feed_42 : decode b_M_feed 42 = .ok (.iload 4, 2) := by decide +kernel
theorem d_M_feed_44 : decode b_M_feed 44 = .ok (.iload_n 3, 1) := by decide +kernel
theorem d_M_feed_45 : decode b_M_feed 45 = .ok (.if_icmp .ge 33, 3) := by decide +kernel
theorem d_M_feed_48 : decode b_M_feed 48 = .ok (.aload_n 0, 1) := by decide +kernel
theorem d_M_feed_49 : decode b_M_feed 49 = .ok (.getfield 35, 3) := by decide +kernel
theorem d_M_feed_52 : decode b_M_feed 52 = .ok (.aload_n 0, 1) := by decide +kernel
theorem d_M_feed_53 : decode b_M_feed 53 = .ok (.getfield 62, 3) := by decide +kernel
theorem d_M_feed_56 : decode b_M_feed 56 = .ok (.iload 4, 2) := by decide +kernel
theorem d_M_feed_58 : decode b_M_feed 58 = .ok (.iadd, 1) := by decide +kernel
theorem d_M_feed_59 : decode b_M_feed 59 = .ok (.lload_n 1, 1) := by decide +kernel
theorem d_M_feed_60 : decode b_M_feed 60 = .ok (.bipush 8, 2) := by decide +kernel
theorem d_M_feed_62 : decode b_M_feed 62 = .ok (.iload 4, 2) := by decide +kernel
theorem d_M_feed_64 : decode b_M_feed 64 = .ok (.imul, 1) := by decide +kernel
theorem d_M_feed_65 : decode b_M_feed 65 = .ok (.lshr, 1) := by decide +kernel
theorem d_M_feed_66 : decode b_M_feed 66 = .ok (.ldc2_w 65, 3) := by decide +kernel
theorem d_M_feed_69 : decode b_M_feed 69 = .ok (.land, 1) := by decide +kernel
theorem d_M_feed_70 : decode b_M_feed 70 = .ok (.l2i, 1) := by decide +kernel
theorem d_M_feed_71 : decode b_M_feed 71 = .ok (.iastore, 1) := by decide +kernel
theorem d_M_feed_72 : decode b_M_feed 72 = .ok (.iinc 4 1, 3) := by decide +kernel
theorem d_M_feed_75 : decode b_M_feed 75 = .ok (.goto (-33), 3) := by decide +kernel
theorem d_M_feed_78 : decode b_M_feed 78 = .ok (.aload_n 0, 1) := by decide +kernel
theorem d_M_feed_79 : decode b_M_feed 79 = .ok (.dup, 1) := by decide +kernel
theorem d_M_feed_80 : decode b_M_feed 80 = .ok (.getfield 62, 3) := by decide +kernel
theorem d_M_feed_83 : decode b_M_feed 83 = .ok (.iload_n 3, 1) := by decide +kernel
theorem d_M_feed_84 : decode b_M_feed 84 = .ok (.iadd, 1) := by decide +kernel
theorem d_M_feed_85 : decode b_M_feed 85 = .ok (.putfield 62, 3) := by decide +kernel
theorem d_M_feed_88 : decode b_M_feed 88 = .ok (.aload_n 0, 1) := by decide +kernel
theorem d_M_feed_89 : decode b_M_feed 89 = .ok (.getfield 62, 3) := by decide +kernel
theorem d_M_feed_92 : decode b_M_feed 92 = .ok (.ireturn, 1) := by decide +kernel
theorem d_M_within_0 : decode b_M_within 0 = .ok (.iload_n 0, 1) := by decide +kernel
theorem d_M_within_1 : decode b_M_within 1 = .ok (.iload_n 1, 1) := by decide +kernel
theorem d_M_within_2 : decode b_M_within 2 = .ok (.if_icmp .lt 12, 3) := by decide +kernel
theorem d_M_within_5 : decode b_M_within 5 = .ok (.iload_n 0, 1) := by decide +kernel
theorem d_M_within_6 : decode b_M_within 6 = .ok (.iload_n 2, 1) := by decide +kernel
theorem d_M_within_7 : decode b_M_within 7 = .ok (.if_icmp .gt 7, 3) := by decide +kernel
theorem d_M_within_10 : decode b_M_within 10 = .ok (.iconst 1, 1) := by decide +kernel
theorem d_M_within_11 : decode b_M_within 11 = .ok (.goto 4, 3) := by decide +kernel
theorem d_M_within_14 : decode b_M_within 14 = .ok (.iconst 0, 1) := by decide +kernel
theorem d_M_within_15 : decode b_M_within 15 = .ok (.ireturn, 1) := by decide +kernel
theorem d_M_fail_0 : decode b_M_fail 0 = .ok (.aload_n 0, 1) := by decide +kernel
theorem d_M_fail_1 : decode b_M_fail 1 = .ok (.iload_n 1, 1) := by decide +kernel
theorem d_M_fail_2 : decode b_M_fail 2 = .ok (.putfield 51, 3) := by decide +kernel
theorem d_M_fail_5 : decode b_M_fail 5 = .ok (.iconst 0, 1) := by decide +kernel
theorem d_M_fail_6 : decode b_M_fail 6 = .ok (.ireturn, 1) := by decide +kernel
theorem d_M_alarm_0 : decode b_M_alarm 0 = .ok (.aload_n 0, 1) := by decide +kernel
theorem d_M_alarm_1 : decode b_M_alarm 1 = .ok (.iconst 1, 1) := by decide +kernel
theorem d_M_alarm_2 : decode b_M_alarm 2 = .ok (.iload_n 1, 1) := by decide +kernel
theorem d_M_alarm_3 : decode b_M_alarm 3 = .ok (.iload_n 2, 1) := by decide +kernel
theorem d_M_alarm_4 : decode b_M_alarm 4 = .ok (.invokevirtual 90, 3) := by decide +kernel
theorem d_M_alarm_7 : decode b_M_alarm 7 = .ok (.ireturn, 1) := by decide +kernel
theorem d_M_set_0 : decode b_M_set 0 = .ok (.aload_n 0, 1) := by decide +kernel
theorem d_M_set_1 : decode b_M_set 1 = .ok (.iconst 0, 1) := by decide +kernel
theorem d_M_set_2 : decode b_M_set 2 = .ok (.putfield 51, 3) := by decide +kernel
theorem d_M_set_5 : decode b_M_set 5 = .ok (.iload_n 2, 1) := by decide +kernel
theorem d_M_set_6 : decode b_M_set 6 = .ok (.invokestatic 74, 3) := by decide +kernel
theorem d_M_set_9 : decode b_M_set 9 = .ok (.ifCond .ne 17, 3) := by decide +kernel
theorem d_M_set_12 : decode b_M_set 12 = .ok (.aload_n 0, 1) := by decide +kernel
theorem d_M_set_13 : decode b_M_set 13 = .ok (.iconst 1, 1) := by decide +kernel
theorem d_M_set_14 : decode b_M_set 14 = .ok (.invokevirtual 58, 3) := by decide +kernel
theorem d_M_set_17 : decode b_M_set 17 = .ok (.ifCond .le 7, 3) := by decide +kernel
theorem d_M_set_20 : decode b_M_set 20 = .ok (.iconst 1, 1) := by decide +kernel
theorem d_M_set_21 : decode b_M_set 21 = .ok (.goto 4, 3) := by decide +kernel
theorem d_M_set_24 : decode b_M_set 24 = .ok (.iconst 0, 1) := by decide +kernel
theorem d_M_set_25 : decode b_M_set 25 = .ok (.ireturn, 1) := by decide +kernel
theorem d_M_set_26 : decode b_M_set 26 = .ok (.iload_n 3, 1) := by decide +kernel
theorem d_M_set_27 : decode b_M_set 27 = .ok (.iconst 0, 1) := by decide +kernel
theorem d_M_set_28 : decode b_M_set 28 = .ok (.ldc 78, 2) := by decide +kernel
theorem d_M_set_30 : decode b_M_set 30 = .ok (.invokestatic 54, 3) := by decide +kernel
theorem d_M_set_33 : decode b_M_set 33 = .ok (.ifCond .ne 17, 3) := by decide +kernel
theorem d_M_set_36 : decode b_M_set 36 = .ok (.aload_n 0, 1) := by decide +kernel
theorem d_M_set_37 : decode b_M_set 37 = .ok (.iconst 2, 1) := by decide +kernel
theorem d_M_set_38 : decode b_M_set 38 = .ok (.invokevirtual 58, 3) := by decide +kernel
theorem d_M_set_41 : decode b_M_set 41 = .ok (.ifCond .le 7, 3) := by decide +kernel
theorem d_M_set_44 : decode b_M_set 44 = .ok (.iconst 1, 1) := by decide +kernel
theorem d_M_set_45 : decode b_M_set 45 = .ok (.goto 4, 3) := by decide +kernel
theorem d_M_set_48 : decode b_M_set 48 = .ok (.iconst 0, 1) := by decide +kernel
theorem d_M_set_49 : decode b_M_set 49 = .ok (.ireturn, 1) := by decide +kernel
theorem d_M_set_50 : decode b_M_set 50 = .ok (.aload_n 0, 1) := by decide +kernel
theorem d_M_set_51 : decode b_M_set 51 = .ok (.iload_n 1, 1) := by decide +kernel
theorem d_M_set_52 : decode b_M_set 52 = .ok (.iload_n 2, 1) := by decide +kernel
theorem d_M_set_53 : decode b_M_set 53 = .ok (.invokevirtual 79, 3) := by decide +kernel
theorem d_M_set_56 : decode b_M_set 56 = .ok (.istore 4, 2) := by decide +kernel
theorem d_M_set_58 : decode b_M_set 58 = .ok (.aload_n 0, 1) := by decide +kernel
theorem d_M_set_59 : decode b_M_set 59 = .ok (.aload_n 0, 1) := by decide +kernel
theorem d_M_set_60 : decode b_M_set 60 = .ok (.getfield 83, 3) := by decide +kernel
theorem d_M_set_63 : decode b_M_set 63 = .ok (.iload_n 3, 1) := by decide +kernel
theorem d_M_set_64 : decode b_M_set 64 = .ok (.iadd, 1) := by decide +kernel
theorem d_M_set_65 : decode b_M_set 65 = .ok (.iload_n 1, 1) := by decide +kernel
theorem d_M_set_66 : decode b_M_set 66 = .ok (.iload_n 2, 1) := by decide +kernel
theorem d_M_set_67 : decode b_M_set 67 = .ok (.iconst (-1), 1) := by decide +kernel
theorem d_M_set_68 : decode b_M_set 68 = .ok (.invokevirtual 86, 3) := by decide +kernel
theorem d_M_set_71 : decode b_M_set 71 = .ok (.pop, 1) := by decide +kernel
theorem d_M_set_72 : decode b_M_set 72 = .ok (.iload 4, 2) := by decide +kernel
theorem d_M_set_74 : decode b_M_set 74 = .ok (.ireturn, 1) := by decide +kernel
theorem d_M_isEnd_0 : decode b_M_isEnd 0 = .ok (.iload_n 0, 1) := by decide +kernel
theorem d_M_isEnd_1 : decode b_M_isEnd 1 = .ok (.ifCond .lt 13, 3) := by decide +kernel
theorem d_M_isEnd_4 : decode b_M_isEnd 4 = .ok (.iload_n 0, 1) := by decide +kernel
theorem d_M_isEnd_5 : decode b_M_isEnd 5 = .ok (.bipush 16, 2) := by decide +kernel
theorem d_M_isEnd_7 : decode b_M_isEnd 7 = .ok (.if_icmp .ge 7, 3) := by decide +kernel
theorem d_M_isEnd_10 : decode b_M_isEnd 10 = .ok (.iconst 1, 1) := by decide +kernel
theorem d_M_isEnd_11 : decode b_M_isEnd 11 = .ok (.goto 4, 3) := by decide +kernel
theorem d_M_isEnd_14 : decode b_M_isEnd 14 = .ok (.iconst 0, 1) := by decide +kernel
theorem d_M_isEnd_15 : decode b_M_isEnd 15 = .ok (.ireturn, 1) := by decide +kernel
theorem d_M_drop_0 : decode b_M_drop 0 = .ok (.aload_n 0, 1) := by decide +kernel
theorem d_M_drop_1 : decode b_M_drop 1 = .ok (.iload_n 1, 1) := by decide +kernel
theorem d_M_drop_2 : decode b_M_drop 2 = .ok (.iload_n 2, 1) := by decide +kernel
theorem d_M_drop_3 : decode b_M_drop 3 = .ok (.invokevirtual 70, 3) := by decide +kernel
theorem d_M_drop_6 : decode b_M_drop 6 = .ok (.istore_n 3, 1) := by decide +kernel
theorem d_M_drop_7 : decode b_M_drop 7 = .ok (.iload_n 3, 1) := by decide +kernel
theorem d_M_drop_8 : decode b_M_drop 8 = .ok (.ifCond .lt 10, 3) := by decide +kernel
theorem d_M_drop_11 : decode b_M_drop 11 = .ok (.aload_n 0, 1) := by decide +kernel
theorem d_M_drop_12 : decode b_M_drop 12 = .ok (.getfield 28, 3) := by decide +kernel
theorem d_M_drop_15 : decode b_M_drop 15 = .ok (.iload_n 3, 1) := by decide +kernel
theorem d_M_drop_16 : decode b_M_drop 16 = .ok (.iconst 0, 1) := by decide +kernel
theorem d_M_drop_17 : decode b_M_drop 17 = .ok (.bastore, 1) := by decide +kernel
theorem d_M_drop_18 : decode b_M_drop 18 = .ok (.iload_n 3, 1) := by decide +kernel
theorem d_M_drop_19 : decode b_M_drop 19 = .ok (.ifCond .lt 7, 3) := by decide +kernel
theorem d_M_drop_22 : decode b_M_drop 22 = .ok (.iconst 1, 1) := by decide +kernel
theorem d_M_drop_23 : decode b_M_drop 23 = .ok (.goto 4, 3) := by decide +kernel
theorem d_M_drop_26 : decode b_M_drop 26 = .ok (.iconst 0, 1) := by decide +kernel
theorem d_M_drop_27 : decode b_M_drop 27 = .ok (.ireturn, 1) := by decide +kernel
theorem d_M_find_0 : decode b_M_find 0 = .ok (.iconst (-1), 1) := by decide +kernel
theorem d_M_find_1 : decode b_M_find 1 = .ok (.istore_n 3, 1) := by decide +kernel
theorem d_M_find_2 : decode b_M_find 2 = .ok (.iconst 0, 1) := by decide +kernel
theorem d_M_find_3 : decode b_M_find 3 = .ok (.istore 4, 2) := by decide +kernel
theorem d_M_find_5 : decode b_M_find 5 = .ok (.iload 4, 2) := by decide +kernel
theorem d_M_find_7 : decode b_M_find 7 = .ok (.aload_n 0, 1) := by decide +kernel
theorem d_M_find_8 : decode b_M_find 8 = .ok (.getfield 67, 3) := by decide +kernel
theorem d_M_find_11 : decode b_M_find 11 = .ok (.if_icmp .ge 44, 3) := by decide +kernel
theorem d_M_find_14 : decode b_M_find 14 = .ok (.aload_n 0, 1) := by decide +kernel
theorem d_M_find_15 : decode b_M_find 15 = .ok (.getfield 28, 3) := by decide +kernel
theorem d_M_find_18 : decode b_M_find 18 = .ok (.iload 4, 2) := by decide +kernel
theorem d_M_find_20 : decode b_M_find 20 = .ok (.baload, 1) := by decide +kernel
theorem d_M_find_21 : decode b_M_find 21 = .ok (.ifCond .eq 28, 3) := by decide +kernel
theorem d_M_find_24 : decode b_M_find 24 = .ok (.aload_n 0, 1) := by decide +kernel
theorem d_M_find_25 : decode b_M_find 25 = .ok (.getfield 13, 3) := by decide +kernel
theorem d_M_find_28 : decode b_M_find 28 = .ok (.iload 4, 2) := by decide +kernel
theorem d_M_find_30 : decode b_M_find 30 = .ok (.iaload, 1) := by decide +kernel
theorem d_M_find_31 : decode b_M_find 31 = .ok (.iload_n 1, 1) := by decide +kernel
theorem d_M_find_32 : decode b_M_find 32 = .ok (.if_icmp .ne 17, 3) := by decide +kernel
theorem d_M_find_35 : decode b_M_find 35 = .ok (.aload_n 0, 1) := by decide +kernel
theorem d_M_find_36 : decode b_M_find 36 = .ok (.getfield 16, 3) := by decide +kernel
theorem d_M_find_39 : decode b_M_find 39 = .ok (.iload 4, 2) := by decide +kernel
theorem d_M_find_41 : decode b_M_find 41 = .ok (.iaload, 1) := by decide +kernel
theorem d_M_find_42 : decode b_M_find 42 = .ok (.iload_n 2, 1) := by decide +kernel
theorem d_M_find_43 : decode b_M_find 43 = .ok (.if_icmp .ne 6, 3) := by decide +kernel
theorem d_M_find_46 : decode b_M_find 46 = .ok (.iload 4, 2) := by decide +kernel
theorem d_M_find_48 : decode b_M_find 48 = .ok (.istore_n 3, 1) := by decide +kernel
theorem d_M_find_49 : decode b_M_find 49 = .ok (.iinc 4 1, 3) := by decide +kernel
theorem d_M_find_52 : decode b_M_find 52 = .ok (.goto (-47), 3) := by decide +kernel
theorem d_M_find_55 : decode b_M_find 55 = .ok (.iload_n 3, 1) := by decide +kernel
theorem d_M_find_56 : decode b_M_find 56 = .ok (.ireturn, 1) := by decide +kernel
theorem d_M_event_0 : decode b_M_event 0 = .ok (.aload_n 0, 1) := by decide +kernel
theorem d_M_event_1 : decode b_M_event 1 = .ok (.getfield 7, 3) := by decide +kernel
theorem d_M_event_4 : decode b_M_event 4 = .ok (.aload_n 0, 1) := by decide +kernel
theorem d_M_event_5 : decode b_M_event 5 = .ok (.getfield 67, 3) := by decide +kernel
theorem d_M_event_8 : decode b_M_event 8 = .ok (.iload_n 1, 1) := by decide +kernel
theorem d_M_event_9 : decode b_M_event 9 = .ok (.iastore, 1) := by decide +kernel
theorem d_M_event_10 : decode b_M_event 10 = .ok (.aload_n 0, 1) := by decide +kernel
theorem d_M_event_11 : decode b_M_event 11 = .ok (.getfield 13, 3) := by decide +kernel
theorem d_M_event_14 : decode b_M_event 14 = .ok (.aload_n 0, 1) := by decide +kernel
theorem d_M_event_15 : decode b_M_event 15 = .ok (.getfield 67, 3) := by decide +kernel
theorem d_M_event_18 : decode b_M_event 18 = .ok (.iload_n 2, 1) := by decide +kernel
theorem d_M_event_19 : decode b_M_event 19 = .ok (.iastore, 1) := by decide +kernel
theorem d_M_event_20 : decode b_M_event 20 = .ok (.aload_n 0, 1) := by decide +kernel
theorem d_M_event_21 : decode b_M_event 21 = .ok (.getfield 16, 3) := by decide +kernel
theorem d_M_event_24 : decode b_M_event 24 = .ok (.aload_n 0, 1) := by decide +kernel
theorem d_M_event_25 : decode b_M_event 25 = .ok (.getfield 67, 3) := by decide +kernel
theorem d_M_event_28 : decode b_M_event 28 = .ok (.iload_n 3, 1) := by decide +kernel
theorem d_M_event_29 : decode b_M_event 29 = .ok (.iastore, 1) := by decide +kernel
theorem d_M_event_30 : decode b_M_event 30 = .ok (.aload_n 0, 1) := by decide +kernel
theorem d_M_event_31 : decode b_M_event 31 = .ok (.getfield 19, 3) := by decide +kernel
theorem d_M_event_34 : decode b_M_event 34 = .ok (.aload_n 0, 1) := by decide +kernel
theorem d_M_event_35 : decode b_M_event 35 = .ok (.getfield 67, 3) := by decide +kernel
theorem d_M_event_38 : decode b_M_event 38 = .ok (.iload 4, 2) := by decide +kernel
theorem d_M_event_40 : decode b_M_event 40 = .ok (.iastore, 1) := by decide +kernel
theorem d_M_event_41 : decode b_M_event 41 = .ok (.aload_n 0, 1) := by decide +kernel
theorem d_M_event_42 : decode b_M_event 42 = .ok (.getfield 28, 3) := by decide +kernel
theorem d_M_event_45 : decode b_M_event 45 = .ok (.aload_n 0, 1) := by decide +kernel
theorem d_M_event_46 : decode b_M_event 46 = .ok (.getfield 67, 3) := by decide +kernel
theorem d_M_event_49 : decode b_M_event 49 = .ok (.iconst 1, 1) := by decide +kernel
theorem d_M_event_50 : decode b_M_event 50 = .ok (.bastore, 1) := by decide +kernel
theorem d_M_event_51 : decode b_M_event 51 = .ok (.aload_n 0, 1) := by decide +kernel
theorem d_M_event_52 : decode b_M_event 52 = .ok (.dup, 1) := by decide +kernel
theorem d_M_event_53 : decode b_M_event 53 = .ok (.getfield 67, 3) := by decide +kernel
theorem d_M_event_56 : decode b_M_event 56 = .ok (.iconst 1, 1) := by decide +kernel
theorem d_M_event_57 : decode b_M_event 57 = .ok (.iadd, 1) := by decide +kernel
theorem d_M_event_58 : decode b_M_event 58 = .ok (.putfield 67, 3) := by decide +kernel
theorem d_M_event_61 : decode b_M_event 61 = .ok (.aload_n 0, 1) := by decide +kernel
theorem d_M_event_62 : decode b_M_event 62 = .ok (.getfield 67, 3) := by decide +kernel
theorem d_M_event_65 : decode b_M_event 65 = .ok (.iconst 1, 1) := by decide +kernel
theorem d_M_event_66 : decode b_M_event 66 = .ok (.isub, 1) := by decide +kernel
theorem d_M_event_67 : decode b_M_event 67 = .ok (.ireturn, 1) := by decide +kernel
theorem d_M_noAlarm_0 : decode b_M_noAlarm 0 = .ok (.aload_n 0, 1) := by decide +kernel
theorem d_M_noAlarm_1 : decode b_M_noAlarm 1 = .ok (.iconst 1, 1) := by decide +kernel
theorem d_M_noAlarm_2 : decode b_M_noAlarm 2 = .ok (.iload_n 1, 1) := by decide +kernel
theorem d_M_noAlarm_3 : decode b_M_noAlarm 3 = .ok (.invokevirtual 93, 3) := by decide +kernel
theorem d_M_noAlarm_6 : decode b_M_noAlarm 6 = .ok (.ireturn, 1) := by decide +kernel
theorem d_M_unset_0 : decode b_M_unset 0 = .ok (.aload_n 0, 1) := by decide +kernel
theorem d_M_unset_1 : decode b_M_unset 1 = .ok (.iconst 0, 1) := by decide +kernel
theorem d_M_unset_2 : decode b_M_unset 2 = .ok (.putfield 51, 3) := by decide +kernel
theorem d_M_unset_5 : decode b_M_unset 5 = .ok (.iload_n 2, 1) := by decide +kernel
theorem d_M_unset_6 : decode b_M_unset 6 = .ok (.invokestatic 74, 3) := by decide +kernel
theorem d_M_unset_9 : decode b_M_unset 9 = .ok (.ifCond .eq 12, 3) := by decide +kernel
theorem d_M_unset_12 : decode b_M_unset 12 = .ok (.aload_n 0, 1) := by decide +kernel
theorem d_M_unset_13 : decode b_M_unset 13 = .ok (.iload_n 1, 1) := by decide +kernel
theorem d_M_unset_14 : decode b_M_unset 14 = .ok (.iload_n 2, 1) := by decide +kernel
theorem d_M_unset_15 : decode b_M_unset 15 = .ok (.invokevirtual 79, 3) := by decide +kernel
theorem d_M_unset_18 : decode b_M_unset 18 = .ok (.goto 16, 3) := by decide +kernel
theorem d_M_unset_21 : decode b_M_unset 21 = .ok (.aload_n 0, 1) := by decide +kernel
theorem d_M_unset_22 : decode b_M_unset 22 = .ok (.iconst 1, 1) := by decide +kernel
theorem d_M_unset_23 : decode b_M_unset 23 = .ok (.invokevirtual 58, 3) := by decide +kernel
theorem d_M_unset_26 : decode b_M_unset 26 = .ok (.ifCond .le 7, 3) := by decide +kernel
theorem d_M_unset_29 : decode b_M_unset 29 = .ok (.iconst 1, 1) := by decide +kernel
theorem d_M_unset_30 : decode b_M_unset 30 = .ok (.goto 4, 3) := by decide +kernel
theorem d_M_unset_33 : decode b_M_unset 33 = .ok (.iconst 0, 1) := by decide +kernel
theorem d_M_unset_34 : decode b_M_unset 34 = .ok (.ireturn, 1) := by decide +kernel
theorem d_M_sync_0 : decode b_M_sync 0 = .ok (.aload_n 0, 1) := by decide +kernel
theorem d_M_sync_1 : decode b_M_sync 1 = .ok (.iconst 2, 1) := by decide +kernel
theorem d_M_sync_2 : decode b_M_sync 2 = .ok (.iload_n 1, 1) := by decide +kernel
theorem d_M_sync_3 : decode b_M_sync 3 = .ok (.iload_n 2, 1) := by decide +kernel
theorem d_M_sync_4 : decode b_M_sync 4 = .ok (.invokevirtual 90, 3) := by decide +kernel
theorem d_M_sync_7 : decode b_M_sync 7 = .ok (.ireturn, 1) := by decide +kernel
theorem d_M_noSync_0 : decode b_M_noSync 0 = .ok (.aload_n 0, 1) := by decide +kernel
theorem d_M_noSync_1 : decode b_M_noSync 1 = .ok (.iconst 2, 1) := by decide +kernel
theorem d_M_noSync_2 : decode b_M_noSync 2 = .ok (.iload_n 1, 1) := by decide +kernel
theorem d_M_noSync_3 : decode b_M_noSync 3 = .ok (.invokevirtual 93, 3) := by decide +kernel
theorem d_M_noSync_6 : decode b_M_noSync 6 = .ok (.ireturn, 1) := by decide +kernel
theorem d_M_send_0 : decode b_M_send 0 = .ok (.aload_n 0, 1) := by decide +kernel
theorem d_M_send_1 : decode b_M_send 1 = .ok (.iconst 0, 1) := by decide +kernel
theorem d_M_send_2 : decode b_M_send 2 = .ok (.putfield 51, 3) := by decide +kernel
theorem d_M_send_5 : decode b_M_send 5 = .ok (.aload_n 0, 1) := by decide +kernel
theorem d_M_send_6 : decode b_M_send 6 = .ok (.getfield 62, 3) := by decide +kernel
theorem d_M_send_9 : decode b_M_send 9 = .ok (.istore_n 3, 1) := by decide +kernel
theorem d_M_send_10 : decode b_M_send 10 = .ok (.aload_n 0, 1) := by decide +kernel
theorem d_M_send_11 : decode b_M_send 11 = .ok (.iconst 0, 1) := by decide +kernel
theorem d_M_send_12 : decode b_M_send 12 = .ok (.putfield 62, 3) := by decide +kernel
theorem d_M_send_15 : decode b_M_send 15 = .ok (.iload_n 1, 1) := by decide +kernel
theorem d_M_send_16 : decode b_M_send 16 = .ok (.invokestatic 74, 3) := by decide +kernel
theorem d_M_send_19 : decode b_M_send 19 = .ok (.ifCond .eq 10, 3) := by decide +kernel
theorem d_M_send_22 : decode b_M_send 22 = .ok (.iload_n 2, 1) := by decide +kernel
theorem d_M_send_23 : decode b_M_send 23 = .ok (.invokestatic 74, 3) := by decide +kernel
theorem d_M_send_26 : decode b_M_send 26 = .ok (.ifCond .ne 9, 3) := by decide +kernel
theorem d_M_send_29 : decode b_M_send 29 = .ok (.aload_n 0, 1) := by decide +kernel
theorem d_M_send_30 : decode b_M_send 30 = .ok (.iconst 1, 1) := by decide +kernel
theorem d_M_send_31 : decode b_M_send 31 = .ok (.invokevirtual 58, 3) := by decide +kernel
theorem d_M_send_34 : decode b_M_send 34 = .ok (.ireturn, 1) := by decide +kernel
theorem d_M_send_35 : decode b_M_send 35 = .ok (.aload_n 0, 1) := by decide +kernel
theorem d_M_send_36 : decode b_M_send 36 = .ok (.getfield 116, 3) := by decide +kernel
theorem d_M_send_39 : decode b_M_send 39 = .ok (.istore 4, 2) := by decide +kernel
theorem d_M_send_41 : decode b_M_send 41 = .ok (.iconst 0, 1) := by decide +kernel
theorem d_M_send_42 : decode b_M_send 42 = .ok (.istore 5, 2) := by decide +kernel
theorem d_M_send_44 : decode b_M_send 44 = .ok (.iload 5, 2) := by decide +kernel
theorem d_M_send_46 : decode b_M_send 46 = .ok (.iload_n 3, 1) := by decide +kernel
theorem d_M_send_47 : decode b_M_send 47 = .ok (.if_icmp .ge 28, 3) := by decide +kernel
theorem d_M_send_50 : decode b_M_send 50 = .ok (.aload_n 0, 1) := by decide +kernel
theorem d_M_send_51 : decode b_M_send 51 = .ok (.getfield 32, 3) := by decide +kernel
theorem d_M_send_54 : decode b_M_send 54 = .ok (.aload_n 0, 1) := by decide +kernel
theorem d_M_send_55 : decode b_M_send 55 = .ok (.getfield 116, 3) := by decide +kernel
theorem d_M_send_58 : decode b_M_send 58 = .ok (.iload 5, 2) := by decide +kernel
theorem d_M_send_60 : decode b_M_send 60 = .ok (.iadd, 1) := by decide +kernel
theorem d_M_send_61 : decode b_M_send 61 = .ok (.aload_n 0, 1) := by decide +kernel
theorem d_M_send_62 : decode b_M_send 62 = .ok (.getfield 35, 3) := by decide +kernel
theorem d_M_send_65 : decode b_M_send 65 = .ok (.iload 5, 2) := by decide +kernel
theorem d_M_send_67 : decode b_M_send 67 = .ok (.iaload, 1) := by decide +kernel
theorem d_M_send_68 : decode b_M_send 68 = .ok (.iastore, 1) := by decide +kernel
theorem d_M_send_69 : decode b_M_send 69 = .ok (.iinc 5 1, 3) := by decide +kernel
theorem d_M_send_72 : decode b_M_send 72 = .ok (.goto (-28), 3) := by decide +kernel
theorem d_M_send_75 : decode b_M_send 75 = .ok (.aload_n 0, 1) := by decide +kernel
theorem d_M_send_76 : decode b_M_send 76 = .ok (.dup, 1) := by decide +kernel
theorem d_M_send_77 : decode b_M_send 77 = .ok (.getfield 116, 3) := by decide +kernel
theorem d_M_send_80 : decode b_M_send 80 = .ok (.iload_n 3, 1) := by decide +kernel
theorem d_M_send_81 : decode b_M_send 81 = .ok (.iadd, 1) := by decide +kernel
theorem d_M_send_82 : decode b_M_send 82 = .ok (.putfield 116, 3) := by decide +kernel
theorem d_M_send_85 : decode b_M_send 85 = .ok (.aload_n 0, 1) := by decide +kernel
theorem d_M_send_86 : decode b_M_send 86 = .ok (.getfield 119, 3) := by decide +kernel
theorem d_M_send_89 : decode b_M_send 89 = .ok (.aload_n 0, 1) := by decide +kernel
theorem d_M_send_90 : decode b_M_send 90 = .ok (.getfield 122, 3) := by decide +kernel
theorem d_M_send_93 : decode b_M_send 93 = .ok (.iadd, 1) := by decide +kernel
theorem d_M_send_94 : decode b_M_send 94 = .ok (.aload_n 0, 1) := by decide +kernel
theorem d_M_send_95 : decode b_M_send 95 = .ok (.getfield 125, 3) := by decide +kernel
theorem d_M_send_98 : decode b_M_send 98 = .ok (.iadd, 1) := by decide +kernel
theorem d_M_send_99 : decode b_M_send 99 = .ok (.ifCond .le 7, 3) := by decide +kernel
theorem d_M_send_102 : decode b_M_send 102 = .ok (.iconst 1, 1) := by decide +kernel
theorem d_M_send_103 : decode b_M_send 103 = .ok (.goto 4, 3) := by decide +kernel
theorem d_M_send_106 : decode b_M_send 106 = .ok (.iconst 0, 1) := by decide +kernel
theorem d_M_send_107 : decode b_M_send 107 = .ok (.istore 5, 2) := by decide +kernel
theorem d_M_send_109 : decode b_M_send 109 = .ok (.aload_n 0, 1) := by decide +kernel
theorem d_M_send_110 : decode b_M_send 110 = .ok (.iload_n 1, 1) := by decide +kernel
theorem d_M_send_111 : decode b_M_send 111 = .ok (.iload_n 2, 1) := by decide +kernel
theorem d_M_send_112 : decode b_M_send 112 = .ok (.invokevirtual 128, 3) := by decide +kernel
theorem d_M_send_115 : decode b_M_send 115 = .ok (.ifCond .ne 22, 3) := by decide +kernel
theorem d_M_send_118 : decode b_M_send 118 = .ok (.iload 5, 2) := by decide +kernel
theorem d_M_send_120 : decode b_M_send 120 = .ok (.ifCond .eq 29, 3) := by decide +kernel
theorem d_M_send_123 : decode b_M_send 123 = .ok (.aload_n 0, 1) := by decide +kernel
theorem d_M_send_124 : decode b_M_send 124 = .ok (.sipush 1000, 3) := by decide +kernel
theorem d_M_send_127 : decode b_M_send 127 = .ok (.invokevirtual 131, 3) := by decide +kernel
theorem d_M_send_130 : decode b_M_send 130 = .ok (.aload_n 0, 1) := by decide +kernel
theorem d_M_send_131 : decode b_M_send 131 = .ok (.getfield 119, 3) := by decide +kernel
theorem d_M_send_134 : decode b_M_send 134 = .ok (.if_icmp .ge 15, 3) := by decide +kernel
theorem d_M_send_137 : decode b_M_send 137 = .ok (.aload_n 0, 1) := by decide +kernel
theorem d_M_send_138 : decode b_M_send 138 = .ok (.dup, 1) := by decide +kernel
theorem d_M_send_139 : decode b_M_send 139 = .ok (.getfield 110, 3) := by decide +kernel
theorem d_M_send_142 : decode b_M_send 142 = .ok (.iconst 1, 1) := by decide +kernel
theorem d_M_send_143 : decode b_M_send 143 = .ok (.iadd, 1) := by decide +kernel
theorem d_M_send_144 : decode b_M_send 144 = .ok (.putfield 110, 3) := by decide +kernel
theorem d_M_send_147 : decode b_M_send 147 = .ok (.iconst 0, 1) := by decide +kernel
theorem d_M_send_148 : decode b_M_send 148 = .ok (.ireturn, 1) := by decide +kernel
theorem d_M_send_149 : decode b_M_send 149 = .ok (.iload 5, 2) := by decide +kernel
theorem d_M_send_151 : decode b_M_send 151 = .ok (.ifCond .eq 21, 3) := by decide +kernel
theorem d_M_send_154 : decode b_M_send 154 = .ok (.aload_n 0, 1) := by decide +kernel
theorem d_M_send_155 : decode b_M_send 155 = .ok (.sipush 1000, 3) := by decide +kernel
theorem d_M_send_158 : decode b_M_send 158 = .ok (.invokevirtual 131, 3) := by decide +kernel
theorem d_M_send_161 : decode b_M_send 161 = .ok (.aload_n 0, 1) := by decide +kernel
theorem d_M_send_162 : decode b_M_send 162 = .ok (.getfield 122, 3) := by decide +kernel
theorem d_M_send_165 : decode b_M_send 165 = .ok (.if_icmp .ge 7, 3) := by decide +kernel
theorem d_M_send_168 : decode b_M_send 168 = .ok (.iconst 2, 1) := by decide +kernel
theorem d_M_send_169 : decode b_M_send 169 = .ok (.goto 4, 3) := by decide +kernel
theorem d_M_send_172 : decode b_M_send 172 = .ok (.iconst 1, 1) := by decide +kernel
theorem d_M_send_173 : decode b_M_send 173 = .ok (.istore 6, 2) := by decide +kernel
theorem d_M_send_175 : decode b_M_send 175 = .ok (.iconst 0, 1) := by decide +kernel
theorem d_M_send_176 : decode b_M_send 176 = .ok (.istore 7, 2) := by decide +kernel
theorem d_M_send_178 : decode b_M_send 178 = .ok (.iconst 0, 1) := by decide +kernel
theorem d_M_send_179 : decode b_M_send 179 = .ok (.istore 8, 2) := by decide +kernel
theorem d_M_send_181 : decode b_M_send 181 = .ok (.iload 8, 2) := by decide +kernel
theorem d_M_send_183 : decode b_M_send 183 = .ok (.iload 6, 2) := by decide +kernel
theorem d_M_send_185 : decode b_M_send 185 = .ok (.if_icmp .ge 54, 3) := by decide +kernel
theorem d_M_send_188 : decode b_M_send 188 = .ok (.iload 5, 2) := by decide +kernel
theorem d_M_send_190 : decode b_M_send 190 = .ok (.ifCond .eq 16, 3) := by decide +kernel
theorem d_M_send_193 : decode b_M_send 193 = .ok (.aload_n 0, 1) := by decide +kernel
theorem d_M_send_194 : decode b_M_send 194 = .ok (.aload_n 0, 1) := by decide +kernel
theorem d_M_send_195 : decode b_M_send 195 = .ok (.getfield 125, 3) := by decide +kernel
theorem d_M_send_198 : decode b_M_send 198 = .ok (.iconst 1, 1) := by decide +kernel
theorem d_M_send_199 : decode b_M_send 199 = .ok (.iadd, 1) := by decide +kernel
theorem d_M_send_200 : decode b_M_send 200 = .ok (.invokevirtual 131, 3) := by decide +kernel
theorem d_M_send_203 : decode b_M_send 203 = .ok (.goto 4, 3) := by decide +kernel
theorem d_M_send_206 : decode b_M_send 206 = .ok (.iconst 0, 1) := by decide +kernel
theorem d_M_send_207 : decode b_M_send 207 = .ok (.istore 9, 2) := by decide +kernel
theorem d_M_send_209 : decode b_M_send 209 = .ok (.iload 7, 2) := by decide +kernel
theorem d_M_send_211 : decode b_M_send 211 = .ok (.aload_n 0, 1) := by decide +kernel
theorem d_M_send_212 : decode b_M_send 212 = .ok (.iload_n 1, 1) := by decide +kernel
theorem d_M_send_213 : decode b_M_send 213 = .ok (.iload_n 2, 1) := by decide +kernel
theorem d_M_send_214 : decode b_M_send 214 = .ok (.iload 9, 2) := by decide +kernel
theorem d_M_send_216 : decode b_M_send 216 = .ok (.iload 4, 2) := by decide +kernel
theorem d_M_send_218 : decode b_M_send 218 = .ok (.iload_n 3, 1) := by decide +kernel
theorem d_M_send_219 : decode b_M_send 219 = .ok (.invokevirtual 134, 3) := by decide +kernel
theorem d_M_send_222 : decode b_M_send 222 = .ok (.ifCond .eq 7, 3) := by decide +kernel
theorem d_M_send_225 : decode b_M_send 225 = .ok (.iconst 1, 1) := by decide +kernel
theorem d_M_send_226 : decode b_M_send 226 = .ok (.goto 4, 3) := by decide +kernel
theorem d_M_send_229 : decode b_M_send 229 = .ok (.iconst 0, 1) := by decide +kernel
theorem d_M_send_230 : decode b_M_send 230 = .ok (.iadd, 1) := by decide +kernel
theorem d_M_send_231 : decode b_M_send 231 = .ok (.istore 7, 2) := by decide +kernel
theorem d_M_send_233 : decode b_M_send 233 = .ok (.iinc 8 1, 3) := by decide +kernel
theorem d_M_send_236 : decode b_M_send 236 = .ok (.goto (-55), 3) := by decide +kernel
theorem d_M_send_239 : decode b_M_send 239 = .ok (.iload 7, 2) := by decide +kernel
theorem d_M_send_241 : decode b_M_send 241 = .ok (.ireturn, 1) := by decide +kernel
theorem d_M_areParted_0 : decode b_M_areParted 0 = .ok (.aload_n 0, 1) := by decide +kernel
theorem d_M_areParted_1 : decode b_M_areParted 1 = .ok (.getfield 104, 3) := by decide +kernel
theorem d_M_areParted_4 : decode b_M_areParted 4 = .ok (.iload_n 1, 1) := by decide +kernel
theorem d_M_areParted_5 : decode b_M_areParted 5 = .ok (.ishr, 1) := by decide +kernel
theorem d_M_areParted_6 : decode b_M_areParted 6 = .ok (.iconst 1, 1) := by decide +kernel
theorem d_M_areParted_7 : decode b_M_areParted 7 = .ok (.iand, 1) := by decide +kernel
theorem d_M_areParted_8 : decode b_M_areParted 8 = .ok (.aload_n 0, 1) := by decide +kernel
theorem d_M_areParted_9 : decode b_M_areParted 9 = .ok (.getfield 104, 3) := by decide +kernel
theorem d_M_areParted_12 : decode b_M_areParted 12 = .ok (.iload_n 2, 1) := by decide +kernel
theorem d_M_areParted_13 : decode b_M_areParted 13 = .ok (.ishr, 1) := by decide +kernel
theorem d_M_areParted_14 : decode b_M_areParted 14 = .ok (.iconst 1, 1) := by decide +kernel
theorem d_M_areParted_15 : decode b_M_areParted 15 = .ok (.iand, 1) := by decide +kernel
theorem d_M_areParted_16 : decode b_M_areParted 16 = .ok (.if_icmp .eq 7, 3) := by decide +kernel
theorem d_M_areParted_19 : decode b_M_areParted 19 = .ok (.iconst 1, 1) := by decide +kernel
theorem d_M_areParted_20 : decode b_M_areParted 20 = .ok (.goto 4, 3) := by decide +kernel
theorem d_M_areParted_23 : decode b_M_areParted 23 = .ok (.iconst 0, 1) := by decide +kernel
theorem d_M_areParted_24 : decode b_M_areParted 24 = .ok (.ireturn, 1) := by decide +kernel
theorem d_M_drawn_0 : decode b_M_drawn 0 = .ok (.aload_n 0, 1) := by decide +kernel
theorem d_M_drawn_1 : decode b_M_drawn 1 = .ok (.aload_n 0, 1) := by decide +kernel
theorem d_M_drawn_2 : decode b_M_drawn 2 = .ok (.getfield 96, 3) := by decide +kernel
theorem d_M_drawn_5 : decode b_M_drawn 5 = .ok (.ldc2_w 100, 3) := by decide +kernel
theorem d_M_drawn_8 : decode b_M_drawn 8 = .ok (.lmul, 1) := by decide +kernel
theorem d_M_drawn_9 : decode b_M_drawn 9 = .ok (.ldc2_w 102, 3) := by decide +kernel
theorem d_M_drawn_12 : decode b_M_drawn 12 = .ok (.ladd, 1) := by decide +kernel
theorem d_M_drawn_13 : decode b_M_drawn 13 = .ok (.putfield 96, 3) := by decide +kernel
theorem d_M_drawn_16 : decode b_M_drawn 16 = .ok (.aload_n 0, 1) := by decide +kernel
theorem d_M_drawn_17 : decode b_M_drawn 17 = .ok (.getfield 96, 3) := by decide +kernel
theorem d_M_drawn_20 : decode b_M_drawn 20 = .ok (.bipush 33, 2) := by decide +kernel
theorem d_M_drawn_22 : decode b_M_drawn 22 = .ok (.lushr, 1) := by decide +kernel
theorem d_M_drawn_23 : decode b_M_drawn 23 = .ok (.iload_n 1, 1) := by decide +kernel
theorem d_M_drawn_24 : decode b_M_drawn 24 = .ok (.i2l, 1) := by decide +kernel
theorem d_M_drawn_25 : decode b_M_drawn 25 = .ok (.lrem, 1) := by decide +kernel
theorem d_M_drawn_26 : decode b_M_drawn 26 = .ok (.l2i, 1) := by decide +kernel
theorem d_M_drawn_27 : decode b_M_drawn 27 = .ok (.ireturn, 1) := by decide +kernel
theorem d_M_go_0 : decode b_M_go 0 = .ok (.aload_n 0, 1) := by decide +kernel
theorem d_M_go_1 : decode b_M_go 1 = .ok (.getfield 107, 3) := by decide +kernel
theorem d_M_go_4 : decode b_M_go 4 = .ok (.sipush 200, 3) := by decide +kernel
theorem d_M_go_7 : decode b_M_go 7 = .ok (.if_icmp .ne 15, 3) := by decide +kernel
theorem d_M_go_10 : decode b_M_go 10 = .ok (.aload_n 0, 1) := by decide +kernel
theorem d_M_go_11 : decode b_M_go 11 = .ok (.dup, 1) := by decide +kernel
theorem d_M_go_12 : decode b_M_go 12 = .ok (.getfield 110, 3) := by decide +kernel
theorem d_M_go_15 : decode b_M_go 15 = .ok (.iconst 1, 1) := by decide +kernel
theorem d_M_go_16 : decode b_M_go 16 = .ok (.iadd, 1) := by decide +kernel
theorem d_M_go_17 : decode b_M_go 17 = .ok (.putfield 110, 3) := by decide +kernel
theorem d_M_go_20 : decode b_M_go 20 = .ok (.iconst 0, 1) := by decide +kernel
theorem d_M_go_21 : decode b_M_go 21 = .ok (.ireturn, 1) := by decide +kernel
theorem d_M_go_22 : decode b_M_go 22 = .ok (.aload_n 0, 1) := by decide +kernel
theorem d_M_go_23 : decode b_M_go 23 = .ok (.dup, 1) := by decide +kernel
theorem d_M_go_24 : decode b_M_go 24 = .ok (.getfield 113, 3) := by decide +kernel
theorem d_M_go_27 : decode b_M_go 27 = .ok (.iconst 1, 1) := by decide +kernel
theorem d_M_go_28 : decode b_M_go 28 = .ok (.iadd, 1) := by decide +kernel
theorem d_M_go_29 : decode b_M_go 29 = .ok (.putfield 113, 3) := by decide +kernel
theorem d_M_go_32 : decode b_M_go 32 = .ok (.aload_n 0, 1) := by decide +kernel
theorem d_M_go_33 : decode b_M_go 33 = .ok (.aload_n 0, 1) := by decide +kernel
theorem d_M_go_34 : decode b_M_go 34 = .ok (.getfield 83, 3) := by decide +kernel
theorem d_M_go_37 : decode b_M_go 37 = .ok (.aload_n 0, 1) := by decide +kernel
theorem d_M_go_38 : decode b_M_go 38 = .ok (.getfield 38, 3) := by decide +kernel
theorem d_M_go_41 : decode b_M_go 41 = .ok (.bipush 16, 2) := by decide +kernel
theorem d_M_go_43 : decode b_M_go 43 = .ok (.iload_n 1, 1) := by decide +kernel
theorem d_M_go_44 : decode b_M_go 44 = .ok (.imul, 1) := by decide +kernel
theorem d_M_go_45 : decode b_M_go 45 = .ok (.iload_n 2, 1) := by decide +kernel
theorem d_M_go_46 : decode b_M_go 46 = .ok (.iadd, 1) := by decide +kernel
theorem d_M_go_47 : decode b_M_go 47 = .ok (.iaload, 1) := by decide +kernel
theorem d_M_go_48 : decode b_M_go 48 = .ok (.iadd, 1) := by decide +kernel
theorem d_M_go_49 : decode b_M_go 49 = .ok (.iload_n 3, 1) := by decide +kernel
theorem d_M_go_50 : decode b_M_go 50 = .ok (.iadd, 1) := by decide +kernel
theorem d_M_go_51 : decode b_M_go 51 = .ok (.iconst 0, 1) := by decide +kernel
theorem d_M_go_52 : decode b_M_go 52 = .ok (.iload_n 2, 1) := by decide +kernel
theorem d_M_go_53 : decode b_M_go 53 = .ok (.iload_n 1, 1) := by decide +kernel
theorem d_M_go_54 : decode b_M_go 54 = .ok (.invokevirtual 86, 3) := by decide +kernel
theorem d_M_go_57 : decode b_M_go 57 = .ok (.istore 6, 2) := by decide +kernel
theorem d_M_go_59 : decode b_M_go 59 = .ok (.aload_n 0, 1) := by decide +kernel
theorem d_M_go_60 : decode b_M_go 60 = .ok (.getfield 22, 3) := by decide +kernel
theorem d_M_go_63 : decode b_M_go 63 = .ok (.iload 6, 2) := by decide +kernel
theorem d_M_go_65 : decode b_M_go 65 = .ok (.iload 4, 2) := by decide +kernel
theorem d_M_go_67 : decode b_M_go 67 = .ok (.iastore, 1) := by decide +kernel
theorem d_M_go_68 : decode b_M_go 68 = .ok (.aload_n 0, 1) := by decide +kernel
theorem d_M_go_69 : decode b_M_go 69 = .ok (.getfield 25, 3) := by decide +kernel
theorem d_M_go_72 : decode b_M_go 72 = .ok (.iload 6, 2) := by decide +kernel
theorem d_M_go_74 : decode b_M_go 74 = .ok (.iload 5, 2) := by decide +kernel
theorem d_M_go_76 : decode b_M_go 76 = .ok (.iastore, 1) := by decide +kernel
theorem d_M_go_77 : decode b_M_go 77 = .ok (.aload_n 0, 1) := by decide +kernel
theorem d_M_go_78 : decode b_M_go 78 = .ok (.dup, 1) := by decide +kernel
theorem d_M_go_79 : decode b_M_go 79 = .ok (.getfield 107, 3) := by decide +kernel
theorem d_M_go_82 : decode b_M_go 82 = .ok (.iconst 1, 1) := by decide +kernel
theorem d_M_go_83 : decode b_M_go 83 = .ok (.iadd, 1) := by decide +kernel
theorem d_M_go_84 : decode b_M_go 84 = .ok (.putfield 107, 3) := by decide +kernel
theorem d_M_go_87 : decode b_M_go 87 = .ok (.iconst 1, 1) := by decide +kernel
theorem d_M_go_88 : decode b_M_go 88 = .ok (.ireturn, 1) := by decide +kernel
theorem d_M_meddle_0 : decode b_M_meddle 0 = .ok (.aload_n 0, 1) := by decide +kernel
theorem d_M_meddle_1 : decode b_M_meddle 1 = .ok (.iconst 0, 1) := by decide +kernel
theorem d_M_meddle_2 : decode b_M_meddle 2 = .ok (.putfield 51, 3) := by decide +kernel
theorem d_M_meddle_5 : decode b_M_meddle 5 = .ok (.iload_n 2, 1) := by decide +kernel
theorem d_M_meddle_6 : decode b_M_meddle 6 = .ok (.iconst 0, 1) := by decide +kernel
theorem d_M_meddle_7 : decode b_M_meddle 7 = .ok (.iconst 2, 1) := by decide +kernel
theorem d_M_meddle_8 : decode b_M_meddle 8 = .ok (.invokestatic 54, 3) := by decide +kernel
theorem d_M_meddle_11 : decode b_M_meddle 11 = .ok (.ifCond .eq 23, 3) := by decide +kernel
theorem d_M_meddle_14 : decode b_M_meddle 14 = .ok (.iload_n 3, 1) := by decide +kernel
theorem d_M_meddle_15 : decode b_M_meddle 15 = .ok (.iconst 0, 1) := by decide +kernel
theorem d_M_meddle_16 : decode b_M_meddle 16 = .ok (.iload_n 2, 1) := by decide +kernel
theorem d_M_meddle_17 : decode b_M_meddle 17 = .ok (.iconst 2, 1) := by decide +kernel
theorem d_M_meddle_18 : decode b_M_meddle 18 = .ok (.if_icmp .ne 9, 3) := by decide +kernel
theorem d_M_meddle_21 : decode b_M_meddle 21 = .ok (.sipush 1000, 3) := by decide +kernel
theorem d_M_meddle_24 : decode b_M_meddle 24 = .ok (.goto 4, 3) := by decide +kernel
theorem d_M_meddle_27 : decode b_M_meddle 27 = .ok (.iconst 0, 1) := by decide +kernel
theorem d_M_meddle_28 : decode b_M_meddle 28 = .ok (.invokestatic 54, 3) := by decide +kernel
theorem d_M_meddle_31 : decode b_M_meddle 31 = .ok (.ifCond .ne 17, 3) := by decide +kernel
theorem d_M_meddle_34 : decode b_M_meddle 34 = .ok (.aload_n 0, 1) := by decide +kernel
theorem d_M_meddle_35 : decode b_M_meddle 35 = .ok (.iconst 1, 1) := by decide +kernel
theorem d_M_meddle_36 : decode b_M_meddle 36 = .ok (.invokevirtual 58, 3) := by decide +kernel
theorem d_M_meddle_39 : decode b_M_meddle 39 = .ok (.ifCond .le 7, 3) := by decide +kernel
theorem d_M_meddle_42 : decode b_M_meddle 42 = .ok (.iconst 1, 1) := by decide +kernel
theorem d_M_meddle_43 : decode b_M_meddle 43 = .ok (.goto 4, 3) := by decide +kernel
theorem d_M_meddle_46 : decode b_M_meddle 46 = .ok (.iconst 0, 1) := by decide +kernel
theorem d_M_meddle_47 : decode b_M_meddle 47 = .ok (.ireturn, 1) := by decide +kernel
theorem d_M_meddle_48 : decode b_M_meddle 48 = .ok (.aload_n 0, 1) := by decide +kernel
theorem d_M_meddle_49 : decode b_M_meddle 49 = .ok (.iload_n 1, 1) := by decide +kernel
theorem d_M_meddle_50 : decode b_M_meddle 50 = .ok (.iconst 0, 1) := by decide +kernel
theorem d_M_meddle_51 : decode b_M_meddle 51 = .ok (.invokevirtual 138, 3) := by decide +kernel
theorem d_M_meddle_54 : decode b_M_meddle 54 = .ok (.istore 4, 2) := by decide +kernel
theorem d_M_meddle_56 : decode b_M_meddle 56 = .ok (.iload 4, 2) := by decide +kernel
theorem d_M_meddle_58 : decode b_M_meddle 58 = .ok (.ifCond .ge 5, 3) := by decide +kernel
theorem d_M_meddle_61 : decode b_M_meddle 61 = .ok (.iconst 0, 1) := by decide +kernel
theorem d_M_meddle_62 : decode b_M_meddle 62 = .ok (.ireturn, 1) := by decide +kernel
theorem d_M_meddle_63 : decode b_M_meddle 63 = .ok (.iload_n 2, 1) := by decide +kernel
theorem d_M_meddle_64 : decode b_M_meddle 64 = .ok (.iconst 1, 1) := by decide +kernel
theorem d_M_meddle_65 : decode b_M_meddle 65 = .ok (.if_icmp .ne 39, 3) := by decide +kernel
theorem d_M_meddle_68 : decode b_M_meddle 68 = .ok (.aload_n 0, 1) := by decide +kernel
theorem d_M_meddle_69 : decode b_M_meddle 69 = .ok (.aload_n 0, 1) := by decide +kernel
theorem d_M_meddle_70 : decode b_M_meddle 70 = .ok (.getfield 19, 3) := by decide +kernel
theorem d_M_meddle_73 : decode b_M_meddle 73 = .ok (.iload 4, 2) := by decide +kernel
theorem d_M_meddle_75 : decode b_M_meddle 75 = .ok (.iaload, 1) := by decide +kernel
theorem d_M_meddle_76 : decode b_M_meddle 76 = .ok (.aload_n 0, 1) := by decide +kernel
theorem d_M_meddle_77 : decode b_M_meddle 77 = .ok (.getfield 16, 3) := by decide +kernel
theorem d_M_meddle_80 : decode b_M_meddle 80 = .ok (.iload 4, 2) := by decide +kernel
theorem d_M_meddle_82 : decode b_M_meddle 82 = .ok (.iaload, 1) := by decide +kernel
theorem d_M_meddle_83 : decode b_M_meddle 83 = .ok (.iconst 0, 1) := by decide +kernel
theorem d_M_meddle_84 : decode b_M_meddle 84 = .ok (.aload_n 0, 1) := by decide +kernel
theorem d_M_meddle_85 : decode b_M_meddle 85 = .ok (.getfield 22, 3) := by decide +kernel
theorem d_M_meddle_88 : decode b_M_meddle 88 = .ok (.iload 4, 2) := by decide +kernel
theorem d_M_meddle_90 : decode b_M_meddle 90 = .ok (.iaload, 1) := by decide +kernel
theorem d_M_meddle_91 : decode b_M_meddle 91 = .ok (.aload_n 0, 1) := by decide +kernel
theorem d_M_meddle_92 : decode b_M_meddle 92 = .ok (.getfield 25, 3) := by decide +kernel
theorem d_M_meddle_95 : decode b_M_meddle 95 = .ok (.iload 4, 2) := by decide +kernel
theorem d_M_meddle_97 : decode b_M_meddle 97 = .ok (.iaload, 1) := by decide +kernel
theorem d_M_meddle_98 : decode b_M_meddle 98 = .ok (.invokevirtual 134, 3) := by decide +kernel
theorem d_M_meddle_101 : decode b_M_meddle 101 = .ok (.pop, 1) := by decide +kernel
theorem d_M_meddle_102 : decode b_M_meddle 102 = .ok (.iconst 1, 1) := by decide +kernel
theorem d_M_meddle_103 : decode b_M_meddle 103 = .ok (.ireturn, 1) := by decide +kernel
theorem d_M_meddle_104 : decode b_M_meddle 104 = .ok (.aload_n 0, 1) := by decide +kernel
theorem d_M_meddle_105 : decode b_M_meddle 105 = .ok (.getfield 28, 3) := by decide +kernel
theorem d_M_meddle_108 : decode b_M_meddle 108 = .ok (.iload 4, 2) := by decide +kernel
theorem d_M_meddle_110 : decode b_M_meddle 110 = .ok (.iconst 0, 1) := by decide +kernel
theorem d_M_meddle_111 : decode b_M_meddle 111 = .ok (.bastore, 1) := by decide +kernel
theorem d_M_meddle_112 : decode b_M_meddle 112 = .ok (.iload_n 2, 1) := by decide +kernel
theorem d_M_meddle_113 : decode b_M_meddle 113 = .ok (.ifCond .ne 26, 3) := by decide +kernel
theorem d_M_meddle_116 : decode b_M_meddle 116 = .ok (.aload_n 0, 1) := by decide +kernel
theorem d_M_meddle_117 : decode b_M_meddle 117 = .ok (.dup, 1) := by decide +kernel
theorem d_M_meddle_118 : decode b_M_meddle 118 = .ok (.getfield 110, 3) := by decide +kernel
theorem d_M_meddle_121 : decode b_M_meddle 121 = .ok (.iconst 1, 1) := by decide +kernel
theorem d_M_meddle_122 : decode b_M_meddle 122 = .ok (.iadd, 1) := by decide +kernel
theorem d_M_meddle_123 : decode b_M_meddle 123 = .ok (.putfield 110, 3) := by decide +kernel
theorem d_M_meddle_126 : decode b_M_meddle 126 = .ok (.aload_n 0, 1) := by decide +kernel
theorem d_M_meddle_127 : decode b_M_meddle 127 = .ok (.dup, 1) := by decide +kernel
theorem d_M_meddle_128 : decode b_M_meddle 128 = .ok (.getfield 107, 3) := by decide +kernel
theorem d_M_meddle_131 : decode b_M_meddle 131 = .ok (.iconst 1, 1) := by decide +kernel
theorem d_M_meddle_132 : decode b_M_meddle 132 = .ok (.isub, 1) := by decide +kernel
theorem d_M_meddle_133 : decode b_M_meddle 133 = .ok (.putfield 107, 3) := by decide +kernel
theorem d_M_meddle_136 : decode b_M_meddle 136 = .ok (.goto 61, 3) := by decide +kernel
theorem d_M_meddle_139 : decode b_M_meddle 139 = .ok (.aload_n 0, 1) := by decide +kernel
theorem d_M_meddle_140 : decode b_M_meddle 140 = .ok (.aload_n 0, 1) := by decide +kernel
theorem d_M_meddle_141 : decode b_M_meddle 141 = .ok (.getfield 7, 3) := by decide +kernel
theorem d_M_meddle_144 : decode b_M_meddle 144 = .ok (.iload 4, 2) := by decide +kernel
theorem d_M_meddle_146 : decode b_M_meddle 146 = .ok (.iaload, 1) := by decide +kernel
theorem d_M_meddle_147 : decode b_M_meddle 147 = .ok (.iload_n 3, 1) := by decide +kernel
theorem d_M_meddle_148 : decode b_M_meddle 148 = .ok (.iadd, 1) := by decide +kernel
theorem d_M_meddle_149 : decode b_M_meddle 149 = .ok (.iconst 0, 1) := by decide +kernel
theorem d_M_meddle_150 : decode b_M_meddle 150 = .ok (.aload_n 0, 1) := by decide +kernel
theorem d_M_meddle_151 : decode b_M_meddle 151 = .ok (.getfield 16, 3) := by decide +kernel
theorem d_M_meddle_154 : decode b_M_meddle 154 = .ok (.iload 4, 2) := by decide +kernel
theorem d_M_meddle_156 : decode b_M_meddle 156 = .ok (.iaload, 1) := by decide +kernel
theorem d_M_meddle_157 : decode b_M_meddle 157 = .ok (.aload_n 0, 1) := by decide +kernel
theorem d_M_meddle_158 : decode b_M_meddle 158 = .ok (.getfield 19, 3) := by decide +kernel
theorem d_M_meddle_161 : decode b_M_meddle 161 = .ok (.iload 4, 2) := by decide +kernel
theorem d_M_meddle_163 : decode b_M_meddle 163 = .ok (.iaload, 1) := by decide +kernel
theorem d_M_meddle_164 : decode b_M_meddle 164 = .ok (.invokevirtual 86, 3) := by decide +kernel
theorem d_M_meddle_167 : decode b_M_meddle 167 = .ok (.istore 5, 2) := by decide +kernel
theorem d_M_meddle_169 : decode b_M_meddle 169 = .ok (.aload_n 0, 1) := by decide +kernel
theorem d_M_meddle_170 : decode b_M_meddle 170 = .ok (.getfield 22, 3) := by decide +kernel
theorem d_M_meddle_173 : decode b_M_meddle 173 = .ok (.iload 5, 2) := by decide +kernel
theorem d_M_meddle_175 : decode b_M_meddle 175 = .ok (.aload_n 0, 1) := by decide +kernel
theorem d_M_meddle_176 : decode b_M_meddle 176 = .ok (.getfield 22, 3) := by decide +kernel
theorem d_M_meddle_179 : decode b_M_meddle 179 = .ok (.iload 4, 2) := by decide +kernel
theorem d_M_meddle_181 : decode b_M_meddle 181 = .ok (.iaload, 1) := by decide +kernel
theorem d_M_meddle_182 : decode b_M_meddle 182 = .ok (.iastore, 1) := by decide +kernel
theorem d_M_meddle_183 : decode b_M_meddle 183 = .ok (.aload_n 0, 1) := by decide +kernel
theorem d_M_meddle_184 : decode b_M_meddle 184 = .ok (.getfield 25, 3) := by decide +kernel
theorem d_M_meddle_187 : decode b_M_meddle 187 = .ok (.iload 5, 2) := by decide +kernel
theorem d_M_meddle_189 : decode b_M_meddle 189 = .ok (.aload_n 0, 1) := by decide +kernel
theorem d_M_meddle_190 : decode b_M_meddle 190 = .ok (.getfield 25, 3) := by decide +kernel
theorem d_M_meddle_193 : decode b_M_meddle 193 = .ok (.iload 4, 2) := by decide +kernel
theorem d_M_meddle_195 : decode b_M_meddle 195 = .ok (.iaload, 1) := by decide +kernel
theorem d_M_meddle_196 : decode b_M_meddle 196 = .ok (.iastore, 1) := by decide +kernel
theorem d_M_meddle_197 : decode b_M_meddle 197 = .ok (.iconst 1, 1) := by decide +kernel
theorem d_M_meddle_198 : decode b_M_meddle 198 = .ok (.ireturn, 1) := by decide +kernel
theorem d_M_nth_0 : decode b_M_nth 0 = .ok (.iconst 0, 1) := by decide +kernel
theorem d_M_nth_1 : decode b_M_nth 1 = .ok (.istore_n 3, 1) := by decide +kernel
theorem d_M_nth_2 : decode b_M_nth 2 = .ok (.iload_n 3, 1) := by decide +kernel
theorem d_M_nth_3 : decode b_M_nth 3 = .ok (.aload_n 0, 1) := by decide +kernel
theorem d_M_nth_4 : decode b_M_nth 4 = .ok (.getfield 67, 3) := by decide +kernel
theorem d_M_nth_7 : decode b_M_nth 7 = .ok (.if_icmp .ge 137, 3) := by decide +kernel
theorem d_M_nth_10 : decode b_M_nth 10 = .ok (.aload_n 0, 1) := by decide +kernel
theorem d_M_nth_11 : decode b_M_nth 11 = .ok (.getfield 28, 3) := by decide +kernel
theorem d_M_nth_14 : decode b_M_nth 14 = .ok (.iload_n 3, 1) := by decide +kernel
theorem d_M_nth_15 : decode b_M_nth 15 = .ok (.baload, 1) := by decide +kernel
theorem d_M_nth_16 : decode b_M_nth 16 = .ok (.ifCond .eq 122, 3) := by decide +kernel
theorem d_M_nth_19 : decode b_M_nth 19 = .ok (.iload_n 2, 1) := by decide +kernel
theorem d_M_nth_20 : decode b_M_nth 20 = .ok (.ifCond .ne 12, 3) := by decide +kernel
theorem d_M_nth_23 : decode b_M_nth 23 = .ok (.aload_n 0, 1) := by decide +kernel
theorem d_M_nth_24 : decode b_M_nth 24 = .ok (.getfield 13, 3) := by decide +kernel
theorem d_M_nth_27 : decode b_M_nth 27 = .ok (.iload_n 3, 1) := by decide +kernel
theorem d_M_nth_28 : decode b_M_nth 28 = .ok (.iaload, 1) := by decide +kernel
theorem d_M_nth_29 : decode b_M_nth 29 = .ok (.ifCond .ne 109, 3) := by decide +kernel
theorem d_M_nth_32 : decode b_M_nth 32 = .ok (.iconst 0, 1) := by decide +kernel
theorem d_M_nth_33 : decode b_M_nth 33 = .ok (.istore 4, 2) := by decide +kernel
theorem d_M_nth_35 : decode b_M_nth 35 = .ok (.iconst 0, 1) := by decide +kernel
theorem d_M_nth_36 : decode b_M_nth 36 = .ok (.istore 5, 2) := by decide +kernel
theorem d_M_nth_38 : decode b_M_nth 38 = .ok (.iload 5, 2) := by decide +kernel
theorem d_M_nth_40 : decode b_M_nth 40 = .ok (.aload_n 0, 1) := by decide +kernel
theorem d_M_nth_41 : decode b_M_nth 41 = .ok (.getfield 67, 3) := by decide +kernel
theorem d_M_nth_44 : decode b_M_nth 44 = .ok (.if_icmp .ge 86, 3) := by decide +kernel
theorem d_M_nth_47 : decode b_M_nth 47 = .ok (.aload_n 0, 1) := by decide +kernel
theorem d_M_nth_48 : decode b_M_nth 48 = .ok (.getfield 28, 3) := by decide +kernel
theorem d_M_nth_51 : decode b_M_nth 51 = .ok (.iload 5, 2) := by decide +kernel
theorem d_M_nth_53 : decode b_M_nth 53 = .ok (.baload, 1) := by decide +kernel
theorem d_M_nth_54 : decode b_M_nth 54 = .ok (.ifCond .eq 21, 3) := by decide +kernel
theorem d_M_nth_57 : decode b_M_nth 57 = .ok (.iload_n 2, 1) := by decide +kernel
theorem d_M_nth_58 : decode b_M_nth 58 = .ok (.ifCond .ne 13, 3) := by decide +kernel
theorem d_M_nth_61 : decode b_M_nth 61 = .ok (.aload_n 0, 1) := by decide +kernel
theorem d_M_nth_62 : decode b_M_nth 62 = .ok (.getfield 13, 3) := by decide +kernel
theorem d_M_nth_65 : decode b_M_nth 65 = .ok (.iload 5, 2) := by decide +kernel
theorem d_M_nth_67 : decode b_M_nth 67 = .ok (.iaload, 1) := by decide +kernel
theorem d_M_nth_68 : decode b_M_nth 68 = .ok (.ifCond .ne 7, 3) := by decide +kernel
theorem d_M_nth_71 : decode b_M_nth 71 = .ok (.iconst 1, 1) := by decide +kernel
theorem d_M_nth_72 : decode b_M_nth 72 = .ok (.goto 4, 3) := by decide +kernel
theorem d_M_nth_75 : decode b_M_nth 75 = .ok (.iconst 0, 1) := by decide +kernel
theorem d_M_nth_76 : decode b_M_nth 76 = .ok (.istore 6, 2) := by decide +kernel
theorem d_M_nth_78 : decode b_M_nth 78 = .ok (.iload 6, 2) := by decide +kernel
theorem d_M_nth_80 : decode b_M_nth 80 = .ok (.ifCond .eq 44, 3) := by decide +kernel
theorem d_M_nth_83 : decode b_M_nth 83 = .ok (.aload_n 0, 1) := by decide +kernel
theorem d_M_nth_84 : decode b_M_nth 84 = .ok (.getfield 7, 3) := by decide +kernel
theorem d_M_nth_87 : decode b_M_nth 87 = .ok (.iload 5, 2) := by decide +kernel
theorem d_M_nth_89 : decode b_M_nth 89 = .ok (.iaload, 1) := by decide +kernel
theorem d_M_nth_90 : decode b_M_nth 90 = .ok (.aload_n 0, 1) := by decide +kernel
theorem d_M_nth_91 : decode b_M_nth 91 = .ok (.getfield 7, 3) := by decide +kernel
theorem d_M_nth_94 : decode b_M_nth 94 = .ok (.iload_n 3, 1) := by decide +kernel
theorem d_M_nth_95 : decode b_M_nth 95 = .ok (.iaload, 1) := by decide +kernel
theorem d_M_nth_96 : decode b_M_nth 96 = .ok (.if_icmp .lt 25, 3) := by decide +kernel
theorem d_M_nth_99 : decode b_M_nth 99 = .ok (.aload_n 0, 1) := by decide +kernel
theorem d_M_nth_100 : decode b_M_nth 100 = .ok (.getfield 7, 3) := by decide +kernel
theorem d_M_nth_103 : decode b_M_nth 103 = .ok (.iload 5, 2) := by decide +kernel
theorem d_M_nth_105 : decode b_M_nth 105 = .ok (.iaload, 1) := by decide +kernel
theorem d_M_nth_106 : decode b_M_nth 106 = .ok (.aload_n 0, 1) := by decide +kernel
theorem d_M_nth_107 : decode b_M_nth 107 = .ok (.getfield 7, 3) := by decide +kernel
theorem d_M_nth_110 : decode b_M_nth 110 = .ok (.iload_n 3, 1) := by decide +kernel
theorem d_M_nth_111 : decode b_M_nth 111 = .ok (.iaload, 1) := by decide +kernel
theorem d_M_nth_112 : decode b_M_nth 112 = .ok (.if_icmp .ne 12, 3) := by decide +kernel
theorem d_M_nth_115 : decode b_M_nth 115 = .ok (.iload 5, 2) := by decide +kernel
theorem d_M_nth_117 : decode b_M_nth 117 = .ok (.iload_n 3, 1) := by decide +kernel
theorem d_M_nth_118 : decode b_M_nth 118 = .ok (.if_icmp .ge 6, 3) := by decide +kernel
theorem d_M_nth_121 : decode b_M_nth 121 = .ok (.iinc 4 1, 3) := by decide +kernel
theorem d_M_nth_124 : decode b_M_nth 124 = .ok (.iinc 5 1, 3) := by decide +kernel
theorem d_M_nth_127 : decode b_M_nth 127 = .ok (.goto (-89), 3) := by decide +kernel
theorem d_M_nth_130 : decode b_M_nth 130 = .ok (.iload 4, 2) := by decide +kernel
theorem d_M_nth_132 : decode b_M_nth 132 = .ok (.iload_n 1, 1) := by decide +kernel
theorem d_M_nth_133 : decode b_M_nth 133 = .ok (.if_icmp .ne 5, 3) := by decide +kernel
theorem d_M_nth_136 : decode b_M_nth 136 = .ok (.iload_n 3, 1) := by decide +kernel
theorem d_M_nth_137 : decode b_M_nth 137 = .ok (.ireturn, 1) := by decide +kernel
theorem d_M_nth_138 : decode b_M_nth 138 = .ok (.iinc 3 1, 3) := by decide +kernel
theorem d_M_nth_141 : decode b_M_nth 141 = .ok (.goto (-139), 3) := by decide +kernel
theorem d_M_nth_144 : decode b_M_nth 144 = .ok (.iconst (-1), 1) := by decide +kernel
theorem d_M_nth_145 : decode b_M_nth 145 = .ok (.ireturn, 1) := by decide +kernel
theorem d_M_step_0 : decode b_M_step 0 = .ok (.aload_n 0, 1) := by decide +kernel
theorem d_M_step_1 : decode b_M_step 1 = .ok (.iconst 0, 1) := by decide +kernel
theorem d_M_step_2 : decode b_M_step 2 = .ok (.putfield 51, 3) := by decide +kernel
theorem d_M_step_5 : decode b_M_step 5 = .ok (.aload_n 0, 1) := by decide +kernel
theorem d_M_step_6 : decode b_M_step 6 = .ok (.invokevirtual 148, 3) := by decide +kernel
theorem d_M_step_9 : decode b_M_step 9 = .ok (.istore_n 1, 1) := by decide +kernel
theorem d_M_step_10 : decode b_M_step 10 = .ok (.iload_n 1, 1) := by decide +kernel
theorem d_M_step_11 : decode b_M_step 11 = .ok (.ifCond .ge 7, 3) := by decide +kernel
theorem d_M_step_14 : decode b_M_step 14 = .ok (.iconst (-1), 1) := by decide +kernel
theorem d_M_step_15 : decode b_M_step 15 = .ok (.goto 8, 3) := by decide +kernel
theorem d_M_step_18 : decode b_M_step 18 = .ok (.aload_n 0, 1) := by decide +kernel
theorem d_M_step_19 : decode b_M_step 19 = .ok (.iload_n 1, 1) := by decide +kernel
theorem d_M_step_20 : decode b_M_step 20 = .ok (.invokevirtual 152, 3) := by decide +kernel
theorem d_M_step_23 : decode b_M_step 23 = .ok (.ireturn, 1) := by decide +kernel
theorem d_M_least_0 : decode b_M_least 0 = .ok (.iconst (-1), 1) := by decide +kernel
theorem d_M_least_1 : decode b_M_least 1 = .ok (.istore_n 1, 1) := by decide +kernel
theorem d_M_least_2 : decode b_M_least 2 = .ok (.iconst 0, 1) := by decide +kernel
theorem d_M_least_3 : decode b_M_least 3 = .ok (.istore_n 2, 1) := by decide +kernel
theorem d_M_least_4 : decode b_M_least 4 = .ok (.iload_n 2, 1) := by decide +kernel
theorem d_M_least_5 : decode b_M_least 5 = .ok (.aload_n 0, 1) := by decide +kernel
theorem d_M_least_6 : decode b_M_least 6 = .ok (.getfield 67, 3) := by decide +kernel
theorem d_M_least_9 : decode b_M_least 9 = .ok (.if_icmp .ge 39, 3) := by decide +kernel
theorem d_M_least_12 : decode b_M_least 12 = .ok (.aload_n 0, 1) := by decide +kernel
theorem d_M_least_13 : decode b_M_least 13 = .ok (.getfield 28, 3) := by decide +kernel
theorem d_M_least_16 : decode b_M_least 16 = .ok (.iload_n 2, 1) := by decide +kernel
theorem d_M_least_17 : decode b_M_least 17 = .ok (.baload, 1) := by decide +kernel
theorem d_M_least_18 : decode b_M_least 18 = .ok (.ifCond .eq 24, 3) := by decide +kernel
theorem d_M_least_21 : decode b_M_least 21 = .ok (.iload_n 1, 1) := by decide +kernel
theorem d_M_least_22 : decode b_M_least 22 = .ok (.ifCond .lt 18, 3) := by decide +kernel
theorem d_M_least_25 : decode b_M_least 25 = .ok (.aload_n 0, 1) := by decide +kernel
theorem d_M_least_26 : decode b_M_least 26 = .ok (.getfield 7, 3) := by decide +kernel
theorem d_M_least_29 : decode b_M_least 29 = .ok (.iload_n 2, 1) := by decide +kernel
theorem d_M_least_30 : decode b_M_least 30 = .ok (.iaload, 1) := by decide +kernel
theorem d_M_least_31 : decode b_M_least 31 = .ok (.aload_n 0, 1) := by decide +kernel
theorem d_M_least_32 : decode b_M_least 32 = .ok (.getfield 7, 3) := by decide +kernel
theorem d_M_least_35 : decode b_M_least 35 = .ok (.iload_n 1, 1) := by decide +kernel
theorem d_M_least_36 : decode b_M_least 36 = .ok (.iaload, 1) := by decide +kernel
theorem d_M_least_37 : decode b_M_least 37 = .ok (.if_icmp .ge 5, 3) := by decide +kernel
theorem d_M_least_40 : decode b_M_least 40 = .ok (.iload_n 2, 1) := by decide +kernel
theorem d_M_least_41 : decode b_M_least 41 = .ok (.istore_n 1, 1) := by decide +kernel
theorem d_M_least_42 : decode b_M_least 42 = .ok (.iinc 2 1, 3) := by decide +kernel
theorem d_M_least_45 : decode b_M_least 45 = .ok (.goto (-41), 3) := by decide +kernel
theorem d_M_least_48 : decode b_M_least 48 = .ok (.iload_n 1, 1) := by decide +kernel
theorem d_M_least_49 : decode b_M_least 49 = .ok (.ireturn, 1) := by decide +kernel
theorem d_M_happen_0 : decode b_M_happen 0 = .ok (.aload_n 0, 1) := by decide +kernel
theorem d_M_happen_1 : decode b_M_happen 1 = .ok (.getfield 28, 3) := by decide +kernel
theorem d_M_happen_4 : decode b_M_happen 4 = .ok (.iload_n 1, 1) := by decide +kernel
theorem d_M_happen_5 : decode b_M_happen 5 = .ok (.iconst 0, 1) := by decide +kernel
theorem d_M_happen_6 : decode b_M_happen 6 = .ok (.bastore, 1) := by decide +kernel
theorem d_M_happen_7 : decode b_M_happen 7 = .ok (.aload_n 0, 1) := by decide +kernel
theorem d_M_happen_8 : decode b_M_happen 8 = .ok (.aload_n 0, 1) := by decide +kernel
theorem d_M_happen_9 : decode b_M_happen 9 = .ok (.getfield 7, 3) := by decide +kernel
theorem d_M_happen_12 : decode b_M_happen 12 = .ok (.iload_n 1, 1) := by decide +kernel
theorem d_M_happen_13 : decode b_M_happen 13 = .ok (.iaload, 1) := by decide +kernel
theorem d_M_happen_14 : decode b_M_happen 14 = .ok (.putfield 83, 3) := by decide +kernel
theorem d_M_happen_17 : decode b_M_happen 17 = .ok (.aload_n 0, 1) := by decide +kernel
theorem d_M_happen_18 : decode b_M_happen 18 = .ok (.getfield 16, 3) := by decide +kernel
theorem d_M_happen_21 : decode b_M_happen 21 = .ok (.iload_n 1, 1) := by decide +kernel
theorem d_M_happen_22 : decode b_M_happen 22 = .ok (.iaload, 1) := by decide +kernel
theorem d_M_happen_23 : decode b_M_happen 23 = .ok (.aload_n 0, 1) := by decide +kernel
theorem d_M_happen_24 : decode b_M_happen 24 = .ok (.getfield 13, 3) := by decide +kernel
theorem d_M_happen_27 : decode b_M_happen 27 = .ok (.iload_n 1, 1) := by decide +kernel
theorem d_M_happen_28 : decode b_M_happen 28 = .ok (.iaload, 1) := by decide +kernel
theorem d_M_happen_29 : decode b_M_happen 29 = .ok (.iconst 1, 1) := by decide +kernel
theorem d_M_happen_30 : decode b_M_happen 30 = .ok (.if_icmp .ne 8, 3) := by decide +kernel
theorem d_M_happen_33 : decode b_M_happen 33 = .ok (.bipush 32, 2) := by decide +kernel
theorem d_M_happen_35 : decode b_M_happen 35 = .ok (.goto 19, 3) := by decide +kernel
theorem d_M_happen_38 : decode b_M_happen 38 = .ok (.aload_n 0, 1) := by decide +kernel
theorem d_M_happen_39 : decode b_M_happen 39 = .ok (.getfield 13, 3) := by decide +kernel
theorem d_M_happen_42 : decode b_M_happen 42 = .ok (.iload_n 1, 1) := by decide +kernel
theorem d_M_happen_43 : decode b_M_happen 43 = .ok (.iaload, 1) := by decide +kernel
theorem d_M_happen_44 : decode b_M_happen 44 = .ok (.iconst 2, 1) := by decide +kernel
theorem d_M_happen_45 : decode b_M_happen 45 = .ok (.if_icmp .ne 8, 3) := by decide +kernel
theorem d_M_happen_48 : decode b_M_happen 48 = .ok (.bipush 48, 2) := by decide +kernel
theorem d_M_happen_50 : decode b_M_happen 50 = .ok (.goto 4, 3) := by decide +kernel
theorem d_M_happen_53 : decode b_M_happen 53 = .ok (.iconst 0, 1) := by decide +kernel
theorem d_M_happen_54 : decode b_M_happen 54 = .ok (.iadd, 1) := by decide +kernel
theorem d_M_happen_55 : decode b_M_happen 55 = .ok (.istore_n 2, 1) := by decide +kernel
theorem d_M_happen_56 : decode b_M_happen 56 = .ok (.aload_n 0, 1) := by decide +kernel
theorem d_M_happen_57 : decode b_M_happen 57 = .ok (.getfield 13, 3) := by decide +kernel
theorem d_M_happen_60 : decode b_M_happen 60 = .ok (.iload_n 1, 1) := by decide +kernel
theorem d_M_happen_61 : decode b_M_happen 61 = .ok (.iaload, 1) := by decide +kernel
theorem d_M_happen_62 : decode b_M_happen 62 = .ok (.ifCond .ne 102, 3) := by decide +kernel
theorem d_M_happen_65 : decode b_M_happen 65 = .ok (.aload_n 0, 1) := by decide +kernel
theorem d_M_happen_66 : decode b_M_happen 66 = .ok (.dup, 1) := by decide +kernel
theorem d_M_happen_67 : decode b_M_happen 67 = .ok (.getfield 107, 3) := by decide +kernel
theorem d_M_happen_70 : decode b_M_happen 70 = .ok (.iconst 1, 1) := by decide +kernel
theorem d_M_happen_71 : decode b_M_happen 71 = .ok (.isub, 1) := by decide +kernel
theorem d_M_happen_72 : decode b_M_happen 72 = .ok (.putfield 107, 3) := by decide +kernel
theorem d_M_happen_75 : decode b_M_happen 75 = .ok (.aload_n 0, 1) := by decide +kernel
theorem d_M_happen_76 : decode b_M_happen 76 = .ok (.aload_n 0, 1) := by decide +kernel
theorem d_M_happen_77 : decode b_M_happen 77 = .ok (.getfield 19, 3) := by decide +kernel
theorem d_M_happen_80 : decode b_M_happen 80 = .ok (.iload_n 1, 1) := by decide +kernel
theorem d_M_happen_81 : decode b_M_happen 81 = .ok (.iaload, 1) := by decide +kernel
theorem d_M_happen_82 : decode b_M_happen 82 = .ok (.aload_n 0, 1) := by decide +kernel
theorem d_M_happen_83 : decode b_M_happen 83 = .ok (.getfield 16, 3) := by decide +kernel
theorem d_M_happen_86 : decode b_M_happen 86 = .ok (.iload_n 1, 1) := by decide +kernel
theorem d_M_happen_87 : decode b_M_happen 87 = .ok (.iaload, 1) := by decide +kernel
theorem d_M_happen_88 : decode b_M_happen 88 = .ok (.invokevirtual 128, 3) := by decide +kernel
theorem d_M_happen_91 : decode b_M_happen 91 = .ok (.ifCond .ne 20, 3) := by decide +kernel
theorem d_M_happen_94 : decode b_M_happen 94 = .ok (.aload_n 0, 1) := by decide +kernel
theorem d_M_happen_95 : decode b_M_happen 95 = .ok (.getfield 142, 3) := by decide +kernel
theorem d_M_happen_98 : decode b_M_happen 98 = .ok (.aload_n 0, 1) := by decide +kernel
theorem d_M_happen_99 : decode b_M_happen 99 = .ok (.getfield 16, 3) := by decide +kernel
theorem d_M_happen_102 : decode b_M_happen 102 = .ok (.iload_n 1, 1) := by decide +kernel
theorem d_M_happen_103 : decode b_M_happen 103 = .ok (.iaload, 1) := by decide +kernel
theorem d_M_happen_104 : decode b_M_happen 104 = .ok (.ishr, 1) := by decide +kernel
theorem d_M_happen_105 : decode b_M_happen 105 = .ok (.iconst 1, 1) := by decide +kernel
theorem d_M_happen_106 : decode b_M_happen 106 = .ok (.iand, 1) := by decide +kernel
theorem d_M_happen_107 : decode b_M_happen 107 = .ok (.iconst 1, 1) := by decide +kernel
theorem d_M_happen_108 : decode b_M_happen 108 = .ok (.if_icmp .ne 7, 3) := by decide +kernel
theorem d_M_happen_111 : decode b_M_happen 111 = .ok (.iconst 1, 1) := by decide +kernel
theorem d_M_happen_112 : decode b_M_happen 112 = .ok (.goto 4, 3) := by decide +kernel
theorem d_M_happen_115 : decode b_M_happen 115 = .ok (.iconst 0, 1) := by decide +kernel
theorem d_M_happen_116 : decode b_M_happen 116 = .ok (.istore_n 3, 1) := by decide +kernel
theorem d_M_happen_117 : decode b_M_happen 117 = .ok (.aload_n 0, 1) := by decide +kernel
theorem d_M_happen_118 : decode b_M_happen 118 = .ok (.dup, 1) := by decide +kernel
theorem d_M_happen_119 : decode b_M_happen 119 = .ok (.getfield 110, 3) := by decide +kernel
theorem d_M_happen_122 : decode b_M_happen 122 = .ok (.iload_n 3, 1) := by decide +kernel
theorem d_M_happen_123 : decode b_M_happen 123 = .ok (.ifCond .eq 7, 3) := by decide +kernel
theorem d_M_happen_126 : decode b_M_happen 126 = .ok (.iconst 1, 1) := by decide +kernel
theorem d_M_happen_127 : decode b_M_happen 127 = .ok (.goto 4, 3) := by decide +kernel
theorem d_M_happen_130 : decode b_M_happen 130 = .ok (.iconst 0, 1) := by decide +kernel
theorem d_M_happen_131 : decode b_M_happen 131 = .ok (.iadd, 1) := by decide +kernel
theorem d_M_happen_132 : decode b_M_happen 132 = .ok (.putfield 110, 3) := by decide +kernel
theorem d_M_happen_135 : decode b_M_happen 135 = .ok (.iload_n 2, 1) := by decide +kernel
theorem d_M_happen_136 : decode b_M_happen 136 = .ok (.iload_n 3, 1) := by decide +kernel
theorem d_M_happen_137 : decode b_M_happen 137 = .ok (.ifCond .eq 8, 3) := by decide +kernel
theorem d_M_happen_140 : decode b_M_happen 140 = .ok (.bipush 16, 2) := by decide +kernel
theorem d_M_happen_142 : decode b_M_happen 142 = .ok (.goto 4, 3) := by decide +kernel
theorem d_M_happen_145 : decode b_M_happen 145 = .ok (.iconst 0, 1) := by decide +kernel
theorem d_M_happen_146 : decode b_M_happen 146 = .ok (.iadd, 1) := by decide +kernel
theorem d_M_happen_147 : decode b_M_happen 147 = .ok (.istore_n 2, 1) := by decide +kernel
theorem d_M_happen_148 : decode b_M_happen 148 = .ok (.aload_n 0, 1) := by decide +kernel
theorem d_M_happen_149 : decode b_M_happen 149 = .ok (.iload_n 3, 1) := by decide +kernel
theorem d_M_happen_150 : decode b_M_happen 150 = .ok (.ifCond .eq 10, 3) := by decide +kernel
theorem d_M_happen_153 : decode b_M_happen 153 = .ok (.aload_n 0, 1) := by decide +kernel
theorem d_M_happen_154 : decode b_M_happen 154 = .ok (.getfield 47, 3) := by decide +kernel
theorem d_M_happen_157 : decode b_M_happen 157 = .ok (.goto 4, 3) := by decide +kernel
theorem d_M_happen_160 : decode b_M_happen 160 = .ok (.iload_n 1, 1) := by decide +kernel
theorem d_M_happen_161 : decode b_M_happen 161 = .ok (.putfield 47, 3) := by decide +kernel
theorem d_M_happen_164 : decode b_M_happen 164 = .ok (.aload_n 0, 1) := by decide +kernel
theorem d_M_happen_165 : decode b_M_happen 165 = .ok (.getfield 41, 3) := by decide +kernel
theorem d_M_happen_168 : decode b_M_happen 168 = .ok (.aload_n 0, 1) := by decide +kernel
theorem d_M_happen_169 : decode b_M_happen 169 = .ok (.getfield 145, 3) := by decide +kernel
theorem d_M_happen_172 : decode b_M_happen 172 = .ok (.bipush 32, 2) := by decide +kernel
theorem d_M_happen_174 : decode b_M_happen 174 = .ok (.irem, 1) := by decide +kernel
theorem d_M_happen_175 : decode b_M_happen 175 = .ok (.iload_n 2, 1) := by decide +kernel
theorem d_M_happen_176 : decode b_M_happen 176 = .ok (.iastore, 1) := by decide +kernel
theorem d_M_happen_177 : decode b_M_happen 177 = .ok (.aload_n 0, 1) := by decide +kernel
theorem d_M_happen_178 : decode b_M_happen 178 = .ok (.getfield 44, 3) := by decide +kernel
theorem d_M_happen_181 : decode b_M_happen 181 = .ok (.aload_n 0, 1) := by decide +kernel
theorem d_M_happen_182 : decode b_M_happen 182 = .ok (.getfield 145, 3) := by decide +kernel
theorem d_M_happen_185 : decode b_M_happen 185 = .ok (.bipush 32, 2) := by decide +kernel
theorem d_M_happen_187 : decode b_M_happen 187 = .ok (.irem, 1) := by decide +kernel
theorem d_M_happen_188 : decode b_M_happen 188 = .ok (.iload_n 1, 1) := by decide +kernel
theorem d_M_happen_189 : decode b_M_happen 189 = .ok (.iastore, 1) := by decide +kernel
theorem d_M_happen_190 : decode b_M_happen 190 = .ok (.aload_n 0, 1) := by decide +kernel
theorem d_M_happen_191 : decode b_M_happen 191 = .ok (.dup, 1) := by decide +kernel
theorem d_M_happen_192 : decode b_M_happen 192 = .ok (.getfield 145, 3) := by decide +kernel
theorem d_M_happen_195 : decode b_M_happen 195 = .ok (.iconst 1, 1) := by decide +kernel
theorem d_M_happen_196 : decode b_M_happen 196 = .ok (.iadd, 1) := by decide +kernel
theorem d_M_happen_197 : decode b_M_happen 197 = .ok (.putfield 145, 3) := by decide +kernel
theorem d_M_happen_200 : decode b_M_happen 200 = .ok (.iload_n 2, 1) := by decide +kernel
theorem d_M_happen_201 : decode b_M_happen 201 = .ok (.ireturn, 1) := by decide +kernel
theorem d_M_run_0 : decode b_M_run 0 = .ok (.aload_n 0, 1) := by decide +kernel
theorem d_M_run_1 : decode b_M_run 1 = .ok (.iconst 0, 1) := by decide +kernel
theorem d_M_run_2 : decode b_M_run 2 = .ok (.putfield 51, 3) := by decide +kernel
theorem d_M_run_5 : decode b_M_run 5 = .ok (.iload_n 1, 1) := by decide +kernel
theorem d_M_run_6 : decode b_M_run 6 = .ok (.iconst 1, 1) := by decide +kernel
theorem d_M_run_7 : decode b_M_run 7 = .ok (.sipush 1000, 3) := by decide +kernel
theorem d_M_run_10 : decode b_M_run 10 = .ok (.invokestatic 54, 3) := by decide +kernel
theorem d_M_run_13 : decode b_M_run 13 = .ok (.ifCond .ne 9, 3) := by decide +kernel
theorem d_M_run_16 : decode b_M_run 16 = .ok (.aload_n 0, 1) := by decide +kernel
theorem d_M_run_17 : decode b_M_run 17 = .ok (.iconst 1, 1) := by decide +kernel
theorem d_M_run_18 : decode b_M_run 18 = .ok (.invokevirtual 58, 3) := by decide +kernel
theorem d_M_run_21 : decode b_M_run 21 = .ok (.ireturn, 1) := by decide +kernel
theorem d_M_run_22 : decode b_M_run 22 = .ok (.aload_n 0, 1) := by decide +kernel
theorem d_M_run_23 : decode b_M_run 23 = .ok (.getfield 83, 3) := by decide +kernel
theorem d_M_run_26 : decode b_M_run 26 = .ok (.iload_n 1, 1) := by decide +kernel
theorem d_M_run_27 : decode b_M_run 27 = .ok (.iadd, 1) := by decide +kernel
theorem d_M_run_28 : decode b_M_run 28 = .ok (.istore_n 2, 1) := by decide +kernel
theorem d_M_run_29 : decode b_M_run 29 = .ok (.iconst 0, 1) := by decide +kernel
theorem d_M_run_30 : decode b_M_run 30 = .ok (.istore_n 3, 1) := by decide +kernel
theorem d_M_run_31 : decode b_M_run 31 = .ok (.aload_n 0, 1) := by decide +kernel
theorem d_M_run_32 : decode b_M_run 32 = .ok (.invokevirtual 148, 3) := by decide +kernel
theorem d_M_run_35 : decode b_M_run 35 = .ok (.istore 4, 2) := by decide +kernel
theorem d_M_run_37 : decode b_M_run 37 = .ok (.iload 4, 2) := by decide +kernel
theorem d_M_run_39 : decode b_M_run 39 = .ok (.ifCond .lt 33, 3) := by decide +kernel
theorem d_M_run_42 : decode b_M_run 42 = .ok (.aload_n 0, 1) := by decide +kernel
theorem d_M_run_43 : decode b_M_run 43 = .ok (.getfield 7, 3) := by decide +kernel
theorem d_M_run_46 : decode b_M_run 46 = .ok (.iload 4, 2) := by decide +kernel
theorem d_M_run_48 : decode b_M_run 48 = .ok (.iaload, 1) := by decide +kernel
theorem d_M_run_49 : decode b_M_run 49 = .ok (.iload_n 2, 1) := by decide +kernel
theorem d_M_run_50 : decode b_M_run 50 = .ok (.if_icmp .gt 22, 3) := by decide +kernel
theorem d_M_run_53 : decode b_M_run 53 = .ok (.aload_n 0, 1) := by decide +kernel
theorem d_M_run_54 : decode b_M_run 54 = .ok (.iload 4, 2) := by decide +kernel
theorem d_M_run_56 : decode b_M_run 56 = .ok (.invokevirtual 152, 3) := by decide +kernel
theorem d_M_run_59 : decode b_M_run 59 = .ok (.pop, 1) := by decide +kernel
theorem d_M_run_60 : decode b_M_run 60 = .ok (.iinc 3 1, 3) := by decide +kernel
theorem d_M_run_63 : decode b_M_run 63 = .ok (.aload_n 0, 1) := by decide +kernel
theorem d_M_run_64 : decode b_M_run 64 = .ok (.invokevirtual 148, 3) := by decide +kernel
theorem d_M_run_67 : decode b_M_run 67 = .ok (.istore 4, 2) := by decide +kernel
theorem d_M_run_69 : decode b_M_run 69 = .ok (.goto (-32), 3) := by decide +kernel
theorem d_M_run_72 : decode b_M_run 72 = .ok (.aload_n 0, 1) := by decide +kernel
theorem d_M_run_73 : decode b_M_run 73 = .ok (.iload_n 2, 1) := by decide +kernel
theorem d_M_run_74 : decode b_M_run 74 = .ok (.putfield 83, 3) := by decide +kernel
theorem d_M_run_77 : decode b_M_run 77 = .ok (.iload_n 3, 1) := by decide +kernel
theorem d_M_run_78 : decode b_M_run 78 = .ok (.ireturn, 1) := by decide +kernel
theorem d_M_delay_0 : decode b_M_delay 0 = .ok (.aload_n 0, 1) := by decide +kernel
theorem d_M_delay_1 : decode b_M_delay 1 = .ok (.iconst 0, 1) := by decide +kernel
theorem d_M_delay_2 : decode b_M_delay 2 = .ok (.putfield 51, 3) := by decide +kernel
theorem d_M_delay_5 : decode b_M_delay 5 = .ok (.iload_n 1, 1) := by decide +kernel
theorem d_M_delay_6 : decode b_M_delay 6 = .ok (.invokestatic 74, 3) := by decide +kernel
theorem d_M_delay_9 : decode b_M_delay 9 = .ok (.ifCond .eq 10, 3) := by decide +kernel
theorem d_M_delay_12 : decode b_M_delay 12 = .ok (.iload_n 2, 1) := by decide +kernel
theorem d_M_delay_13 : decode b_M_delay 13 = .ok (.invokestatic 74, 3) := by decide +kernel
theorem d_M_delay_16 : decode b_M_delay 16 = .ok (.ifCond .ne 9, 3) := by decide +kernel
theorem d_M_delay_19 : decode b_M_delay 19 = .ok (.aload_n 0, 1) := by decide +kernel
theorem d_M_delay_20 : decode b_M_delay 20 = .ok (.iconst 1, 1) := by decide +kernel
theorem d_M_delay_21 : decode b_M_delay 21 = .ok (.invokevirtual 58, 3) := by decide +kernel
theorem d_M_delay_24 : decode b_M_delay 24 = .ok (.ireturn, 1) := by decide +kernel
theorem d_M_delay_25 : decode b_M_delay 25 = .ok (.iload_n 3, 1) := by decide +kernel
theorem d_M_delay_26 : decode b_M_delay 26 = .ok (.iconst 0, 1) := by decide +kernel
theorem d_M_delay_27 : decode b_M_delay 27 = .ok (.sipush 1000, 3) := by decide +kernel
theorem d_M_delay_30 : decode b_M_delay 30 = .ok (.invokestatic 54, 3) := by decide +kernel
theorem d_M_delay_33 : decode b_M_delay 33 = .ok (.ifCond .ne 9, 3) := by decide +kernel
theorem d_M_delay_36 : decode b_M_delay 36 = .ok (.aload_n 0, 1) := by decide +kernel
theorem d_M_delay_37 : decode b_M_delay 37 = .ok (.iconst 2, 1) := by decide +kernel
theorem d_M_delay_38 : decode b_M_delay 38 = .ok (.invokevirtual 58, 3) := by decide +kernel
theorem d_M_delay_41 : decode b_M_delay 41 = .ok (.ireturn, 1) := by decide +kernel
theorem d_M_delay_42 : decode b_M_delay 42 = .ok (.aload_n 0, 1) := by decide +kernel
theorem d_M_delay_43 : decode b_M_delay 43 = .ok (.getfield 38, 3) := by decide +kernel
theorem d_M_delay_46 : decode b_M_delay 46 = .ok (.bipush 16, 2) := by decide +kernel
theorem d_M_delay_48 : decode b_M_delay 48 = .ok (.iload_n 1, 1) := by decide +kernel
theorem d_M_delay_49 : decode b_M_delay 49 = .ok (.imul, 1) := by decide +kernel
theorem d_M_delay_50 : decode b_M_delay 50 = .ok (.iload_n 2, 1) := by decide +kernel
theorem d_M_delay_51 : decode b_M_delay 51 = .ok (.iadd, 1) := by decide +kernel
theorem d_M_delay_52 : decode b_M_delay 52 = .ok (.iaload, 1) := by decide +kernel
theorem d_M_delay_53 : decode b_M_delay 53 = .ok (.istore 4, 2) := by decide +kernel
theorem d_M_delay_55 : decode b_M_delay 55 = .ok (.aload_n 0, 1) := by decide +kernel
theorem d_M_delay_56 : decode b_M_delay 56 = .ok (.getfield 38, 3) := by decide +kernel
theorem d_M_delay_59 : decode b_M_delay 59 = .ok (.bipush 16, 2) := by decide +kernel
theorem d_M_delay_61 : decode b_M_delay 61 = .ok (.iload_n 1, 1) := by decide +kernel
theorem d_M_delay_62 : decode b_M_delay 62 = .ok (.imul, 1) := by decide +kernel
theorem d_M_delay_63 : decode b_M_delay 63 = .ok (.iload_n 2, 1) := by decide +kernel
theorem d_M_delay_64 : decode b_M_delay 64 = .ok (.iadd, 1) := by decide +kernel
theorem d_M_delay_65 : decode b_M_delay 65 = .ok (.iload_n 3, 1) := by decide +kernel
theorem d_M_delay_66 : decode b_M_delay 66 = .ok (.iastore, 1) := by decide +kernel
theorem d_M_delay_67 : decode b_M_delay 67 = .ok (.iload 4, 2) := by decide +kernel
theorem d_M_delay_69 : decode b_M_delay 69 = .ok (.ireturn, 1) := by decide +kernel
theorem d_M_part_0 : decode b_M_part 0 = .ok (.aload_n 0, 1) := by decide +kernel
theorem d_M_part_1 : decode b_M_part 1 = .ok (.iconst 0, 1) := by decide +kernel
theorem d_M_part_2 : decode b_M_part 2 = .ok (.putfield 51, 3) := by decide +kernel
theorem d_M_part_5 : decode b_M_part 5 = .ok (.iload_n 1, 1) := by decide +kernel
theorem d_M_part_6 : decode b_M_part 6 = .ok (.iconst 0, 1) := by decide +kernel
theorem d_M_part_7 : decode b_M_part 7 = .ok (.ldc 155, 2) := by decide +kernel
theorem d_M_part_9 : decode b_M_part 9 = .ok (.invokestatic 54, 3) := by decide +kernel
theorem d_M_part_12 : decode b_M_part 12 = .ok (.ifCond .ne 9, 3) := by decide +kernel
theorem d_M_part_15 : decode b_M_part 15 = .ok (.aload_n 0, 1) := by decide +kernel
theorem d_M_part_16 : decode b_M_part 16 = .ok (.iconst 1, 1) := by decide +kernel
theorem d_M_part_17 : decode b_M_part 17 = .ok (.invokevirtual 58, 3) := by decide +kernel
theorem d_M_part_20 : decode b_M_part 20 = .ok (.ireturn, 1) := by decide +kernel
theorem d_M_part_21 : decode b_M_part 21 = .ok (.aload_n 0, 1) := by decide +kernel
theorem d_M_part_22 : decode b_M_part 22 = .ok (.getfield 104, 3) := by decide +kernel
theorem d_M_part_25 : decode b_M_part 25 = .ok (.istore_n 2, 1) := by decide +kernel
theorem d_M_part_26 : decode b_M_part 26 = .ok (.aload_n 0, 1) := by decide +kernel
theorem d_M_part_27 : decode b_M_part 27 = .ok (.iload_n 1, 1) := by decide +kernel
theorem d_M_part_28 : decode b_M_part 28 = .ok (.putfield 104, 3) := by decide +kernel
theorem d_M_part_31 : decode b_M_part 31 = .ok (.iload_n 2, 1) := by decide +kernel
theorem d_M_part_32 : decode b_M_part 32 = .ok (.ireturn, 1) := by decide +kernel
theorem d_M_down_0 : decode b_M_down 0 = .ok (.aload_n 0, 1) := by decide +kernel
theorem d_M_down_1 : decode b_M_down 1 = .ok (.iconst 0, 1) := by decide +kernel
theorem d_M_down_2 : decode b_M_down 2 = .ok (.putfield 51, 3) := by decide +kernel
theorem d_M_down_5 : decode b_M_down 5 = .ok (.iload_n 1, 1) := by decide +kernel
theorem d_M_down_6 : decode b_M_down 6 = .ok (.iconst 0, 1) := by decide +kernel
theorem d_M_down_7 : decode b_M_down 7 = .ok (.ldc 155, 2) := by decide +kernel
theorem d_M_down_9 : decode b_M_down 9 = .ok (.invokestatic 54, 3) := by decide +kernel
theorem d_M_down_12 : decode b_M_down 12 = .ok (.ifCond .ne 9, 3) := by decide +kernel
theorem d_M_down_15 : decode b_M_down 15 = .ok (.aload_n 0, 1) := by decide +kernel
theorem d_M_down_16 : decode b_M_down 16 = .ok (.iconst 1, 1) := by decide +kernel
theorem d_M_down_17 : decode b_M_down 17 = .ok (.invokevirtual 58, 3) := by decide +kernel
theorem d_M_down_20 : decode b_M_down 20 = .ok (.ireturn, 1) := by decide +kernel
theorem d_M_down_21 : decode b_M_down 21 = .ok (.aload_n 0, 1) := by decide +kernel
theorem d_M_down_22 : decode b_M_down 22 = .ok (.getfield 142, 3) := by decide +kernel
theorem d_M_down_25 : decode b_M_down 25 = .ok (.istore_n 2, 1) := by decide +kernel
theorem d_M_down_26 : decode b_M_down 26 = .ok (.aload_n 0, 1) := by decide +kernel
theorem d_M_down_27 : decode b_M_down 27 = .ok (.iload_n 1, 1) := by decide +kernel
theorem d_M_down_28 : decode b_M_down 28 = .ok (.putfield 142, 3) := by decide +kernel
theorem d_M_down_31 : decode b_M_down 31 = .ok (.iload_n 2, 1) := by decide +kernel
theorem d_M_down_32 : decode b_M_down 32 = .ok (.ireturn, 1) := by decide +kernel
theorem d_M_noise_0 : decode b_M_noise 0 = .ok (.aload_n 0, 1) := by decide +kernel
theorem d_M_noise_1 : decode b_M_noise 1 = .ok (.iconst 0, 1) := by decide +kernel
theorem d_M_noise_2 : decode b_M_noise 2 = .ok (.putfield 51, 3) := by decide +kernel
theorem d_M_noise_5 : decode b_M_noise 5 = .ok (.iload_n 1, 1) := by decide +kernel
theorem d_M_noise_6 : decode b_M_noise 6 = .ok (.iconst 0, 1) := by decide +kernel
theorem d_M_noise_7 : decode b_M_noise 7 = .ok (.sipush 1000, 3) := by decide +kernel
theorem d_M_noise_10 : decode b_M_noise 10 = .ok (.invokestatic 54, 3) := by decide +kernel
theorem d_M_noise_13 : decode b_M_noise 13 = .ok (.ifCond .eq 25, 3) := by decide +kernel
theorem d_M_noise_16 : decode b_M_noise 16 = .ok (.iload_n 2, 1) := by decide +kernel
theorem d_M_noise_17 : decode b_M_noise 17 = .ok (.iconst 0, 1) := by decide +kernel
theorem d_M_noise_18 : decode b_M_noise 18 = .ok (.sipush 1000, 3) := by decide +kernel
theorem d_M_noise_21 : decode b_M_noise 21 = .ok (.invokestatic 54, 3) := by decide +kernel
theorem d_M_noise_24 : decode b_M_noise 24 = .ok (.ifCond .eq 14, 3) := by decide +kernel
theorem d_M_noise_27 : decode b_M_noise 27 = .ok (.iload_n 3, 1) := by decide +kernel
theorem d_M_noise_28 : decode b_M_noise 28 = .ok (.iconst 0, 1) := by decide +kernel
theorem d_M_noise_29 : decode b_M_noise 29 = .ok (.sipush 1000, 3) := by decide +kernel
theorem d_M_noise_32 : decode b_M_noise 32 = .ok (.invokestatic 54, 3) := by decide +kernel
theorem d_M_noise_35 : decode b_M_noise 35 = .ok (.ifCond .ne 11, 3) := by decide +kernel
theorem d_M_noise_38 : decode b_M_noise 38 = .ok (.aload_n 0, 1) := by decide +kernel
theorem d_M_noise_39 : decode b_M_noise 39 = .ok (.iconst 1, 1) := by decide +kernel
theorem d_M_noise_40 : decode b_M_noise 40 = .ok (.putfield 51, 3) := by decide +kernel
theorem d_M_noise_43 : decode b_M_noise 43 = .ok (.goto 24, 3) := by decide +kernel
theorem d_M_noise_46 : decode b_M_noise 46 = .ok (.aload_n 0, 1) := by decide +kernel
theorem d_M_noise_47 : decode b_M_noise 47 = .ok (.iload_n 1, 1) := by decide +kernel
theorem d_M_noise_48 : decode b_M_noise 48 = .ok (.putfield 119, 3) := by decide +kernel
theorem d_M_noise_51 : decode b_M_noise 51 = .ok (.aload_n 0, 1) := by decide +kernel
theorem d_M_noise_52 : decode b_M_noise 52 = .ok (.iload_n 2, 1) := by decide +kernel
theorem d_M_noise_53 : decode b_M_noise 53 = .ok (.putfield 122, 3) := by decide +kernel
theorem d_M_noise_56 : decode b_M_noise 56 = .ok (.aload_n 0, 1) := by decide +kernel
theorem d_M_noise_57 : decode b_M_noise 57 = .ok (.iload_n 3, 1) := by decide +kernel
theorem d_M_noise_58 : decode b_M_noise 58 = .ok (.putfield 125, 3) := by decide +kernel
theorem d_M_noise_61 : decode b_M_noise 61 = .ok (.aload_n 0, 1) := by decide +kernel
theorem d_M_noise_62 : decode b_M_noise 62 = .ok (.lload 4, 2) := by decide +kernel
theorem d_M_noise_64 : decode b_M_noise 64 = .ok (.putfield 96, 3) := by decide +kernel
theorem d_M_noise_67 : decode b_M_noise 67 = .ok (.return_, 1) := by decide +kernel
theorem d_M_message_0 : decode b_M_message 0 = .ok (.aload_n 0, 1) := by decide +kernel
theorem d_M_message_1 : decode b_M_message 1 = .ok (.iconst 0, 1) := by decide +kernel
theorem d_M_message_2 : decode b_M_message 2 = .ok (.putfield 51, 3) := by decide +kernel
theorem d_M_message_5 : decode b_M_message 5 = .ok (.aload_n 0, 1) := by decide +kernel
theorem d_M_message_6 : decode b_M_message 6 = .ok (.iload_n 1, 1) := by decide +kernel
theorem d_M_message_7 : decode b_M_message 7 = .ok (.iconst 0, 1) := by decide +kernel
theorem d_M_message_8 : decode b_M_message 8 = .ok (.invokevirtual 138, 3) := by decide +kernel
theorem d_M_message_11 : decode b_M_message 11 = .ok (.istore_n 3, 1) := by decide +kernel
theorem d_M_message_12 : decode b_M_message 12 = .ok (.iload_n 3, 1) := by decide +kernel
theorem d_M_message_13 : decode b_M_message 13 = .ok (.ifCond .lt 12, 3) := by decide +kernel
theorem d_M_message_16 : decode b_M_message 16 = .ok (.iload_n 2, 1) := by decide +kernel
theorem d_M_message_17 : decode b_M_message 17 = .ok (.iconst 0, 1) := by decide +kernel
theorem d_M_message_18 : decode b_M_message 18 = .ok (.iconst 4, 1) := by decide +kernel
theorem d_M_message_19 : decode b_M_message 19 = .ok (.invokestatic 54, 3) := by decide +kernel
theorem d_M_message_22 : decode b_M_message 22 = .ok (.ifCond .ne 5, 3) := by decide +kernel
theorem d_M_message_25 : decode b_M_message 25 = .ok (.iconst (-1), 1) := by decide +kernel
theorem d_M_message_26 : decode b_M_message 26 = .ok (.ireturn, 1) := by decide +kernel
theorem d_M_message_27 : decode b_M_message 27 = .ok (.iload_n 2, 1) := by decide +kernel
theorem d_M_message_28 : decode b_M_message 28 = .ok (.iconst 3, 1) := by decide +kernel
theorem d_M_message_29 : decode b_M_message 29 = .ok (.if_icmp .ge 37, 3) := by decide +kernel
theorem d_M_message_32 : decode b_M_message 32 = .ok (.iload_n 2, 1) := by decide +kernel
theorem d_M_message_33 : decode b_M_message 33 = .ok (.ifCond .ne 12, 3) := by decide +kernel
theorem d_M_message_36 : decode b_M_message 36 = .ok (.aload_n 0, 1) := by decide +kernel
theorem d_M_message_37 : decode b_M_message 37 = .ok (.getfield 19, 3) := by decide +kernel
theorem d_M_message_40 : decode b_M_message 40 = .ok (.iload_n 3, 1) := by decide +kernel
theorem d_M_message_41 : decode b_M_message 41 = .ok (.iaload, 1) := by decide +kernel
theorem d_M_message_42 : decode b_M_message 42 = .ok (.goto 23, 3) := by decide +kernel
theorem d_M_message_45 : decode b_M_message 45 = .ok (.iload_n 2, 1) := by decide +kernel
theorem d_M_message_46 : decode b_M_message 46 = .ok (.iconst 1, 1) := by decide +kernel
theorem d_M_message_47 : decode b_M_message 47 = .ok (.if_icmp .ne 12, 3) := by decide +kernel
theorem d_M_message_50 : decode b_M_message 50 = .ok (.aload_n 0, 1) := by decide +kernel
theorem d_M_message_51 : decode b_M_message 51 = .ok (.getfield 16, 3) := by decide +kernel
theorem d_M_message_54 : decode b_M_message 54 = .ok (.iload_n 3, 1) := by decide +kernel
theorem d_M_message_55 : decode b_M_message 55 = .ok (.iaload, 1) := by decide +kernel
theorem d_M_message_56 : decode b_M_message 56 = .ok (.goto 9, 3) := by decide +kernel
theorem d_M_message_59 : decode b_M_message 59 = .ok (.aload_n 0, 1) := by decide +kernel
theorem d_M_message_60 : decode b_M_message 60 = .ok (.getfield 7, 3) := by decide +kernel
theorem d_M_message_63 : decode b_M_message 63 = .ok (.iload_n 3, 1) := by decide +kernel
theorem d_M_message_64 : decode b_M_message 64 = .ok (.iaload, 1) := by decide +kernel
theorem d_M_message_65 : decode b_M_message 65 = .ok (.ireturn, 1) := by decide +kernel
theorem d_M_message_66 : decode b_M_message 66 = .ok (.iload_n 2, 1) := by decide +kernel
theorem d_M_message_67 : decode b_M_message 67 = .ok (.iconst 3, 1) := by decide +kernel
theorem d_M_message_68 : decode b_M_message 68 = .ok (.if_icmp .ne 7, 3) := by decide +kernel
theorem d_M_message_71 : decode b_M_message 71 = .ok (.iload_n 3, 1) := by decide +kernel
theorem d_M_message_72 : decode b_M_message 72 = .ok (.goto 9, 3) := by decide +kernel
theorem d_M_message_75 : decode b_M_message 75 = .ok (.aload_n 0, 1) := by decide +kernel
theorem d_M_message_76 : decode b_M_message 76 = .ok (.getfield 25, 3) := by decide +kernel
theorem d_M_message_79 : decode b_M_message 79 = .ok (.iload_n 3, 1) := by decide +kernel
theorem d_M_message_80 : decode b_M_message 80 = .ok (.iaload, 1) := by decide +kernel
theorem d_M_message_81 : decode b_M_message 81 = .ok (.ireturn, 1) := by decide +kernel
theorem d_M_messageAt_0 : decode b_M_messageAt 0 = .ok (.aload_n 0, 1) := by decide +kernel
theorem d_M_messageAt_1 : decode b_M_messageAt 1 = .ok (.iconst 0, 1) := by decide +kernel
theorem d_M_messageAt_2 : decode b_M_messageAt 2 = .ok (.putfield 51, 3) := by decide +kernel
theorem d_M_messageAt_5 : decode b_M_messageAt 5 = .ok (.aload_n 0, 1) := by decide +kernel
theorem d_M_messageAt_6 : decode b_M_messageAt 6 = .ok (.iload_n 1, 1) := by decide +kernel
theorem d_M_messageAt_7 : decode b_M_messageAt 7 = .ok (.iconst 0, 1) := by decide +kernel
theorem d_M_messageAt_8 : decode b_M_messageAt 8 = .ok (.invokevirtual 138, 3) := by decide +kernel
theorem d_M_messageAt_11 : decode b_M_messageAt 11 = .ok (.istore_n 3, 1) := by decide +kernel
theorem d_M_messageAt_12 : decode b_M_messageAt 12 = .ok (.iload_n 3, 1) := by decide +kernel
theorem d_M_messageAt_13 : decode b_M_messageAt 13 = .ok (.ifCond .lt 19, 3) := by decide +kernel
theorem d_M_messageAt_16 : decode b_M_messageAt 16 = .ok (.iload_n 2, 1) := by decide +kernel
theorem d_M_messageAt_17 : decode b_M_messageAt 17 = .ok (.iconst 0, 1) := by decide +kernel
theorem d_M_messageAt_18 : decode b_M_messageAt 18 = .ok (.aload_n 0, 1) := by decide +kernel
theorem d_M_messageAt_19 : decode b_M_messageAt 19 = .ok (.getfield 25, 3) := by decide +kernel
theorem d_M_messageAt_22 : decode b_M_messageAt 22 = .ok (.iload_n 3, 1) := by decide +kernel
theorem d_M_messageAt_23 : decode b_M_messageAt 23 = .ok (.iaload, 1) := by decide +kernel
theorem d_M_messageAt_24 : decode b_M_messageAt 24 = .ok (.iconst 1, 1) := by decide +kernel
theorem d_M_messageAt_25 : decode b_M_messageAt 25 = .ok (.isub, 1) := by decide +kernel
theorem d_M_messageAt_26 : decode b_M_messageAt 26 = .ok (.invokestatic 54, 3) := by decide +kernel
theorem d_M_messageAt_29 : decode b_M_messageAt 29 = .ok (.ifCond .ne 11, 3) := by decide +kernel
theorem d_M_messageAt_32 : decode b_M_messageAt 32 = .ok (.aload_n 0, 1) := by decide +kernel
theorem d_M_messageAt_33 : decode b_M_messageAt 33 = .ok (.iconst 1, 1) := by decide +kernel
theorem d_M_messageAt_34 : decode b_M_messageAt 34 = .ok (.invokevirtual 58, 3) := by decide +kernel
theorem d_M_messageAt_37 : decode b_M_messageAt 37 = .ok (.goto 16, 3) := by decide +kernel
theorem d_M_messageAt_40 : decode b_M_messageAt 40 = .ok (.aload_n 0, 1) := by decide +kernel
theorem d_M_messageAt_41 : decode b_M_messageAt 41 = .ok (.getfield 32, 3) := by decide +kernel
theorem d_M_messageAt_44 : decode b_M_messageAt 44 = .ok (.aload_n 0, 1) := by decide +kernel
theorem d_M_messageAt_45 : decode b_M_messageAt 45 = .ok (.getfield 22, 3) := by decide +kernel
theorem d_M_messageAt_48 : decode b_M_messageAt 48 = .ok (.iload_n 3, 1) := by decide +kernel
theorem d_M_messageAt_49 : decode b_M_messageAt 49 = .ok (.iaload, 1) := by decide +kernel
theorem d_M_messageAt_50 : decode b_M_messageAt 50 = .ok (.iload_n 2, 1) := by decide +kernel
theorem d_M_messageAt_51 : decode b_M_messageAt 51 = .ok (.iadd, 1) := by decide +kernel
theorem d_M_messageAt_52 : decode b_M_messageAt 52 = .ok (.iaload, 1) := by decide +kernel
theorem d_M_messageAt_53 : decode b_M_messageAt 53 = .ok (.ireturn, 1) := by decide +kernel
theorem d_M_happened_0 : decode b_M_happened 0 = .ok (.aload_n 0, 1) := by decide +kernel
theorem d_M_happened_1 : decode b_M_happened 1 = .ok (.iconst 0, 1) := by decide +kernel
theorem d_M_happened_2 : decode b_M_happened 2 = .ok (.putfield 51, 3) := by decide +kernel
theorem d_M_happened_5 : decode b_M_happened 5 = .ok (.iload_n 1, 1) := by decide +kernel
theorem d_M_happened_6 : decode b_M_happened 6 = .ok (.iconst 0, 1) := by decide +kernel
theorem d_M_happened_7 : decode b_M_happened 7 = .ok (.bipush 31, 2) := by decide +kernel
theorem d_M_happened_9 : decode b_M_happened 9 = .ok (.invokestatic 54, 3) := by decide +kernel
theorem d_M_happened_12 : decode b_M_happened 12 = .ok (.ifCond .eq 20, 3) := by decide +kernel
theorem d_M_happened_15 : decode b_M_happened 15 = .ok (.iload_n 1, 1) := by decide +kernel
theorem d_M_happened_16 : decode b_M_happened 16 = .ok (.aload_n 0, 1) := by decide +kernel
theorem d_M_happened_17 : decode b_M_happened 17 = .ok (.getfield 145, 3) := by decide +kernel
theorem d_M_happened_20 : decode b_M_happened 20 = .ok (.if_icmp .ge 12, 3) := by decide +kernel
theorem d_M_happened_23 : decode b_M_happened 23 = .ok (.iload_n 2, 1) := by decide +kernel
theorem d_M_happened_24 : decode b_M_happened 24 = .ok (.iconst 0, 1) := by decide +kernel
theorem d_M_happened_25 : decode b_M_happened 25 = .ok (.iconst 3, 1) := by decide +kernel
theorem d_M_happened_26 : decode b_M_happened 26 = .ok (.invokestatic 54, 3) := by decide +kernel
theorem d_M_happened_29 : decode b_M_happened 29 = .ok (.ifCond .ne 5, 3) := by decide +kernel
theorem d_M_happened_32 : decode b_M_happened 32 = .ok (.iconst (-1), 1) := by decide +kernel
theorem d_M_happened_33 : decode b_M_happened 33 = .ok (.ireturn, 1) := by decide +kernel
theorem d_M_happened_34 : decode b_M_happened 34 = .ok (.aload_n 0, 1) := by decide +kernel
theorem d_M_happened_35 : decode b_M_happened 35 = .ok (.getfield 145, 3) := by decide +kernel
theorem d_M_happened_38 : decode b_M_happened 38 = .ok (.iconst 1, 1) := by decide +kernel
theorem d_M_happened_39 : decode b_M_happened 39 = .ok (.isub, 1) := by decide +kernel
theorem d_M_happened_40 : decode b_M_happened 40 = .ok (.iload_n 1, 1) := by decide +kernel
theorem d_M_happened_41 : decode b_M_happened 41 = .ok (.isub, 1) := by decide +kernel
theorem d_M_happened_42 : decode b_M_happened 42 = .ok (.bipush 32, 2) := by decide +kernel
theorem d_M_happened_44 : decode b_M_happened 44 = .ok (.irem, 1) := by decide +kernel
theorem d_M_happened_45 : decode b_M_happened 45 = .ok (.istore_n 3, 1) := by decide +kernel
theorem d_M_happened_46 : decode b_M_happened 46 = .ok (.aload_n 0, 1) := by decide +kernel
theorem d_M_happened_47 : decode b_M_happened 47 = .ok (.getfield 44, 3) := by decide +kernel
theorem d_M_happened_50 : decode b_M_happened 50 = .ok (.iload_n 3, 1) := by decide +kernel
theorem d_M_happened_51 : decode b_M_happened 51 = .ok (.iaload, 1) := by decide +kernel
theorem d_M_happened_52 : decode b_M_happened 52 = .ok (.istore 4, 2) := by decide +kernel
theorem d_M_happened_54 : decode b_M_happened 54 = .ok (.iload_n 2, 1) := by decide +kernel
theorem d_M_happened_55 : decode b_M_happened 55 = .ok (.iconst 2, 1) := by decide +kernel
theorem d_M_happened_56 : decode b_M_happened 56 = .ok (.if_icmp .ge 24, 3) := by decide +kernel
theorem d_M_happened_59 : decode b_M_happened 59 = .ok (.iload_n 2, 1) := by decide +kernel
theorem d_M_happened_60 : decode b_M_happened 60 = .ok (.ifCond .ne 12, 3) := by decide +kernel
theorem d_M_happened_63 : decode b_M_happened 63 = .ok (.aload_n 0, 1) := by decide +kernel
theorem d_M_happened_64 : decode b_M_happened 64 = .ok (.getfield 41, 3) := by decide +kernel
theorem d_M_happened_67 : decode b_M_happened 67 = .ok (.iload_n 3, 1) := by decide +kernel
theorem d_M_happened_68 : decode b_M_happened 68 = .ok (.iaload, 1) := by decide +kernel
theorem d_M_happened_69 : decode b_M_happened 69 = .ok (.goto 10, 3) := by decide +kernel
theorem d_M_happened_72 : decode b_M_happened 72 = .ok (.aload_n 0, 1) := by decide +kernel
theorem d_M_happened_73 : decode b_M_happened 73 = .ok (.getfield 7, 3) := by decide +kernel
theorem d_M_happened_76 : decode b_M_happened 76 = .ok (.iload 4, 2) := by decide +kernel
theorem d_M_happened_78 : decode b_M_happened 78 = .ok (.iaload, 1) := by decide +kernel
theorem d_M_happened_79 : decode b_M_happened 79 = .ok (.ireturn, 1) := by decide +kernel
theorem d_M_happened_80 : decode b_M_happened 80 = .ok (.iload_n 2, 1) := by decide +kernel
theorem d_M_happened_81 : decode b_M_happened 81 = .ok (.iconst 2, 1) := by decide +kernel
theorem d_M_happened_82 : decode b_M_happened 82 = .ok (.if_icmp .ne 8, 3) := by decide +kernel
theorem d_M_happened_85 : decode b_M_happened 85 = .ok (.iload 4, 2) := by decide +kernel
theorem d_M_happened_87 : decode b_M_happened 87 = .ok (.goto 10, 3) := by decide +kernel
theorem d_M_happened_90 : decode b_M_happened 90 = .ok (.aload_n 0, 1) := by decide +kernel
theorem d_M_happened_91 : decode b_M_happened 91 = .ok (.getfield 19, 3) := by decide +kernel
theorem d_M_happened_94 : decode b_M_happened 94 = .ok (.iload 4, 2) := by decide +kernel
theorem d_M_happened_96 : decode b_M_happened 96 = .ok (.iaload, 1) := by decide +kernel
theorem d_M_happened_97 : decode b_M_happened 97 = .ok (.ireturn, 1) := by decide +kernel
theorem d_M_byteAt_0 : decode b_M_byteAt 0 = .ok (.aload_n 0, 1) := by decide +kernel
theorem d_M_byteAt_1 : decode b_M_byteAt 1 = .ok (.iconst 0, 1) := by decide +kernel
theorem d_M_byteAt_2 : decode b_M_byteAt 2 = .ok (.putfield 51, 3) := by decide +kernel
theorem d_M_byteAt_5 : decode b_M_byteAt 5 = .ok (.aload_n 0, 1) := by decide +kernel
theorem d_M_byteAt_6 : decode b_M_byteAt 6 = .ok (.getfield 47, 3) := by decide +kernel
theorem d_M_byteAt_9 : decode b_M_byteAt 9 = .ok (.ifCond .lt 22, 3) := by decide +kernel
theorem d_M_byteAt_12 : decode b_M_byteAt 12 = .ok (.iload_n 1, 1) := by decide +kernel
theorem d_M_byteAt_13 : decode b_M_byteAt 13 = .ok (.iconst 0, 1) := by decide +kernel
theorem d_M_byteAt_14 : decode b_M_byteAt 14 = .ok (.aload_n 0, 1) := by decide +kernel
theorem d_M_byteAt_15 : decode b_M_byteAt 15 = .ok (.getfield 25, 3) := by decide +kernel
theorem d_M_byteAt_18 : decode b_M_byteAt 18 = .ok (.aload_n 0, 1) := by decide +kernel
theorem d_M_byteAt_19 : decode b_M_byteAt 19 = .ok (.getfield 47, 3) := by decide +kernel
theorem d_M_byteAt_22 : decode b_M_byteAt 22 = .ok (.iaload, 1) := by decide +kernel
theorem d_M_byteAt_23 : decode b_M_byteAt 23 = .ok (.iconst 1, 1) := by decide +kernel
theorem d_M_byteAt_24 : decode b_M_byteAt 24 = .ok (.isub, 1) := by decide +kernel
theorem d_M_byteAt_25 : decode b_M_byteAt 25 = .ok (.invokestatic 54, 3) := by decide +kernel
theorem d_M_byteAt_28 : decode b_M_byteAt 28 = .ok (.ifCond .ne 11, 3) := by decide +kernel
theorem d_M_byteAt_31 : decode b_M_byteAt 31 = .ok (.aload_n 0, 1) := by decide +kernel
theorem d_M_byteAt_32 : decode b_M_byteAt 32 = .ok (.iconst 1, 1) := by decide +kernel
theorem d_M_byteAt_33 : decode b_M_byteAt 33 = .ok (.invokevirtual 58, 3) := by decide +kernel
theorem d_M_byteAt_36 : decode b_M_byteAt 36 = .ok (.goto 19, 3) := by decide +kernel
theorem d_M_byteAt_39 : decode b_M_byteAt 39 = .ok (.aload_n 0, 1) := by decide +kernel
theorem d_M_byteAt_40 : decode b_M_byteAt 40 = .ok (.getfield 32, 3) := by decide +kernel
theorem d_M_byteAt_43 : decode b_M_byteAt 43 = .ok (.aload_n 0, 1) := by decide +kernel
theorem d_M_byteAt_44 : decode b_M_byteAt 44 = .ok (.getfield 22, 3) := by decide +kernel
theorem d_M_byteAt_47 : decode b_M_byteAt 47 = .ok (.aload_n 0, 1) := by decide +kernel
theorem d_M_byteAt_48 : decode b_M_byteAt 48 = .ok (.getfield 47, 3) := by decide +kernel
theorem d_M_byteAt_51 : decode b_M_byteAt 51 = .ok (.iaload, 1) := by decide +kernel
theorem d_M_byteAt_52 : decode b_M_byteAt 52 = .ok (.iload_n 1, 1) := by decide +kernel
theorem d_M_byteAt_53 : decode b_M_byteAt 53 = .ok (.iadd, 1) := by decide +kernel
theorem d_M_byteAt_54 : decode b_M_byteAt 54 = .ok (.iaload, 1) := by decide +kernel
theorem d_M_byteAt_55 : decode b_M_byteAt 55 = .ok (.ireturn, 1) := by decide +kernel
theorem d_M_when_0 : decode b_M_when 0 = .ok (.aload_n 0, 1) := by decide +kernel
theorem d_M_when_1 : decode b_M_when 1 = .ok (.iconst 0, 1) := by decide +kernel
theorem d_M_when_2 : decode b_M_when 2 = .ok (.putfield 51, 3) := by decide +kernel
theorem d_M_when_5 : decode b_M_when 5 = .ok (.iload_n 1, 1) := by decide +kernel
theorem d_M_when_6 : decode b_M_when 6 = .ok (.invokestatic 74, 3) := by decide +kernel
theorem d_M_when_9 : decode b_M_when 9 = .ok (.ifCond .eq 12, 3) := by decide +kernel
theorem d_M_when_12 : decode b_M_when 12 = .ok (.iload_n 2, 1) := by decide +kernel
theorem d_M_when_13 : decode b_M_when 13 = .ok (.iconst 0, 1) := by decide +kernel
theorem d_M_when_14 : decode b_M_when 14 = .ok (.iconst 1, 1) := by decide +kernel
theorem d_M_when_15 : decode b_M_when 15 = .ok (.invokestatic 54, 3) := by decide +kernel
theorem d_M_when_18 : decode b_M_when 18 = .ok (.ifCond .ne 9, 3) := by decide +kernel
theorem d_M_when_21 : decode b_M_when 21 = .ok (.aload_n 0, 1) := by decide +kernel
theorem d_M_when_22 : decode b_M_when 22 = .ok (.iconst 1, 1) := by decide +kernel
theorem d_M_when_23 : decode b_M_when 23 = .ok (.invokevirtual 58, 3) := by decide +kernel
theorem d_M_when_26 : decode b_M_when 26 = .ok (.ireturn, 1) := by decide +kernel
theorem d_M_when_27 : decode b_M_when 27 = .ok (.aload_n 0, 1) := by decide +kernel
theorem d_M_when_28 : decode b_M_when 28 = .ok (.iload_n 2, 1) := by decide +kernel
theorem d_M_when_29 : decode b_M_when 29 = .ok (.ifCond .ne 7, 3) := by decide +kernel
theorem d_M_when_32 : decode b_M_when 32 = .ok (.iconst 1, 1) := by decide +kernel
theorem d_M_when_33 : decode b_M_when 33 = .ok (.goto 4, 3) := by decide +kernel
theorem d_M_when_36 : decode b_M_when 36 = .ok (.iconst 2, 1) := by decide +kernel
theorem d_M_when_37 : decode b_M_when 37 = .ok (.iload_n 1, 1) := by decide +kernel
theorem d_M_when_38 : decode b_M_when 38 = .ok (.invokevirtual 70, 3) := by decide +kernel
theorem d_M_when_41 : decode b_M_when 41 = .ok (.istore_n 3, 1) := by decide +kernel
theorem d_M_when_42 : decode b_M_when 42 = .ok (.iload_n 3, 1) := by decide +kernel
theorem d_M_when_43 : decode b_M_when 43 = .ok (.ifCond .ge 7, 3) := by decide +kernel
theorem d_M_when_46 : decode b_M_when 46 = .ok (.iconst (-1), 1) := by decide +kernel
theorem d_M_when_47 : decode b_M_when 47 = .ok (.goto 9, 3) := by decide +kernel
theorem d_M_when_50 : decode b_M_when 50 = .ok (.aload_n 0, 1) := by decide +kernel
theorem d_M_when_51 : decode b_M_when 51 = .ok (.getfield 7, 3) := by decide +kernel
theorem d_M_when_54 : decode b_M_when 54 = .ok (.iload_n 3, 1) := by decide +kernel
theorem d_M_when_55 : decode b_M_when 55 = .ok (.iaload, 1) := by decide +kernel
theorem d_M_when_56 : decode b_M_when 56 = .ok (.ireturn, 1) := by decide +kernel
theorem d_M_count_0 : decode b_M_count 0 = .ok (.aload_n 0, 1) := by decide +kernel
theorem d_M_count_1 : decode b_M_count 1 = .ok (.iconst 0, 1) := by decide +kernel
theorem d_M_count_2 : decode b_M_count 2 = .ok (.putfield 51, 3) := by decide +kernel
theorem d_M_count_5 : decode b_M_count 5 = .ok (.iload_n 1, 1) := by decide +kernel
theorem d_M_count_6 : decode b_M_count 6 = .ok (.ifCond .lt 9, 3) := by decide +kernel
theorem d_M_count_9 : decode b_M_count 9 = .ok (.iload_n 1, 1) := by decide +kernel
theorem d_M_count_10 : decode b_M_count 10 = .ok (.bipush 7, 2) := by decide +kernel
theorem d_M_count_12 : decode b_M_count 12 = .ok (.if_icmp .le 5, 3) := by decide +kernel
theorem d_M_count_15 : decode b_M_count 15 = .ok (.iconst (-1), 1) := by decide +kernel
theorem d_M_count_16 : decode b_M_count 16 = .ok (.ireturn, 1) := by decide +kernel
theorem d_M_count_17 : decode b_M_count 17 = .ok (.iload_n 1, 1) := by decide +kernel
theorem d_M_count_18 : decode b_M_count 18 = .ok (.iconst 4, 1) := by decide +kernel
theorem d_M_count_19 : decode b_M_count 19 = .ok (.if_icmp .ge 43, 3) := by decide +kernel
theorem d_M_count_22 : decode b_M_count 22 = .ok (.iload_n 1, 1) := by decide +kernel
theorem d_M_count_23 : decode b_M_count 23 = .ok (.ifCond .ne 10, 3) := by decide +kernel
theorem d_M_count_26 : decode b_M_count 26 = .ok (.aload_n 0, 1) := by decide +kernel
theorem d_M_count_27 : decode b_M_count 27 = .ok (.getfield 83, 3) := by decide +kernel
theorem d_M_count_30 : decode b_M_count 30 = .ok (.goto 31, 3) := by decide +kernel
theorem d_M_count_33 : decode b_M_count 33 = .ok (.iload_n 1, 1) := by decide +kernel
theorem d_M_count_34 : decode b_M_count 34 = .ok (.iconst 1, 1) := by decide +kernel
theorem d_M_count_35 : decode b_M_count 35 = .ok (.if_icmp .ne 10, 3) := by decide +kernel
theorem d_M_count_38 : decode b_M_count 38 = .ok (.aload_n 0, 1) := by decide +kernel
theorem d_M_count_39 : decode b_M_count 39 = .ok (.getfield 107, 3) := by decide +kernel
theorem d_M_count_42 : decode b_M_count 42 = .ok (.goto 19, 3) := by decide +kernel
theorem d_M_count_45 : decode b_M_count 45 = .ok (.iload_n 1, 1) := by decide +kernel
theorem d_M_count_46 : decode b_M_count 46 = .ok (.iconst 2, 1) := by decide +kernel
theorem d_M_count_47 : decode b_M_count 47 = .ok (.if_icmp .ne 10, 3) := by decide +kernel
theorem d_M_count_50 : decode b_M_count 50 = .ok (.aload_n 0, 1) := by decide +kernel
theorem d_M_count_51 : decode b_M_count 51 = .ok (.getfield 113, 3) := by decide +kernel
theorem d_M_count_54 : decode b_M_count 54 = .ok (.goto 7, 3) := by decide +kernel
theorem d_M_count_57 : decode b_M_count 57 = .ok (.aload_n 0, 1) := by decide +kernel
theorem d_M_count_58 : decode b_M_count 58 = .ok (.getfield 110, 3) := by decide +kernel
theorem d_M_count_61 : decode b_M_count 61 = .ok (.ireturn, 1) := by decide +kernel
theorem d_M_count_62 : decode b_M_count 62 = .ok (.iload_n 1, 1) := by decide +kernel
theorem d_M_count_63 : decode b_M_count 63 = .ok (.iconst 4, 1) := by decide +kernel
theorem d_M_count_64 : decode b_M_count 64 = .ok (.if_icmp .ne 10, 3) := by decide +kernel
theorem d_M_count_67 : decode b_M_count 67 = .ok (.aload_n 0, 1) := by decide +kernel
theorem d_M_count_68 : decode b_M_count 68 = .ok (.getfield 145, 3) := by decide +kernel
theorem d_M_count_71 : decode b_M_count 71 = .ok (.goto 48, 3) := by decide +kernel
theorem d_M_count_74 : decode b_M_count 74 = .ok (.iload_n 1, 1) := by decide +kernel
theorem d_M_count_75 : decode b_M_count 75 = .ok (.iconst 5, 1) := by decide +kernel
theorem d_M_count_76 : decode b_M_count 76 = .ok (.if_icmp .ne 10, 3) := by decide +kernel
theorem d_M_count_79 : decode b_M_count 79 = .ok (.aload_n 0, 1) := by decide +kernel
theorem d_M_count_80 : decode b_M_count 80 = .ok (.getfield 67, 3) := by decide +kernel
theorem d_M_count_83 : decode b_M_count 83 = .ok (.goto 36, 3) := by decide +kernel
theorem d_M_count_86 : decode b_M_count 86 = .ok (.iload_n 1, 1) := by decide +kernel
theorem d_M_count_87 : decode b_M_count 87 = .ok (.bipush 6, 2) := by decide +kernel
theorem d_M_count_89 : decode b_M_count 89 = .ok (.if_icmp .ne 10, 3) := by decide +kernel
theorem d_M_count_92 : decode b_M_count 92 = .ok (.aload_n 0, 1) := by decide +kernel
theorem d_M_count_93 : decode b_M_count 93 = .ok (.getfield 62, 3) := by decide +kernel
theorem d_M_count_96 : decode b_M_count 96 = .ok (.goto 23, 3) := by decide +kernel
theorem d_M_count_99 : decode b_M_count 99 = .ok (.aload_n 0, 1) := by decide +kernel
theorem d_M_count_100 : decode b_M_count 100 = .ok (.getfield 47, 3) := by decide +kernel
theorem d_M_count_103 : decode b_M_count 103 = .ok (.ifCond .ge 7, 3) := by decide +kernel
theorem d_M_count_106 : decode b_M_count 106 = .ok (.iconst 0, 1) := by decide +kernel
theorem d_M_count_107 : decode b_M_count 107 = .ok (.goto 12, 3) := by decide +kernel
theorem d_M_count_110 : decode b_M_count 110 = .ok (.aload_n 0, 1) := by decide +kernel
theorem d_M_count_111 : decode b_M_count 111 = .ok (.getfield 25, 3) := by decide +kernel
theorem d_M_count_114 : decode b_M_count 114 = .ok (.aload_n 0, 1) := by decide +kernel
theorem d_M_count_115 : decode b_M_count 115 = .ok (.getfield 47, 3) := by decide +kernel
theorem d_M_count_118 : decode b_M_count 118 = .ok (.iaload, 1) := by decide +kernel
theorem d_M_count_119 : decode b_M_count 119 = .ok (.ireturn, 1) := by decide +kernel
end
section
theorem d_L_feed_0 : decode b_L_feed 0 = .ok (.aload 4, 2) := by decide +kernel
theorem d_L_feed_2 : decode b_L_feed 2 = .ok (.iconst 0, 1) := by decide +kernel
theorem d_L_feed_3 : decode b_L_feed 3 = .ok (.aload_n 0, 1) := by decide +kernel
theorem d_L_feed_4 : decode b_L_feed 4 = .ok (.lload_n 1, 1) := by decide +kernel
theorem d_L_feed_5 : decode b_L_feed 5 = .ok (.iload_n 3, 1) := by decide +kernel
theorem d_L_feed_6 : decode b_L_feed 6 = .ok (.invokevirtual 7, 3) := by decide +kernel
theorem d_L_feed_9 : decode b_L_feed 9 = .ok (.i2l, 1) := by decide +kernel
theorem d_L_feed_10 : decode b_L_feed 10 = .ok (.lastore, 1) := by decide +kernel
theorem d_L_feed_11 : decode b_L_feed 11 = .ok (.goto 11, 3) := by decide +kernel
theorem d_L_feed_14 : decode b_L_feed 14 = .ok (.astore 5, 2) := by decide +kernel
theorem d_L_feed_16 : decode b_L_feed 16 = .ok (.iconst 1, 1) := by decide +kernel
theorem d_L_feed_17 : decode b_L_feed 17 = .ok (.ireturn, 1) := by decide +kernel
theorem d_L_feed_18 : decode b_L_feed 18 = .ok (.astore 5, 2) := by decide +kernel
theorem d_L_feed_20 : decode b_L_feed 20 = .ok (.iconst 2, 1) := by decide +kernel
theorem d_L_feed_21 : decode b_L_feed 21 = .ok (.ireturn, 1) := by decide +kernel
theorem d_L_feed_22 : decode b_L_feed 22 = .ok (.iconst 0, 1) := by decide +kernel
theorem d_L_feed_23 : decode b_L_feed 23 = .ok (.ireturn, 1) := by decide +kernel
theorem d_L_send_0 : decode b_L_send 0 = .ok (.aload_n 3, 1) := by decide +kernel
theorem d_L_send_1 : decode b_L_send 1 = .ok (.iconst 0, 1) := by decide +kernel
theorem d_L_send_2 : decode b_L_send 2 = .ok (.aload_n 0, 1) := by decide +kernel
theorem d_L_send_3 : decode b_L_send 3 = .ok (.iload_n 1, 1) := by decide +kernel
theorem d_L_send_4 : decode b_L_send 4 = .ok (.iload_n 2, 1) := by decide +kernel
theorem d_L_send_5 : decode b_L_send 5 = .ok (.invokevirtual 17, 3) := by decide +kernel
theorem d_L_send_8 : decode b_L_send 8 = .ok (.i2l, 1) := by decide +kernel
theorem d_L_send_9 : decode b_L_send 9 = .ok (.lastore, 1) := by decide +kernel
theorem d_L_send_10 : decode b_L_send 10 = .ok (.goto 7, 3) := by decide +kernel
theorem d_L_send_13 : decode b_L_send 13 = .ok (.astore 4, 2) := by decide +kernel
theorem d_L_send_15 : decode b_L_send 15 = .ok (.iconst 1, 1) := by decide +kernel
theorem d_L_send_16 : decode b_L_send 16 = .ok (.ireturn, 1) := by decide +kernel
theorem d_L_send_17 : decode b_L_send 17 = .ok (.iconst 0, 1) := by decide +kernel
theorem d_L_send_18 : decode b_L_send 18 = .ok (.ireturn, 1) := by decide +kernel
theorem d_L_alarm_0 : decode b_L_alarm 0 = .ok (.aload_n 3, 1) := by decide +kernel
theorem d_L_alarm_1 : decode b_L_alarm 1 = .ok (.iconst 0, 1) := by decide +kernel
theorem d_L_alarm_2 : decode b_L_alarm 2 = .ok (.aload_n 0, 1) := by decide +kernel
theorem d_L_alarm_3 : decode b_L_alarm 3 = .ok (.iload_n 1, 1) := by decide +kernel
theorem d_L_alarm_4 : decode b_L_alarm 4 = .ok (.iload_n 2, 1) := by decide +kernel
theorem d_L_alarm_5 : decode b_L_alarm 5 = .ok (.invokevirtual 23, 3) := by decide +kernel
theorem d_L_alarm_8 : decode b_L_alarm 8 = .ok (.ifCond .eq 7, 3) := by decide +kernel
theorem d_L_alarm_11 : decode b_L_alarm 11 = .ok (.lconst 1, 1) := by decide +kernel
theorem d_L_alarm_12 : decode b_L_alarm 12 = .ok (.goto 4, 3) := by decide +kernel
theorem d_L_alarm_15 : decode b_L_alarm 15 = .ok (.lconst 0, 1) := by decide +kernel
theorem d_L_alarm_16 : decode b_L_alarm 16 = .ok (.lastore, 1) := by decide +kernel
theorem d_L_alarm_17 : decode b_L_alarm 17 = .ok (.goto 11, 3) := by decide +kernel
theorem d_L_alarm_20 : decode b_L_alarm 20 = .ok (.astore 4, 2) := by decide +kernel
theorem d_L_alarm_22 : decode b_L_alarm 22 = .ok (.iconst 1, 1) := by decide +kernel
theorem d_L_alarm_23 : decode b_L_alarm 23 = .ok (.ireturn, 1) := by decide +kernel
theorem d_L_alarm_24 : decode b_L_alarm 24 = .ok (.astore 4, 2) := by decide +kernel
theorem d_L_alarm_26 : decode b_L_alarm 26 = .ok (.iconst 2, 1) := by decide +kernel
theorem d_L_alarm_27 : decode b_L_alarm 27 = .ok (.ireturn, 1) := by decide +kernel
theorem d_L_alarm_28 : decode b_L_alarm 28 = .ok (.iconst 0, 1) := by decide +kernel
theorem d_L_alarm_29 : decode b_L_alarm 29 = .ok (.ireturn, 1) := by decide +kernel
theorem d_L_noAlarm_0 : decode b_L_noAlarm 0 = .ok (.aload_n 2, 1) := by decide +kernel
theorem d_L_noAlarm_1 : decode b_L_noAlarm 1 = .ok (.iconst 0, 1) := by decide +kernel
theorem d_L_noAlarm_2 : decode b_L_noAlarm 2 = .ok (.aload_n 0, 1) := by decide +kernel
theorem d_L_noAlarm_3 : decode b_L_noAlarm 3 = .ok (.iload_n 1, 1) := by decide +kernel
theorem d_L_noAlarm_4 : decode b_L_noAlarm 4 = .ok (.invokevirtual 27, 3) := by decide +kernel
theorem d_L_noAlarm_7 : decode b_L_noAlarm 7 = .ok (.ifCond .eq 7, 3) := by decide +kernel
theorem d_L_noAlarm_10 : decode b_L_noAlarm 10 = .ok (.lconst 1, 1) := by decide +kernel
theorem d_L_noAlarm_11 : decode b_L_noAlarm 11 = .ok (.goto 4, 3) := by decide +kernel
theorem d_L_noAlarm_14 : decode b_L_noAlarm 14 = .ok (.lconst 0, 1) := by decide +kernel
theorem d_L_noAlarm_15 : decode b_L_noAlarm 15 = .ok (.lastore, 1) := by decide +kernel
theorem d_L_noAlarm_16 : decode b_L_noAlarm 16 = .ok (.goto 6, 3) := by decide +kernel
theorem d_L_noAlarm_19 : decode b_L_noAlarm 19 = .ok (.astore_n 3, 1) := by decide +kernel
theorem d_L_noAlarm_20 : decode b_L_noAlarm 20 = .ok (.iconst 1, 1) := by decide +kernel
theorem d_L_noAlarm_21 : decode b_L_noAlarm 21 = .ok (.ireturn, 1) := by decide +kernel
theorem d_L_noAlarm_22 : decode b_L_noAlarm 22 = .ok (.iconst 0, 1) := by decide +kernel
theorem d_L_noAlarm_23 : decode b_L_noAlarm 23 = .ok (.ireturn, 1) := by decide +kernel
theorem d_L_sync_0 : decode b_L_sync 0 = .ok (.aload_n 3, 1) := by decide +kernel
theorem d_L_sync_1 : decode b_L_sync 1 = .ok (.iconst 0, 1) := by decide +kernel
theorem d_L_sync_2 : decode b_L_sync 2 = .ok (.aload_n 0, 1) := by decide +kernel
theorem d_L_sync_3 : decode b_L_sync 3 = .ok (.iload_n 1, 1) := by decide +kernel
theorem d_L_sync_4 : decode b_L_sync 4 = .ok (.iload_n 2, 1) := by decide +kernel
theorem d_L_sync_5 : decode b_L_sync 5 = .ok (.invokevirtual 31, 3) := by decide +kernel
theorem d_L_sync_8 : decode b_L_sync 8 = .ok (.ifCond .eq 7, 3) := by decide +kernel
theorem d_L_sync_11 : decode b_L_sync 11 = .ok (.lconst 1, 1) := by decide +kernel
theorem d_L_sync_12 : decode b_L_sync 12 = .ok (.goto 4, 3) := by decide +kernel
theorem d_L_sync_15 : decode b_L_sync 15 = .ok (.lconst 0, 1) := by decide +kernel
theorem d_L_sync_16 : decode b_L_sync 16 = .ok (.lastore, 1) := by decide +kernel
theorem d_L_sync_17 : decode b_L_sync 17 = .ok (.goto 11, 3) := by decide +kernel
theorem d_L_sync_20 : decode b_L_sync 20 = .ok (.astore 4, 2) := by decide +kernel
theorem d_L_sync_22 : decode b_L_sync 22 = .ok (.iconst 1, 1) := by decide +kernel
theorem d_L_sync_23 : decode b_L_sync 23 = .ok (.ireturn, 1) := by decide +kernel
theorem d_L_sync_24 : decode b_L_sync 24 = .ok (.astore 4, 2) := by decide +kernel
theorem d_L_sync_26 : decode b_L_sync 26 = .ok (.iconst 2, 1) := by decide +kernel
theorem d_L_sync_27 : decode b_L_sync 27 = .ok (.ireturn, 1) := by decide +kernel
theorem d_L_sync_28 : decode b_L_sync 28 = .ok (.iconst 0, 1) := by decide +kernel
theorem d_L_sync_29 : decode b_L_sync 29 = .ok (.ireturn, 1) := by decide +kernel
theorem d_L_noSync_0 : decode b_L_noSync 0 = .ok (.aload_n 2, 1) := by decide +kernel
theorem d_L_noSync_1 : decode b_L_noSync 1 = .ok (.iconst 0, 1) := by decide +kernel
theorem d_L_noSync_2 : decode b_L_noSync 2 = .ok (.aload_n 0, 1) := by decide +kernel
theorem d_L_noSync_3 : decode b_L_noSync 3 = .ok (.iload_n 1, 1) := by decide +kernel
theorem d_L_noSync_4 : decode b_L_noSync 4 = .ok (.invokevirtual 34, 3) := by decide +kernel
theorem d_L_noSync_7 : decode b_L_noSync 7 = .ok (.ifCond .eq 7, 3) := by decide +kernel
theorem d_L_noSync_10 : decode b_L_noSync 10 = .ok (.lconst 1, 1) := by decide +kernel
theorem d_L_noSync_11 : decode b_L_noSync 11 = .ok (.goto 4, 3) := by decide +kernel
theorem d_L_noSync_14 : decode b_L_noSync 14 = .ok (.lconst 0, 1) := by decide +kernel
theorem d_L_noSync_15 : decode b_L_noSync 15 = .ok (.lastore, 1) := by decide +kernel
theorem d_L_noSync_16 : decode b_L_noSync 16 = .ok (.goto 6, 3) := by decide +kernel
theorem d_L_noSync_19 : decode b_L_noSync 19 = .ok (.astore_n 3, 1) := by decide +kernel
theorem d_L_noSync_20 : decode b_L_noSync 20 = .ok (.iconst 1, 1) := by decide +kernel
theorem d_L_noSync_21 : decode b_L_noSync 21 = .ok (.ireturn, 1) := by decide +kernel
theorem d_L_noSync_22 : decode b_L_noSync 22 = .ok (.iconst 0, 1) := by decide +kernel
theorem d_L_noSync_23 : decode b_L_noSync 23 = .ok (.ireturn, 1) := by decide +kernel
theorem d_L_run_0 : decode b_L_run 0 = .ok (.aload_n 2, 1) := by decide +kernel
theorem d_L_run_1 : decode b_L_run 1 = .ok (.iconst 0, 1) := by decide +kernel
theorem d_L_run_2 : decode b_L_run 2 = .ok (.aload_n 0, 1) := by decide +kernel
theorem d_L_run_3 : decode b_L_run 3 = .ok (.iload_n 1, 1) := by decide +kernel
theorem d_L_run_4 : decode b_L_run 4 = .ok (.invokevirtual 37, 3) := by decide +kernel
theorem d_L_run_7 : decode b_L_run 7 = .ok (.i2l, 1) := by decide +kernel
theorem d_L_run_8 : decode b_L_run 8 = .ok (.lastore, 1) := by decide +kernel
theorem d_L_run_9 : decode b_L_run 9 = .ok (.goto 6, 3) := by decide +kernel
theorem d_L_run_12 : decode b_L_run 12 = .ok (.astore_n 3, 1) := by decide +kernel
theorem d_L_run_13 : decode b_L_run 13 = .ok (.iconst 1, 1) := by decide +kernel
theorem d_L_run_14 : decode b_L_run 14 = .ok (.ireturn, 1) := by decide +kernel
theorem d_L_run_15 : decode b_L_run 15 = .ok (.iconst 0, 1) := by decide +kernel
theorem d_L_run_16 : decode b_L_run 16 = .ok (.ireturn, 1) := by decide +kernel
theorem d_L_delay_0 : decode b_L_delay 0 = .ok (.aload 4, 2) := by decide +kernel
theorem d_L_delay_2 : decode b_L_delay 2 = .ok (.iconst 0, 1) := by decide +kernel
theorem d_L_delay_3 : decode b_L_delay 3 = .ok (.aload_n 0, 1) := by decide +kernel
theorem d_L_delay_4 : decode b_L_delay 4 = .ok (.iload_n 1, 1) := by decide +kernel
theorem d_L_delay_5 : decode b_L_delay 5 = .ok (.iload_n 2, 1) := by decide +kernel
theorem d_L_delay_6 : decode b_L_delay 6 = .ok (.iload_n 3, 1) := by decide +kernel
theorem d_L_delay_7 : decode b_L_delay 7 = .ok (.invokevirtual 41, 3) := by decide +kernel
theorem d_L_delay_10 : decode b_L_delay 10 = .ok (.i2l, 1) := by decide +kernel
theorem d_L_delay_11 : decode b_L_delay 11 = .ok (.lastore, 1) := by decide +kernel
theorem d_L_delay_12 : decode b_L_delay 12 = .ok (.goto 11, 3) := by decide +kernel
theorem d_L_delay_15 : decode b_L_delay 15 = .ok (.astore 5, 2) := by decide +kernel
theorem d_L_delay_17 : decode b_L_delay 17 = .ok (.iconst 1, 1) := by decide +kernel
theorem d_L_delay_18 : decode b_L_delay 18 = .ok (.ireturn, 1) := by decide +kernel
theorem d_L_delay_19 : decode b_L_delay 19 = .ok (.astore 5, 2) := by decide +kernel
theorem d_L_delay_21 : decode b_L_delay 21 = .ok (.iconst 2, 1) := by decide +kernel
theorem d_L_delay_22 : decode b_L_delay 22 = .ok (.ireturn, 1) := by decide +kernel
theorem d_L_delay_23 : decode b_L_delay 23 = .ok (.iconst 0, 1) := by decide +kernel
theorem d_L_delay_24 : decode b_L_delay 24 = .ok (.ireturn, 1) := by decide +kernel
theorem d_L_part_0 : decode b_L_part 0 = .ok (.aload_n 2, 1) := by decide +kernel
theorem d_L_part_1 : decode b_L_part 1 = .ok (.iconst 0, 1) := by decide +kernel
theorem d_L_part_2 : decode b_L_part 2 = .ok (.aload_n 0, 1) := by decide +kernel
theorem d_L_part_3 : decode b_L_part 3 = .ok (.iload_n 1, 1) := by decide +kernel
theorem d_L_part_4 : decode b_L_part 4 = .ok (.invokevirtual 45, 3) := by decide +kernel
theorem d_L_part_7 : decode b_L_part 7 = .ok (.i2l, 1) := by decide +kernel
theorem d_L_part_8 : decode b_L_part 8 = .ok (.lastore, 1) := by decide +kernel
theorem d_L_part_9 : decode b_L_part 9 = .ok (.goto 6, 3) := by decide +kernel
theorem d_L_part_12 : decode b_L_part 12 = .ok (.astore_n 3, 1) := by decide +kernel
theorem d_L_part_13 : decode b_L_part 13 = .ok (.iconst 1, 1) := by decide +kernel
theorem d_L_part_14 : decode b_L_part 14 = .ok (.ireturn, 1) := by decide +kernel
theorem d_L_part_15 : decode b_L_part 15 = .ok (.iconst 0, 1) := by decide +kernel
theorem d_L_part_16 : decode b_L_part 16 = .ok (.ireturn, 1) := by decide +kernel
theorem d_L_down_0 : decode b_L_down 0 = .ok (.aload_n 2, 1) := by decide +kernel
theorem d_L_down_1 : decode b_L_down 1 = .ok (.iconst 0, 1) := by decide +kernel
theorem d_L_down_2 : decode b_L_down 2 = .ok (.aload_n 0, 1) := by decide +kernel
theorem d_L_down_3 : decode b_L_down 3 = .ok (.iload_n 1, 1) := by decide +kernel
theorem d_L_down_4 : decode b_L_down 4 = .ok (.invokevirtual 48, 3) := by decide +kernel
theorem d_L_down_7 : decode b_L_down 7 = .ok (.i2l, 1) := by decide +kernel
theorem d_L_down_8 : decode b_L_down 8 = .ok (.lastore, 1) := by decide +kernel
theorem d_L_down_9 : decode b_L_down 9 = .ok (.goto 6, 3) := by decide +kernel
theorem d_L_down_12 : decode b_L_down 12 = .ok (.astore_n 3, 1) := by decide +kernel
theorem d_L_down_13 : decode b_L_down 13 = .ok (.iconst 1, 1) := by decide +kernel
theorem d_L_down_14 : decode b_L_down 14 = .ok (.ireturn, 1) := by decide +kernel
theorem d_L_down_15 : decode b_L_down 15 = .ok (.iconst 0, 1) := by decide +kernel
theorem d_L_down_16 : decode b_L_down 16 = .ok (.ireturn, 1) := by decide +kernel
theorem d_L_noise_0 : decode b_L_noise 0 = .ok (.aload_n 0, 1) := by decide +kernel
theorem d_L_noise_1 : decode b_L_noise 1 = .ok (.iload_n 1, 1) := by decide +kernel
theorem d_L_noise_2 : decode b_L_noise 2 = .ok (.iload_n 2, 1) := by decide +kernel
theorem d_L_noise_3 : decode b_L_noise 3 = .ok (.iload_n 3, 1) := by decide +kernel
theorem d_L_noise_4 : decode b_L_noise 4 = .ok (.lload 4, 2) := by decide +kernel
theorem d_L_noise_6 : decode b_L_noise 6 = .ok (.invokevirtual 51, 3) := by decide +kernel
theorem d_L_noise_9 : decode b_L_noise 9 = .ok (.goto 7, 3) := by decide +kernel
theorem d_L_noise_12 : decode b_L_noise 12 = .ok (.astore 6, 2) := by decide +kernel
theorem d_L_noise_14 : decode b_L_noise 14 = .ok (.iconst 1, 1) := by decide +kernel
theorem d_L_noise_15 : decode b_L_noise 15 = .ok (.ireturn, 1) := by decide +kernel
theorem d_L_noise_16 : decode b_L_noise 16 = .ok (.iconst 0, 1) := by decide +kernel
theorem d_L_noise_17 : decode b_L_noise 17 = .ok (.ireturn, 1) := by decide +kernel
theorem d_L_meddle_0 : decode b_L_meddle 0 = .ok (.aload 4, 2) := by decide +kernel
theorem d_L_meddle_2 : decode b_L_meddle 2 = .ok (.iconst 0, 1) := by decide +kernel
theorem d_L_meddle_3 : decode b_L_meddle 3 = .ok (.aload_n 0, 1) := by decide +kernel
theorem d_L_meddle_4 : decode b_L_meddle 4 = .ok (.iload_n 1, 1) := by decide +kernel
theorem d_L_meddle_5 : decode b_L_meddle 5 = .ok (.iload_n 2, 1) := by decide +kernel
theorem d_L_meddle_6 : decode b_L_meddle 6 = .ok (.iload_n 3, 1) := by decide +kernel
theorem d_L_meddle_7 : decode b_L_meddle 7 = .ok (.invokevirtual 55, 3) := by decide +kernel
theorem d_L_meddle_10 : decode b_L_meddle 10 = .ok (.ifCond .eq 7, 3) := by decide +kernel
theorem d_L_meddle_13 : decode b_L_meddle 13 = .ok (.lconst 1, 1) := by decide +kernel
theorem d_L_meddle_14 : decode b_L_meddle 14 = .ok (.goto 4, 3) := by decide +kernel
theorem d_L_meddle_17 : decode b_L_meddle 17 = .ok (.lconst 0, 1) := by decide +kernel
theorem d_L_meddle_18 : decode b_L_meddle 18 = .ok (.lastore, 1) := by decide +kernel
theorem d_L_meddle_19 : decode b_L_meddle 19 = .ok (.goto 7, 3) := by decide +kernel
theorem d_L_meddle_22 : decode b_L_meddle 22 = .ok (.astore 5, 2) := by decide +kernel
theorem d_L_meddle_24 : decode b_L_meddle 24 = .ok (.iconst 1, 1) := by decide +kernel
theorem d_L_meddle_25 : decode b_L_meddle 25 = .ok (.ireturn, 1) := by decide +kernel
theorem d_L_meddle_26 : decode b_L_meddle 26 = .ok (.iconst 0, 1) := by decide +kernel
theorem d_L_meddle_27 : decode b_L_meddle 27 = .ok (.ireturn, 1) := by decide +kernel
theorem d_L_messageAt_0 : decode b_L_messageAt 0 = .ok (.aload_n 3, 1) := by decide +kernel
theorem d_L_messageAt_1 : decode b_L_messageAt 1 = .ok (.iconst 0, 1) := by decide +kernel
theorem d_L_messageAt_2 : decode b_L_messageAt 2 = .ok (.aload_n 0, 1) := by decide +kernel
theorem d_L_messageAt_3 : decode b_L_messageAt 3 = .ok (.iload_n 1, 1) := by decide +kernel
theorem d_L_messageAt_4 : decode b_L_messageAt 4 = .ok (.iload_n 2, 1) := by decide +kernel
theorem d_L_messageAt_5 : decode b_L_messageAt 5 = .ok (.invokevirtual 59, 3) := by decide +kernel
theorem d_L_messageAt_8 : decode b_L_messageAt 8 = .ok (.i2l, 1) := by decide +kernel
theorem d_L_messageAt_9 : decode b_L_messageAt 9 = .ok (.lastore, 1) := by decide +kernel
theorem d_L_messageAt_10 : decode b_L_messageAt 10 = .ok (.goto 7, 3) := by decide +kernel
theorem d_L_messageAt_13 : decode b_L_messageAt 13 = .ok (.astore 4, 2) := by decide +kernel
theorem d_L_messageAt_15 : decode b_L_messageAt 15 = .ok (.iconst 1, 1) := by decide +kernel
theorem d_L_messageAt_16 : decode b_L_messageAt 16 = .ok (.ireturn, 1) := by decide +kernel
theorem d_L_messageAt_17 : decode b_L_messageAt 17 = .ok (.iconst 0, 1) := by decide +kernel
theorem d_L_messageAt_18 : decode b_L_messageAt 18 = .ok (.ireturn, 1) := by decide +kernel
theorem d_L_byteAt_0 : decode b_L_byteAt 0 = .ok (.aload_n 2, 1) := by decide +kernel
theorem d_L_byteAt_1 : decode b_L_byteAt 1 = .ok (.iconst 0, 1) := by decide +kernel
theorem d_L_byteAt_2 : decode b_L_byteAt 2 = .ok (.aload_n 0, 1) := by decide +kernel
theorem d_L_byteAt_3 : decode b_L_byteAt 3 = .ok (.iload_n 1, 1) := by decide +kernel
theorem d_L_byteAt_4 : decode b_L_byteAt 4 = .ok (.invokevirtual 62, 3) := by decide +kernel
theorem d_L_byteAt_7 : decode b_L_byteAt 7 = .ok (.i2l, 1) := by decide +kernel
theorem d_L_byteAt_8 : decode b_L_byteAt 8 = .ok (.lastore, 1) := by decide +kernel
theorem d_L_byteAt_9 : decode b_L_byteAt 9 = .ok (.goto 6, 3) := by decide +kernel
theorem d_L_byteAt_12 : decode b_L_byteAt 12 = .ok (.astore_n 3, 1) := by decide +kernel
theorem d_L_byteAt_13 : decode b_L_byteAt 13 = .ok (.iconst 1, 1) := by decide +kernel
theorem d_L_byteAt_14 : decode b_L_byteAt 14 = .ok (.ireturn, 1) := by decide +kernel
theorem d_L_byteAt_15 : decode b_L_byteAt 15 = .ok (.iconst 0, 1) := by decide +kernel
theorem d_L_byteAt_16 : decode b_L_byteAt 16 = .ok (.ireturn, 1) := by decide +kernel
theorem d_L_when_0 : decode b_L_when 0 = .ok (.aload_n 3, 1) := by decide +kernel
theorem d_L_when_1 : decode b_L_when 1 = .ok (.iconst 0, 1) := by decide +kernel
theorem d_L_when_2 : decode b_L_when 2 = .ok (.aload_n 0, 1) := by decide +kernel
theorem d_L_when_3 : decode b_L_when 3 = .ok (.iload_n 1, 1) := by decide +kernel
theorem d_L_when_4 : decode b_L_when 4 = .ok (.iload_n 2, 1) := by decide +kernel
theorem d_L_when_5 : decode b_L_when 5 = .ok (.invokevirtual 65, 3) := by decide +kernel
theorem d_L_when_8 : decode b_L_when 8 = .ok (.i2l, 1) := by decide +kernel
theorem d_L_when_9 : decode b_L_when 9 = .ok (.lastore, 1) := by decide +kernel
theorem d_L_when_10 : decode b_L_when 10 = .ok (.goto 7, 3) := by decide +kernel
theorem d_L_when_13 : decode b_L_when 13 = .ok (.astore 4, 2) := by decide +kernel
theorem d_L_when_15 : decode b_L_when 15 = .ok (.iconst 1, 1) := by decide +kernel
theorem d_L_when_16 : decode b_L_when 16 = .ok (.ireturn, 1) := by decide +kernel
theorem d_L_when_17 : decode b_L_when 17 = .ok (.iconst 0, 1) := by decide +kernel
theorem d_L_when_18 : decode b_L_when 18 = .ok (.ireturn, 1) := by decide +kernel
end
section
theorem d_L_law_0 : decode code 0 = .ok (.new 8, 3) := by decide +kernel
theorem d_L_law_3 : decode code 3 = .ok (.dup, 1) := by decide +kernel
theorem d_L_law_4 : decode code 4 = .ok (.invokespecial 68, 3) := by decide +kernel
theorem d_L_law_7 : decode code 7 = .ok (.astore_n 1, 1) := by decide +kernel
theorem d_L_law_8 : decode code 8 = .ok (.new 69, 3) := by decide +kernel
theorem d_L_law_11 : decode code 11 = .ok (.dup, 1) := by decide +kernel
theorem d_L_law_12 : decode code 12 = .ok (.invokespecial 71, 3) := by decide +kernel
theorem d_L_law_15 : decode code 15 = .ok (.astore_n 2, 1) := by decide +kernel
theorem d_L_law_16 : decode code 16 = .ok (.iconst 1, 1) := by decide +kernel
theorem d_L_law_17 : decode code 17 = .ok (.newarray .long, 2) := by decide +kernel
theorem d_L_law_19 : decode code 19 = .ok (.astore_n 3, 1) := by decide +kernel
theorem d_L_law_20 : decode code 20 = .ok (.iconst 0, 1) := by decide +kernel
theorem d_L_law_21 : decode code 21 = .ok (.istore 4, 2) := by decide +kernel
theorem d_L_law_23 : decode code 23 = .ok (.iload 4, 2) := by decide +kernel
theorem d_L_law_25 : decode code 25 = .ok (.aload_n 0, 1) := by decide +kernel
theorem d_L_law_26 : decode code 26 = .ok (.arraylength, 1) := by decide +kernel
theorem d_L_law_27 : decode code 27 = .ok (.bipush 6, 2) := by decide +kernel
theorem d_L_law_29 : decode code 29 = .ok (.isub, 1) := by decide +kernel
theorem d_L_law_30 : decode code 30 = .ok (.if_icmp .gt 1295, 3) := by decide +kernel
theorem d_L_law_33 : decode code 33 = .ok (.aload_n 0, 1) := by decide +kernel
theorem d_L_law_34 : decode code 34 = .ok (.iload 4, 2) := by decide +kernel
theorem d_L_law_36 : decode code 36 = .ok (.iaload, 1) := by decide +kernel
theorem d_L_law_37 : decode code 37 = .ok (.bipush 31, 2) := by decide +kernel
theorem d_L_law_39 : decode code 39 = .ok (.iand, 1) := by decide +kernel
theorem d_L_law_40 : decode code 40 = .ok (.tableswitch 1279 0 18 #[92, 192, 260, 335, 398, 473, 536, 549, 605, 685, 741, 797, 901, 988, 1025, 1093, 1130, 1186, 1254], 92) := by decide +kernel
theorem d_L_law_132 : decode code 132 = .ok (.aload_n 1, 1) := by decide +kernel
theorem d_L_law_133 : decode code 133 = .ok (.aload_n 0, 1) := by decide +kernel
theorem d_L_law_134 : decode code 134 = .ok (.iload 4, 2) := by decide +kernel
theorem d_L_law_136 : decode code 136 = .ok (.iconst 1, 1) := by decide +kernel
theorem d_L_law_137 : decode code 137 = .ok (.iadd, 1) := by decide +kernel
theorem d_L_law_138 : decode code 138 = .ok (.iaload, 1) := by decide +kernel
theorem d_L_law_139 : decode code 139 = .ok (.i2l, 1) := by decide +kernel
theorem d_L_law_140 : decode code 140 = .ok (.bipush 32, 2) := by decide +kernel
theorem d_L_law_142 : decode code 142 = .ok (.lshl, 1) := by decide +kernel
theorem d_L_law_143 : decode code 143 = .ok (.aload_n 0, 1) := by decide +kernel
theorem d_L_law_144 : decode code 144 = .ok (.iload 4, 2) := by decide +kernel
theorem d_L_law_146 : decode code 146 = .ok (.iconst 2, 1) := by decide +kernel
theorem d_L_law_147 : decode code 147 = .ok (.iadd, 1) := by decide +kernel
theorem d_L_law_148 : decode code 148 = .ok (.iaload, 1) := by decide +kernel
theorem d_L_law_149 : decode code 149 = .ok (.i2l, 1) := by decide +kernel
theorem d_L_law_150 : decode code 150 = .ok (.ldc2_w 72, 3) := by decide +kernel
theorem d_L_law_153 : decode code 153 = .ok (.land, 1) := by decide +kernel
theorem d_L_law_154 : decode code 154 = .ok (.lor, 1) := by decide +kernel
theorem d_L_law_155 : decode code 155 = .ok (.aload_n 0, 1) := by decide +kernel
theorem d_L_law_156 : decode code 156 = .ok (.iload 4, 2) := by decide +kernel
theorem d_L_law_158 : decode code 158 = .ok (.iconst 3, 1) := by decide +kernel
theorem d_L_law_159 : decode code 159 = .ok (.iadd, 1) := by decide +kernel
theorem d_L_law_160 : decode code 160 = .ok (.iaload, 1) := by decide +kernel
theorem d_L_law_161 : decode code 161 = .ok (.aload_n 3, 1) := by decide +kernel
theorem d_L_law_162 : decode code 162 = .ok (.invokestatic 74, 3) := by decide +kernel
theorem d_L_law_165 : decode code 165 = .ok (.istore 5, 2) := by decide +kernel
theorem d_L_law_167 : decode code 167 = .ok (.aload_n 2, 1) := by decide +kernel
theorem d_L_law_168 : decode code 168 = .ok (.aload_n 0, 1) := by decide +kernel
theorem d_L_law_169 : decode code 169 = .ok (.iload 4, 2) := by decide +kernel
theorem d_L_law_171 : decode code 171 = .ok (.iconst 1, 1) := by decide +kernel
theorem d_L_law_172 : decode code 172 = .ok (.iadd, 1) := by decide +kernel
theorem d_L_law_173 : decode code 173 = .ok (.iaload, 1) := by decide +kernel
theorem d_L_law_174 : decode code 174 = .ok (.i2l, 1) := by decide +kernel
theorem d_L_law_175 : decode code 175 = .ok (.bipush 32, 2) := by decide +kernel
theorem d_L_law_177 : decode code 177 = .ok (.lshl, 1) := by decide +kernel
theorem d_L_law_178 : decode code 178 = .ok (.aload_n 0, 1) := by decide +kernel
theorem d_L_law_179 : decode code 179 = .ok (.iload 4, 2) := by decide +kernel
theorem d_L_law_181 : decode code 181 = .ok (.iconst 2, 1) := by decide +kernel
theorem d_L_law_182 : decode code 182 = .ok (.iadd, 1) := by decide +kernel
theorem d_L_law_183 : decode code 183 = .ok (.iaload, 1) := by decide +kernel
theorem d_L_law_184 : decode code 184 = .ok (.i2l, 1) := by decide +kernel
theorem d_L_law_185 : decode code 185 = .ok (.ldc2_w 72, 3) := by decide +kernel
theorem d_L_law_188 : decode code 188 = .ok (.land, 1) := by decide +kernel
theorem d_L_law_189 : decode code 189 = .ok (.lor, 1) := by decide +kernel
theorem d_L_law_190 : decode code 190 = .ok (.aload_n 0, 1) := by decide +kernel
theorem d_L_law_191 : decode code 191 = .ok (.iload 4, 2) := by decide +kernel
theorem d_L_law_193 : decode code 193 = .ok (.iconst 3, 1) := by decide +kernel
theorem d_L_law_194 : decode code 194 = .ok (.iadd, 1) := by decide +kernel
theorem d_L_law_195 : decode code 195 = .ok (.iaload, 1) := by decide +kernel
theorem d_L_law_196 : decode code 196 = .ok (.invokevirtual 79, 3) := by decide +kernel
theorem d_L_law_199 : decode code 199 = .ok (.istore 6, 2) := by decide +kernel
theorem d_L_law_201 : decode code 201 = .ok (.aload_n 2, 1) := by decide +kernel
theorem d_L_law_202 : decode code 202 = .ok (.invokevirtual 80, 3) := by decide +kernel
theorem d_L_law_205 : decode code 205 = .ok (.iload 5, 2) := by decide +kernel
theorem d_L_law_207 : decode code 207 = .ok (.if_icmp .eq 5, 3) := by decide +kernel
theorem d_L_law_210 : decode code 210 = .ok (.iconst 0, 1) := by decide +kernel
theorem d_L_law_211 : decode code 211 = .ok (.ireturn, 1) := by decide +kernel
theorem d_L_law_212 : decode code 212 = .ok (.iload 5, 2) := by decide +kernel
theorem d_L_law_214 : decode code 214 = .ok (.ifCond .ne 15, 3) := by decide +kernel
theorem d_L_law_217 : decode code 217 = .ok (.aload_n 3, 1) := by decide +kernel
theorem d_L_law_218 : decode code 218 = .ok (.iconst 0, 1) := by decide +kernel
theorem d_L_law_219 : decode code 219 = .ok (.laload, 1) := by decide +kernel
theorem d_L_law_220 : decode code 220 = .ok (.iload 6, 2) := by decide +kernel
theorem d_L_law_222 : decode code 222 = .ok (.i2l, 1) := by decide +kernel
theorem d_L_law_223 : decode code 223 = .ok (.lcmp, 1) := by decide +kernel
theorem d_L_law_224 : decode code 224 = .ok (.ifCond .eq 5, 3) := by decide +kernel
theorem d_L_law_227 : decode code 227 = .ok (.iconst 0, 1) := by decide +kernel
theorem d_L_law_228 : decode code 228 = .ok (.ireturn, 1) := by decide +kernel
theorem d_L_law_229 : decode code 229 = .ok (.goto 1090, 3) := by decide +kernel
theorem d_L_law_232 : decode code 232 = .ok (.aload_n 1, 1) := by decide +kernel
theorem d_L_law_233 : decode code 233 = .ok (.aload_n 0, 1) := by decide +kernel
theorem d_L_law_234 : decode code 234 = .ok (.iload 4, 2) := by decide +kernel
theorem d_L_law_236 : decode code 236 = .ok (.iconst 1, 1) := by decide +kernel
theorem d_L_law_237 : decode code 237 = .ok (.iadd, 1) := by decide +kernel
theorem d_L_law_238 : decode code 238 = .ok (.iaload, 1) := by decide +kernel
theorem d_L_law_239 : decode code 239 = .ok (.aload_n 0, 1) := by decide +kernel
theorem d_L_law_240 : decode code 240 = .ok (.iload 4, 2) := by decide +kernel
theorem d_L_law_242 : decode code 242 = .ok (.iconst 2, 1) := by decide +kernel
theorem d_L_law_243 : decode code 243 = .ok (.iadd, 1) := by decide +kernel
theorem d_L_law_244 : decode code 244 = .ok (.iaload, 1) := by decide +kernel
theorem d_L_law_245 : decode code 245 = .ok (.aload_n 3, 1) := by decide +kernel
theorem d_L_law_246 : decode code 246 = .ok (.invokestatic 84, 3) := by decide +kernel
theorem d_L_law_249 : decode code 249 = .ok (.istore 5, 2) := by decide +kernel
theorem d_L_law_251 : decode code 251 = .ok (.aload_n 2, 1) := by decide +kernel
theorem d_L_law_252 : decode code 252 = .ok (.aload_n 0, 1) := by decide +kernel
theorem d_L_law_253 : decode code 253 = .ok (.iload 4, 2) := by decide +kernel
theorem d_L_law_255 : decode code 255 = .ok (.iconst 1, 1) := by decide +kernel
theorem d_L_law_256 : decode code 256 = .ok (.iadd, 1) := by decide +kernel
theorem d_L_law_257 : decode code 257 = .ok (.iaload, 1) := by decide +kernel
theorem d_L_law_258 : decode code 258 = .ok (.aload_n 0, 1) := by decide +kernel
theorem d_L_law_259 : decode code 259 = .ok (.iload 4, 2) := by decide +kernel
theorem d_L_law_261 : decode code 261 = .ok (.iconst 2, 1) := by decide +kernel
theorem d_L_law_262 : decode code 262 = .ok (.iadd, 1) := by decide +kernel
theorem d_L_law_263 : decode code 263 = .ok (.iaload, 1) := by decide +kernel
theorem d_L_law_264 : decode code 264 = .ok (.invokevirtual 87, 3) := by decide +kernel
theorem d_L_law_267 : decode code 267 = .ok (.istore 6, 2) := by decide +kernel
theorem d_L_law_269 : decode code 269 = .ok (.aload_n 2, 1) := by decide +kernel
theorem d_L_law_270 : decode code 270 = .ok (.invokevirtual 80, 3) := by decide +kernel
theorem d_L_law_273 : decode code 273 = .ok (.iload 5, 2) := by decide +kernel
theorem d_L_law_275 : decode code 275 = .ok (.if_icmp .eq 5, 3) := by decide +kernel
theorem d_L_law_278 : decode code 278 = .ok (.iconst 0, 1) := by decide +kernel
theorem d_L_law_279 : decode code 279 = .ok (.ireturn, 1) := by decide +kernel
theorem d_L_law_280 : decode code 280 = .ok (.iload 5, 2) := by decide +kernel
theorem d_L_law_282 : decode code 282 = .ok (.ifCond .ne 15, 3) := by decide +kernel
theorem d_L_law_285 : decode code 285 = .ok (.aload_n 3, 1) := by decide +kernel
theorem d_L_law_286 : decode code 286 = .ok (.iconst 0, 1) := by decide +kernel
theorem d_L_law_287 : decode code 287 = .ok (.laload, 1) := by decide +kernel
theorem d_L_law_288 : decode code 288 = .ok (.iload 6, 2) := by decide +kernel
theorem d_L_law_290 : decode code 290 = .ok (.i2l, 1) := by decide +kernel
theorem d_L_law_291 : decode code 291 = .ok (.lcmp, 1) := by decide +kernel
theorem d_L_law_292 : decode code 292 = .ok (.ifCond .eq 5, 3) := by decide +kernel
theorem d_L_law_295 : decode code 295 = .ok (.iconst 0, 1) := by decide +kernel
theorem d_L_law_296 : decode code 296 = .ok (.ireturn, 1) := by decide +kernel
theorem d_L_law_297 : decode code 297 = .ok (.goto 1022, 3) := by decide +kernel
theorem d_L_law_300 : decode code 300 = .ok (.aload_n 1, 1) := by decide +kernel
theorem d_L_law_301 : decode code 301 = .ok (.aload_n 0, 1) := by decide +kernel
theorem d_L_law_302 : decode code 302 = .ok (.iload 4, 2) := by decide +kernel
theorem d_L_law_304 : decode code 304 = .ok (.iconst 1, 1) := by decide +kernel
theorem d_L_law_305 : decode code 305 = .ok (.iadd, 1) := by decide +kernel
theorem d_L_law_306 : decode code 306 = .ok (.iaload, 1) := by decide +kernel
theorem d_L_law_307 : decode code 307 = .ok (.aload_n 0, 1) := by decide +kernel
theorem d_L_law_308 : decode code 308 = .ok (.iload 4, 2) := by decide +kernel
theorem d_L_law_310 : decode code 310 = .ok (.iconst 2, 1) := by decide +kernel
theorem d_L_law_311 : decode code 311 = .ok (.iadd, 1) := by decide +kernel
theorem d_L_law_312 : decode code 312 = .ok (.iaload, 1) := by decide +kernel
theorem d_L_law_313 : decode code 313 = .ok (.aload_n 3, 1) := by decide +kernel
theorem d_L_law_314 : decode code 314 = .ok (.invokestatic 88, 3) := by decide +kernel
theorem d_L_law_317 : decode code 317 = .ok (.istore 5, 2) := by decide +kernel
theorem d_L_law_319 : decode code 319 = .ok (.aload_n 2, 1) := by decide +kernel
theorem d_L_law_320 : decode code 320 = .ok (.aload_n 0, 1) := by decide +kernel
theorem d_L_law_321 : decode code 321 = .ok (.iload 4, 2) := by decide +kernel
theorem d_L_law_323 : decode code 323 = .ok (.iconst 1, 1) := by decide +kernel
theorem d_L_law_324 : decode code 324 = .ok (.iadd, 1) := by decide +kernel
theorem d_L_law_325 : decode code 325 = .ok (.iaload, 1) := by decide +kernel
theorem d_L_law_326 : decode code 326 = .ok (.aload_n 0, 1) := by decide +kernel
theorem d_L_law_327 : decode code 327 = .ok (.iload 4, 2) := by decide +kernel
theorem d_L_law_329 : decode code 329 = .ok (.iconst 2, 1) := by decide +kernel
theorem d_L_law_330 : decode code 330 = .ok (.iadd, 1) := by decide +kernel
theorem d_L_law_331 : decode code 331 = .ok (.iaload, 1) := by decide +kernel
theorem d_L_law_332 : decode code 332 = .ok (.invokevirtual 90, 3) := by decide +kernel
theorem d_L_law_335 : decode code 335 = .ok (.istore 6, 2) := by decide +kernel
theorem d_L_law_337 : decode code 337 = .ok (.aload_n 2, 1) := by decide +kernel
theorem d_L_law_338 : decode code 338 = .ok (.invokevirtual 80, 3) := by decide +kernel
theorem d_L_law_341 : decode code 341 = .ok (.iload 5, 2) := by decide +kernel
theorem d_L_law_343 : decode code 343 = .ok (.if_icmp .eq 5, 3) := by decide +kernel
theorem d_L_law_346 : decode code 346 = .ok (.iconst 0, 1) := by decide +kernel
theorem d_L_law_347 : decode code 347 = .ok (.ireturn, 1) := by decide +kernel
theorem d_L_law_348 : decode code 348 = .ok (.iload 5, 2) := by decide +kernel
theorem d_L_law_350 : decode code 350 = .ok (.ifCond .ne 22, 3) := by decide +kernel
theorem d_L_law_353 : decode code 353 = .ok (.aload_n 3, 1) := by decide +kernel
theorem d_L_law_354 : decode code 354 = .ok (.iconst 0, 1) := by decide +kernel
theorem d_L_law_355 : decode code 355 = .ok (.laload, 1) := by decide +kernel
theorem d_L_law_356 : decode code 356 = .ok (.iload 6, 2) := by decide +kernel
theorem d_L_law_358 : decode code 358 = .ok (.ifCond .eq 7, 3) := by decide +kernel
theorem d_L_law_361 : decode code 361 = .ok (.lconst 1, 1) := by decide +kernel
theorem d_L_law_362 : decode code 362 = .ok (.goto 4, 3) := by decide +kernel
theorem d_L_law_365 : decode code 365 = .ok (.lconst 0, 1) := by decide +kernel
theorem d_L_law_366 : decode code 366 = .ok (.lcmp, 1) := by decide +kernel
theorem d_L_law_367 : decode code 367 = .ok (.ifCond .eq 5, 3) := by decide +kernel
theorem d_L_law_370 : decode code 370 = .ok (.iconst 0, 1) := by decide +kernel
theorem d_L_law_371 : decode code 371 = .ok (.ireturn, 1) := by decide +kernel
theorem d_L_law_372 : decode code 372 = .ok (.goto 947, 3) := by decide +kernel
theorem d_L_law_375 : decode code 375 = .ok (.aload_n 1, 1) := by decide +kernel
theorem d_L_law_376 : decode code 376 = .ok (.aload_n 0, 1) := by decide +kernel
theorem d_L_law_377 : decode code 377 = .ok (.iload 4, 2) := by decide +kernel
theorem d_L_law_379 : decode code 379 = .ok (.iconst 1, 1) := by decide +kernel
theorem d_L_law_380 : decode code 380 = .ok (.iadd, 1) := by decide +kernel
theorem d_L_law_381 : decode code 381 = .ok (.iaload, 1) := by decide +kernel
theorem d_L_law_382 : decode code 382 = .ok (.aload_n 3, 1) := by decide +kernel
theorem d_L_law_383 : decode code 383 = .ok (.invokestatic 91, 3) := by decide +kernel
theorem d_L_law_386 : decode code 386 = .ok (.istore 5, 2) := by decide +kernel
theorem d_L_law_388 : decode code 388 = .ok (.aload_n 2, 1) := by decide +kernel
theorem d_L_law_389 : decode code 389 = .ok (.aload_n 0, 1) := by decide +kernel
theorem d_L_law_390 : decode code 390 = .ok (.iload 4, 2) := by decide +kernel
theorem d_L_law_392 : decode code 392 = .ok (.iconst 1, 1) := by decide +kernel
theorem d_L_law_393 : decode code 393 = .ok (.iadd, 1) := by decide +kernel
theorem d_L_law_394 : decode code 394 = .ok (.iaload, 1) := by decide +kernel
theorem d_L_law_395 : decode code 395 = .ok (.invokevirtual 94, 3) := by decide +kernel
theorem d_L_law_398 : decode code 398 = .ok (.istore 6, 2) := by decide +kernel
theorem d_L_law_400 : decode code 400 = .ok (.aload_n 2, 1) := by decide +kernel
theorem d_L_law_401 : decode code 401 = .ok (.invokevirtual 80, 3) := by decide +kernel
theorem d_L_law_404 : decode code 404 = .ok (.iload 5, 2) := by decide +kernel
theorem d_L_law_406 : decode code 406 = .ok (.if_icmp .eq 5, 3) := by decide +kernel
theorem d_L_law_409 : decode code 409 = .ok (.iconst 0, 1) := by decide +kernel
theorem d_L_law_410 : decode code 410 = .ok (.ireturn, 1) := by decide +kernel
theorem d_L_law_411 : decode code 411 = .ok (.iload 5, 2) := by decide +kernel
theorem d_L_law_413 : decode code 413 = .ok (.ifCond .ne 22, 3) := by decide +kernel
theorem d_L_law_416 : decode code 416 = .ok (.aload_n 3, 1) := by decide +kernel
theorem d_L_law_417 : decode code 417 = .ok (.iconst 0, 1) := by decide +kernel
theorem d_L_law_418 : decode code 418 = .ok (.laload, 1) := by decide +kernel
theorem d_L_law_419 : decode code 419 = .ok (.iload 6, 2) := by decide +kernel
theorem d_L_law_421 : decode code 421 = .ok (.ifCond .eq 7, 3) := by decide +kernel
theorem d_L_law_424 : decode code 424 = .ok (.lconst 1, 1) := by decide +kernel
theorem d_L_law_425 : decode code 425 = .ok (.goto 4, 3) := by decide +kernel
theorem d_L_law_428 : decode code 428 = .ok (.lconst 0, 1) := by decide +kernel
theorem d_L_law_429 : decode code 429 = .ok (.lcmp, 1) := by decide +kernel
theorem d_L_law_430 : decode code 430 = .ok (.ifCond .eq 5, 3) := by decide +kernel
theorem d_L_law_433 : decode code 433 = .ok (.iconst 0, 1) := by decide +kernel
theorem d_L_law_434 : decode code 434 = .ok (.ireturn, 1) := by decide +kernel
theorem d_L_law_435 : decode code 435 = .ok (.goto 884, 3) := by decide +kernel
theorem d_L_law_438 : decode code 438 = .ok (.aload_n 1, 1) := by decide +kernel
theorem d_L_law_439 : decode code 439 = .ok (.aload_n 0, 1) := by decide +kernel
theorem d_L_law_440 : decode code 440 = .ok (.iload 4, 2) := by decide +kernel
theorem d_L_law_442 : decode code 442 = .ok (.iconst 1, 1) := by decide +kernel
theorem d_L_law_443 : decode code 443 = .ok (.iadd, 1) := by decide +kernel
theorem d_L_law_444 : decode code 444 = .ok (.iaload, 1) := by decide +kernel
theorem d_L_law_445 : decode code 445 = .ok (.aload_n 0, 1) := by decide +kernel
theorem d_L_law_446 : decode code 446 = .ok (.iload 4, 2) := by decide +kernel
theorem d_L_law_448 : decode code 448 = .ok (.iconst 2, 1) := by decide +kernel
theorem d_L_law_449 : decode code 449 = .ok (.iadd, 1) := by decide +kernel
theorem d_L_law_450 : decode code 450 = .ok (.iaload, 1) := by decide +kernel
theorem d_L_law_451 : decode code 451 = .ok (.aload_n 3, 1) := by decide +kernel
theorem d_L_law_452 : decode code 452 = .ok (.invokestatic 95, 3) := by decide +kernel
theorem d_L_law_455 : decode code 455 = .ok (.istore 5, 2) := by decide +kernel
theorem d_L_law_457 : decode code 457 = .ok (.aload_n 2, 1) := by decide +kernel
theorem d_L_law_458 : decode code 458 = .ok (.aload_n 0, 1) := by decide +kernel
theorem d_L_law_459 : decode code 459 = .ok (.iload 4, 2) := by decide +kernel
theorem d_L_law_461 : decode code 461 = .ok (.iconst 1, 1) := by decide +kernel
theorem d_L_law_462 : decode code 462 = .ok (.iadd, 1) := by decide +kernel
theorem d_L_law_463 : decode code 463 = .ok (.iaload, 1) := by decide +kernel
theorem d_L_law_464 : decode code 464 = .ok (.aload_n 0, 1) := by decide +kernel
theorem d_L_law_465 : decode code 465 = .ok (.iload 4, 2) := by decide +kernel
theorem d_L_law_467 : decode code 467 = .ok (.iconst 2, 1) := by decide +kernel
theorem d_L_law_468 : decode code 468 = .ok (.iadd, 1) := by decide +kernel
theorem d_L_law_469 : decode code 469 = .ok (.iaload, 1) := by decide +kernel
theorem d_L_law_470 : decode code 470 = .ok (.invokevirtual 97, 3) := by decide +kernel
theorem d_L_law_473 : decode code 473 = .ok (.istore 6, 2) := by decide +kernel
theorem d_L_law_475 : decode code 475 = .ok (.aload_n 2, 1) := by decide +kernel
theorem d_L_law_476 : decode code 476 = .ok (.invokevirtual 80, 3) := by decide +kernel
theorem d_L_law_479 : decode code 479 = .ok (.iload 5, 2) := by decide +kernel
theorem d_L_law_481 : decode code 481 = .ok (.if_icmp .eq 5, 3) := by decide +kernel
theorem d_L_law_484 : decode code 484 = .ok (.iconst 0, 1) := by decide +kernel
theorem d_L_law_485 : decode code 485 = .ok (.ireturn, 1) := by decide +kernel
theorem d_L_law_486 : decode code 486 = .ok (.iload 5, 2) := by decide +kernel
theorem d_L_law_488 : decode code 488 = .ok (.ifCond .ne 22, 3) := by decide +kernel
theorem d_L_law_491 : decode code 491 = .ok (.aload_n 3, 1) := by decide +kernel
theorem d_L_law_492 : decode code 492 = .ok (.iconst 0, 1) := by decide +kernel
theorem d_L_law_493 : decode code 493 = .ok (.laload, 1) := by decide +kernel
theorem d_L_law_494 : decode code 494 = .ok (.iload 6, 2) := by decide +kernel
theorem d_L_law_496 : decode code 496 = .ok (.ifCond .eq 7, 3) := by decide +kernel
theorem d_L_law_499 : decode code 499 = .ok (.lconst 1, 1) := by decide +kernel
theorem d_L_law_500 : decode code 500 = .ok (.goto 4, 3) := by decide +kernel
theorem d_L_law_503 : decode code 503 = .ok (.lconst 0, 1) := by decide +kernel
theorem d_L_law_504 : decode code 504 = .ok (.lcmp, 1) := by decide +kernel
theorem d_L_law_505 : decode code 505 = .ok (.ifCond .eq 5, 3) := by decide +kernel
theorem d_L_law_508 : decode code 508 = .ok (.iconst 0, 1) := by decide +kernel
theorem d_L_law_509 : decode code 509 = .ok (.ireturn, 1) := by decide +kernel
theorem d_L_law_510 : decode code 510 = .ok (.goto 809, 3) := by decide +kernel
theorem d_L_law_513 : decode code 513 = .ok (.aload_n 1, 1) := by decide +kernel
theorem d_L_law_514 : decode code 514 = .ok (.aload_n 0, 1) := by decide +kernel
theorem d_L_law_515 : decode code 515 = .ok (.iload 4, 2) := by decide +kernel
theorem d_L_law_517 : decode code 517 = .ok (.iconst 1, 1) := by decide +kernel
theorem d_L_law_518 : decode code 518 = .ok (.iadd, 1) := by decide +kernel
theorem d_L_law_519 : decode code 519 = .ok (.iaload, 1) := by decide +kernel
theorem d_L_law_520 : decode code 520 = .ok (.aload_n 3, 1) := by decide +kernel
end
section
theorem d_L_law_521 : decode code 521 = .ok (.invokestatic 98, 3) := by decide +kernel
theorem d_L_law_524 : decode code 524 = .ok (.istore 5, 2) := by decide +kernel
theorem d_L_law_526 : decode code 526 = .ok (.aload_n 2, 1) := by decide +kernel
theorem d_L_law_527 : decode code 527 = .ok (.aload_n 0, 1) := by decide +kernel
theorem d_L_law_528 : decode code 528 = .ok (.iload 4, 2) := by decide +kernel
theorem d_L_law_530 : decode code 530 = .ok (.iconst 1, 1) := by decide +kernel
theorem d_L_law_531 : decode code 531 = .ok (.iadd, 1) := by decide +kernel
theorem d_L_law_532 : decode code 532 = .ok (.iaload, 1) := by decide +kernel
theorem d_L_law_533 : decode code 533 = .ok (.invokevirtual 100, 3) := by decide +kernel
theorem d_L_law_536 : decode code 536 = .ok (.istore 6, 2) := by decide +kernel
theorem d_L_law_538 : decode code 538 = .ok (.aload_n 2, 1) := by decide +kernel
theorem d_L_law_539 : decode code 539 = .ok (.invokevirtual 80, 3) := by decide +kernel
theorem d_L_law_542 : decode code 542 = .ok (.iload 5, 2) := by decide +kernel
theorem d_L_law_544 : decode code 544 = .ok (.if_icmp .eq 5, 3) := by decide +kernel
theorem d_L_law_547 : decode code 547 = .ok (.iconst 0, 1) := by decide +kernel
theorem d_L_law_548 : decode code 548 = .ok (.ireturn, 1) := by decide +kernel
theorem d_L_law_549 : decode code 549 = .ok (.iload 5, 2) := by decide +kernel
theorem d_L_law_551 : decode code 551 = .ok (.ifCond .ne 22, 3) := by decide +kernel
theorem d_L_law_554 : decode code 554 = .ok (.aload_n 3, 1) := by decide +kernel
theorem d_L_law_555 : decode code 555 = .ok (.iconst 0, 1) := by decide +kernel
theorem d_L_law_556 : decode code 556 = .ok (.laload, 1) := by decide +kernel
theorem d_L_law_557 : decode code 557 = .ok (.iload 6, 2) := by decide +kernel
theorem d_L_law_559 : decode code 559 = .ok (.ifCond .eq 7, 3) := by decide +kernel
theorem d_L_law_562 : decode code 562 = .ok (.lconst 1, 1) := by decide +kernel
theorem d_L_law_563 : decode code 563 = .ok (.goto 4, 3) := by decide +kernel
theorem d_L_law_566 : decode code 566 = .ok (.lconst 0, 1) := by decide +kernel
theorem d_L_law_567 : decode code 567 = .ok (.lcmp, 1) := by decide +kernel
theorem d_L_law_568 : decode code 568 = .ok (.ifCond .eq 5, 3) := by decide +kernel
theorem d_L_law_571 : decode code 571 = .ok (.iconst 0, 1) := by decide +kernel
theorem d_L_law_572 : decode code 572 = .ok (.ireturn, 1) := by decide +kernel
theorem d_L_law_573 : decode code 573 = .ok (.goto 746, 3) := by decide +kernel
theorem d_L_law_576 : decode code 576 = .ok (.aload_n 1, 1) := by decide +kernel
theorem d_L_law_577 : decode code 577 = .ok (.invokevirtual 101, 3) := by decide +kernel
theorem d_L_law_580 : decode code 580 = .ok (.aload_n 2, 1) := by decide +kernel
theorem d_L_law_581 : decode code 581 = .ok (.invokevirtual 104, 3) := by decide +kernel
theorem d_L_law_584 : decode code 584 = .ok (.if_icmp .eq 735, 3) := by decide +kernel
theorem d_L_law_587 : decode code 587 = .ok (.iconst 0, 1) := by decide +kernel
theorem d_L_law_588 : decode code 588 = .ok (.ireturn, 1) := by decide +kernel
theorem d_L_law_589 : decode code 589 = .ok (.aload_n 1, 1) := by decide +kernel
theorem d_L_law_590 : decode code 590 = .ok (.aload_n 0, 1) := by decide +kernel
theorem d_L_law_591 : decode code 591 = .ok (.iload 4, 2) := by decide +kernel
theorem d_L_law_593 : decode code 593 = .ok (.iconst 1, 1) := by decide +kernel
theorem d_L_law_594 : decode code 594 = .ok (.iadd, 1) := by decide +kernel
theorem d_L_law_595 : decode code 595 = .ok (.iaload, 1) := by decide +kernel
theorem d_L_law_596 : decode code 596 = .ok (.aload_n 3, 1) := by decide +kernel
theorem d_L_law_597 : decode code 597 = .ok (.invokestatic 105, 3) := by decide +kernel
theorem d_L_law_600 : decode code 600 = .ok (.istore 5, 2) := by decide +kernel
theorem d_L_law_602 : decode code 602 = .ok (.aload_n 2, 1) := by decide +kernel
theorem d_L_law_603 : decode code 603 = .ok (.aload_n 0, 1) := by decide +kernel
theorem d_L_law_604 : decode code 604 = .ok (.iload 4, 2) := by decide +kernel
theorem d_L_law_606 : decode code 606 = .ok (.iconst 1, 1) := by decide +kernel
theorem d_L_law_607 : decode code 607 = .ok (.iadd, 1) := by decide +kernel
theorem d_L_law_608 : decode code 608 = .ok (.iaload, 1) := by decide +kernel
theorem d_L_law_609 : decode code 609 = .ok (.invokevirtual 107, 3) := by decide +kernel
theorem d_L_law_612 : decode code 612 = .ok (.istore 6, 2) := by decide +kernel
theorem d_L_law_614 : decode code 614 = .ok (.aload_n 2, 1) := by decide +kernel
theorem d_L_law_615 : decode code 615 = .ok (.invokevirtual 80, 3) := by decide +kernel
theorem d_L_law_618 : decode code 618 = .ok (.iload 5, 2) := by decide +kernel
theorem d_L_law_620 : decode code 620 = .ok (.if_icmp .eq 5, 3) := by decide +kernel
theorem d_L_law_623 : decode code 623 = .ok (.iconst 0, 1) := by decide +kernel
theorem d_L_law_624 : decode code 624 = .ok (.ireturn, 1) := by decide +kernel
theorem d_L_law_625 : decode code 625 = .ok (.iload 5, 2) := by decide +kernel
theorem d_L_law_627 : decode code 627 = .ok (.ifCond .ne 15, 3) := by decide +kernel
theorem d_L_law_630 : decode code 630 = .ok (.aload_n 3, 1) := by decide +kernel
theorem d_L_law_631 : decode code 631 = .ok (.iconst 0, 1) := by decide +kernel
theorem d_L_law_632 : decode code 632 = .ok (.laload, 1) := by decide +kernel
theorem d_L_law_633 : decode code 633 = .ok (.iload 6, 2) := by decide +kernel
theorem d_L_law_635 : decode code 635 = .ok (.i2l, 1) := by decide +kernel
theorem d_L_law_636 : decode code 636 = .ok (.lcmp, 1) := by decide +kernel
theorem d_L_law_637 : decode code 637 = .ok (.ifCond .eq 5, 3) := by decide +kernel
theorem d_L_law_640 : decode code 640 = .ok (.iconst 0, 1) := by decide +kernel
theorem d_L_law_641 : decode code 641 = .ok (.ireturn, 1) := by decide +kernel
theorem d_L_law_642 : decode code 642 = .ok (.goto 677, 3) := by decide +kernel
theorem d_L_law_645 : decode code 645 = .ok (.aload_n 1, 1) := by decide +kernel
theorem d_L_law_646 : decode code 646 = .ok (.aload_n 0, 1) := by decide +kernel
theorem d_L_law_647 : decode code 647 = .ok (.iload 4, 2) := by decide +kernel
theorem d_L_law_649 : decode code 649 = .ok (.iconst 1, 1) := by decide +kernel
theorem d_L_law_650 : decode code 650 = .ok (.iadd, 1) := by decide +kernel
theorem d_L_law_651 : decode code 651 = .ok (.iaload, 1) := by decide +kernel
theorem d_L_law_652 : decode code 652 = .ok (.aload_n 0, 1) := by decide +kernel
theorem d_L_law_653 : decode code 653 = .ok (.iload 4, 2) := by decide +kernel
theorem d_L_law_655 : decode code 655 = .ok (.iconst 2, 1) := by decide +kernel
theorem d_L_law_656 : decode code 656 = .ok (.iadd, 1) := by decide +kernel
theorem d_L_law_657 : decode code 657 = .ok (.iaload, 1) := by decide +kernel
theorem d_L_law_658 : decode code 658 = .ok (.aload_n 0, 1) := by decide +kernel
theorem d_L_law_659 : decode code 659 = .ok (.iload 4, 2) := by decide +kernel
theorem d_L_law_661 : decode code 661 = .ok (.iconst 3, 1) := by decide +kernel
theorem d_L_law_662 : decode code 662 = .ok (.iadd, 1) := by decide +kernel
theorem d_L_law_663 : decode code 663 = .ok (.iaload, 1) := by decide +kernel
theorem d_L_law_664 : decode code 664 = .ok (.aload_n 3, 1) := by decide +kernel
theorem d_L_law_665 : decode code 665 = .ok (.invokestatic 108, 3) := by decide +kernel
theorem d_L_law_668 : decode code 668 = .ok (.istore 5, 2) := by decide +kernel
theorem d_L_law_670 : decode code 670 = .ok (.aload_n 2, 1) := by decide +kernel
theorem d_L_law_671 : decode code 671 = .ok (.aload_n 0, 1) := by decide +kernel
theorem d_L_law_672 : decode code 672 = .ok (.iload 4, 2) := by decide +kernel
theorem d_L_law_674 : decode code 674 = .ok (.iconst 1, 1) := by decide +kernel
theorem d_L_law_675 : decode code 675 = .ok (.iadd, 1) := by decide +kernel
theorem d_L_law_676 : decode code 676 = .ok (.iaload, 1) := by decide +kernel
theorem d_L_law_677 : decode code 677 = .ok (.aload_n 0, 1) := by decide +kernel
theorem d_L_law_678 : decode code 678 = .ok (.iload 4, 2) := by decide +kernel
theorem d_L_law_680 : decode code 680 = .ok (.iconst 2, 1) := by decide +kernel
theorem d_L_law_681 : decode code 681 = .ok (.iadd, 1) := by decide +kernel
theorem d_L_law_682 : decode code 682 = .ok (.iaload, 1) := by decide +kernel
theorem d_L_law_683 : decode code 683 = .ok (.aload_n 0, 1) := by decide +kernel
theorem d_L_law_684 : decode code 684 = .ok (.iload 4, 2) := by decide +kernel
theorem d_L_law_686 : decode code 686 = .ok (.iconst 3, 1) := by decide +kernel
theorem d_L_law_687 : decode code 687 = .ok (.iadd, 1) := by decide +kernel
theorem d_L_law_688 : decode code 688 = .ok (.iaload, 1) := by decide +kernel
theorem d_L_law_689 : decode code 689 = .ok (.invokevirtual 111, 3) := by decide +kernel
theorem d_L_law_692 : decode code 692 = .ok (.istore 6, 2) := by decide +kernel
theorem d_L_law_694 : decode code 694 = .ok (.aload_n 2, 1) := by decide +kernel
theorem d_L_law_695 : decode code 695 = .ok (.invokevirtual 80, 3) := by decide +kernel
theorem d_L_law_698 : decode code 698 = .ok (.iload 5, 2) := by decide +kernel
theorem d_L_law_700 : decode code 700 = .ok (.if_icmp .eq 5, 3) := by decide +kernel
theorem d_L_law_703 : decode code 703 = .ok (.iconst 0, 1) := by decide +kernel
theorem d_L_law_704 : decode code 704 = .ok (.ireturn, 1) := by decide +kernel
theorem d_L_law_705 : decode code 705 = .ok (.iload 5, 2) := by decide +kernel
theorem d_L_law_707 : decode code 707 = .ok (.ifCond .ne 15, 3) := by decide +kernel
theorem d_L_law_710 : decode code 710 = .ok (.aload_n 3, 1) := by decide +kernel
theorem d_L_law_711 : decode code 711 = .ok (.iconst 0, 1) := by decide +kernel
theorem d_L_law_712 : decode code 712 = .ok (.laload, 1) := by decide +kernel
theorem d_L_law_713 : decode code 713 = .ok (.iload 6, 2) := by decide +kernel
theorem d_L_law_715 : decode code 715 = .ok (.i2l, 1) := by decide +kernel
theorem d_L_law_716 : decode code 716 = .ok (.lcmp, 1) := by decide +kernel
theorem d_L_law_717 : decode code 717 = .ok (.ifCond .eq 5, 3) := by decide +kernel
theorem d_L_law_720 : decode code 720 = .ok (.iconst 0, 1) := by decide +kernel
theorem d_L_law_721 : decode code 721 = .ok (.ireturn, 1) := by decide +kernel
theorem d_L_law_722 : decode code 722 = .ok (.goto 597, 3) := by decide +kernel
theorem d_L_law_725 : decode code 725 = .ok (.aload_n 1, 1) := by decide +kernel
theorem d_L_law_726 : decode code 726 = .ok (.aload_n 0, 1) := by decide +kernel
theorem d_L_law_727 : decode code 727 = .ok (.iload 4, 2) := by decide +kernel
theorem d_L_law_729 : decode code 729 = .ok (.iconst 1, 1) := by decide +kernel
theorem d_L_law_730 : decode code 730 = .ok (.iadd, 1) := by decide +kernel
theorem d_L_law_731 : decode code 731 = .ok (.iaload, 1) := by decide +kernel
theorem d_L_law_732 : decode code 732 = .ok (.aload_n 3, 1) := by decide +kernel
theorem d_L_law_733 : decode code 733 = .ok (.invokestatic 112, 3) := by decide +kernel
theorem d_L_law_736 : decode code 736 = .ok (.istore 5, 2) := by decide +kernel
theorem d_L_law_738 : decode code 738 = .ok (.aload_n 2, 1) := by decide +kernel
theorem d_L_law_739 : decode code 739 = .ok (.aload_n 0, 1) := by decide +kernel
theorem d_L_law_740 : decode code 740 = .ok (.iload 4, 2) := by decide +kernel
theorem d_L_law_742 : decode code 742 = .ok (.iconst 1, 1) := by decide +kernel
theorem d_L_law_743 : decode code 743 = .ok (.iadd, 1) := by decide +kernel
theorem d_L_law_744 : decode code 744 = .ok (.iaload, 1) := by decide +kernel
theorem d_L_law_745 : decode code 745 = .ok (.invokevirtual 114, 3) := by decide +kernel
theorem d_L_law_748 : decode code 748 = .ok (.istore 6, 2) := by decide +kernel
theorem d_L_law_750 : decode code 750 = .ok (.aload_n 2, 1) := by decide +kernel
theorem d_L_law_751 : decode code 751 = .ok (.invokevirtual 80, 3) := by decide +kernel
theorem d_L_law_754 : decode code 754 = .ok (.iload 5, 2) := by decide +kernel
theorem d_L_law_756 : decode code 756 = .ok (.if_icmp .eq 5, 3) := by decide +kernel
theorem d_L_law_759 : decode code 759 = .ok (.iconst 0, 1) := by decide +kernel
theorem d_L_law_760 : decode code 760 = .ok (.ireturn, 1) := by decide +kernel
theorem d_L_law_761 : decode code 761 = .ok (.iload 5, 2) := by decide +kernel
theorem d_L_law_763 : decode code 763 = .ok (.ifCond .ne 15, 3) := by decide +kernel
theorem d_L_law_766 : decode code 766 = .ok (.aload_n 3, 1) := by decide +kernel
theorem d_L_law_767 : decode code 767 = .ok (.iconst 0, 1) := by decide +kernel
theorem d_L_law_768 : decode code 768 = .ok (.laload, 1) := by decide +kernel
theorem d_L_law_769 : decode code 769 = .ok (.iload 6, 2) := by decide +kernel
theorem d_L_law_771 : decode code 771 = .ok (.i2l, 1) := by decide +kernel
theorem d_L_law_772 : decode code 772 = .ok (.lcmp, 1) := by decide +kernel
theorem d_L_law_773 : decode code 773 = .ok (.ifCond .eq 5, 3) := by decide +kernel
theorem d_L_law_776 : decode code 776 = .ok (.iconst 0, 1) := by decide +kernel
theorem d_L_law_777 : decode code 777 = .ok (.ireturn, 1) := by decide +kernel
theorem d_L_law_778 : decode code 778 = .ok (.goto 541, 3) := by decide +kernel
theorem d_L_law_781 : decode code 781 = .ok (.aload_n 1, 1) := by decide +kernel
theorem d_L_law_782 : decode code 782 = .ok (.aload_n 0, 1) := by decide +kernel
theorem d_L_law_783 : decode code 783 = .ok (.iload 4, 2) := by decide +kernel
theorem d_L_law_785 : decode code 785 = .ok (.iconst 1, 1) := by decide +kernel
theorem d_L_law_786 : decode code 786 = .ok (.iadd, 1) := by decide +kernel
theorem d_L_law_787 : decode code 787 = .ok (.iaload, 1) := by decide +kernel
theorem d_L_law_788 : decode code 788 = .ok (.aload_n 3, 1) := by decide +kernel
theorem d_L_law_789 : decode code 789 = .ok (.invokestatic 115, 3) := by decide +kernel
theorem d_L_law_792 : decode code 792 = .ok (.istore 5, 2) := by decide +kernel
theorem d_L_law_794 : decode code 794 = .ok (.aload_n 2, 1) := by decide +kernel
theorem d_L_law_795 : decode code 795 = .ok (.aload_n 0, 1) := by decide +kernel
theorem d_L_law_796 : decode code 796 = .ok (.iload 4, 2) := by decide +kernel
theorem d_L_law_798 : decode code 798 = .ok (.iconst 1, 1) := by decide +kernel
theorem d_L_law_799 : decode code 799 = .ok (.iadd, 1) := by decide +kernel
theorem d_L_law_800 : decode code 800 = .ok (.iaload, 1) := by decide +kernel
theorem d_L_law_801 : decode code 801 = .ok (.invokevirtual 117, 3) := by decide +kernel
theorem d_L_law_804 : decode code 804 = .ok (.istore 6, 2) := by decide +kernel
theorem d_L_law_806 : decode code 806 = .ok (.aload_n 2, 1) := by decide +kernel
theorem d_L_law_807 : decode code 807 = .ok (.invokevirtual 80, 3) := by decide +kernel
theorem d_L_law_810 : decode code 810 = .ok (.iload 5, 2) := by decide +kernel
theorem d_L_law_812 : decode code 812 = .ok (.if_icmp .eq 5, 3) := by decide +kernel
theorem d_L_law_815 : decode code 815 = .ok (.iconst 0, 1) := by decide +kernel
theorem d_L_law_816 : decode code 816 = .ok (.ireturn, 1) := by decide +kernel
theorem d_L_law_817 : decode code 817 = .ok (.iload 5, 2) := by decide +kernel
theorem d_L_law_819 : decode code 819 = .ok (.ifCond .ne 15, 3) := by decide +kernel
theorem d_L_law_822 : decode code 822 = .ok (.aload_n 3, 1) := by decide +kernel
theorem d_L_law_823 : decode code 823 = .ok (.iconst 0, 1) := by decide +kernel
theorem d_L_law_824 : decode code 824 = .ok (.laload, 1) := by decide +kernel
theorem d_L_law_825 : decode code 825 = .ok (.iload 6, 2) := by decide +kernel
theorem d_L_law_827 : decode code 827 = .ok (.i2l, 1) := by decide +kernel
theorem d_L_law_828 : decode code 828 = .ok (.lcmp, 1) := by decide +kernel
theorem d_L_law_829 : decode code 829 = .ok (.ifCond .eq 5, 3) := by decide +kernel
theorem d_L_law_832 : decode code 832 = .ok (.iconst 0, 1) := by decide +kernel
theorem d_L_law_833 : decode code 833 = .ok (.ireturn, 1) := by decide +kernel
theorem d_L_law_834 : decode code 834 = .ok (.goto 485, 3) := by decide +kernel
theorem d_L_law_837 : decode code 837 = .ok (.aload_n 1, 1) := by decide +kernel
theorem d_L_law_838 : decode code 838 = .ok (.aload_n 0, 1) := by decide +kernel
theorem d_L_law_839 : decode code 839 = .ok (.iload 4, 2) := by decide +kernel
theorem d_L_law_841 : decode code 841 = .ok (.iconst 1, 1) := by decide +kernel
theorem d_L_law_842 : decode code 842 = .ok (.iadd, 1) := by decide +kernel
theorem d_L_law_843 : decode code 843 = .ok (.iaload, 1) := by decide +kernel
theorem d_L_law_844 : decode code 844 = .ok (.aload_n 0, 1) := by decide +kernel
theorem d_L_law_845 : decode code 845 = .ok (.iload 4, 2) := by decide +kernel
theorem d_L_law_847 : decode code 847 = .ok (.iconst 2, 1) := by decide +kernel
theorem d_L_law_848 : decode code 848 = .ok (.iadd, 1) := by decide +kernel
theorem d_L_law_849 : decode code 849 = .ok (.iaload, 1) := by decide +kernel
theorem d_L_law_850 : decode code 850 = .ok (.aload_n 0, 1) := by decide +kernel
theorem d_L_law_851 : decode code 851 = .ok (.iload 4, 2) := by decide +kernel
theorem d_L_law_853 : decode code 853 = .ok (.iconst 3, 1) := by decide +kernel
theorem d_L_law_854 : decode code 854 = .ok (.iadd, 1) := by decide +kernel
theorem d_L_law_855 : decode code 855 = .ok (.iaload, 1) := by decide +kernel
theorem d_L_law_856 : decode code 856 = .ok (.aload_n 0, 1) := by decide +kernel
theorem d_L_law_857 : decode code 857 = .ok (.iload 4, 2) := by decide +kernel
theorem d_L_law_859 : decode code 859 = .ok (.iconst 4, 1) := by decide +kernel
theorem d_L_law_860 : decode code 860 = .ok (.iadd, 1) := by decide +kernel
theorem d_L_law_861 : decode code 861 = .ok (.iaload, 1) := by decide +kernel
theorem d_L_law_862 : decode code 862 = .ok (.i2l, 1) := by decide +kernel
theorem d_L_law_863 : decode code 863 = .ok (.bipush 32, 2) := by decide +kernel
theorem d_L_law_865 : decode code 865 = .ok (.lshl, 1) := by decide +kernel
theorem d_L_law_866 : decode code 866 = .ok (.aload_n 0, 1) := by decide +kernel
theorem d_L_law_867 : decode code 867 = .ok (.iload 4, 2) := by decide +kernel
theorem d_L_law_869 : decode code 869 = .ok (.iconst 5, 1) := by decide +kernel
theorem d_L_law_870 : decode code 870 = .ok (.iadd, 1) := by decide +kernel
theorem d_L_law_871 : decode code 871 = .ok (.iaload, 1) := by decide +kernel
theorem d_L_law_872 : decode code 872 = .ok (.i2l, 1) := by decide +kernel
theorem d_L_law_873 : decode code 873 = .ok (.ldc2_w 72, 3) := by decide +kernel
theorem d_L_law_876 : decode code 876 = .ok (.land, 1) := by decide +kernel
theorem d_L_law_877 : decode code 877 = .ok (.lor, 1) := by decide +kernel
theorem d_L_law_878 : decode code 878 = .ok (.invokestatic 118, 3) := by decide +kernel
theorem d_L_law_881 : decode code 881 = .ok (.istore 5, 2) := by decide +kernel
theorem d_L_law_883 : decode code 883 = .ok (.aload_n 2, 1) := by decide +kernel
theorem d_L_law_884 : decode code 884 = .ok (.aload_n 0, 1) := by decide +kernel
theorem d_L_law_885 : decode code 885 = .ok (.iload 4, 2) := by decide +kernel
theorem d_L_law_887 : decode code 887 = .ok (.iconst 1, 1) := by decide +kernel
theorem d_L_law_888 : decode code 888 = .ok (.iadd, 1) := by decide +kernel
theorem d_L_law_889 : decode code 889 = .ok (.iaload, 1) := by decide +kernel
theorem d_L_law_890 : decode code 890 = .ok (.aload_n 0, 1) := by decide +kernel
theorem d_L_law_891 : decode code 891 = .ok (.iload 4, 2) := by decide +kernel
theorem d_L_law_893 : decode code 893 = .ok (.iconst 2, 1) := by decide +kernel
theorem d_L_law_894 : decode code 894 = .ok (.iadd, 1) := by decide +kernel
theorem d_L_law_895 : decode code 895 = .ok (.iaload, 1) := by decide +kernel
theorem d_L_law_896 : decode code 896 = .ok (.aload_n 0, 1) := by decide +kernel
theorem d_L_law_897 : decode code 897 = .ok (.iload 4, 2) := by decide +kernel
theorem d_L_law_899 : decode code 899 = .ok (.iconst 3, 1) := by decide +kernel
theorem d_L_law_900 : decode code 900 = .ok (.iadd, 1) := by decide +kernel
theorem d_L_law_901 : decode code 901 = .ok (.iaload, 1) := by decide +kernel
theorem d_L_law_902 : decode code 902 = .ok (.aload_n 0, 1) := by decide +kernel
theorem d_L_law_903 : decode code 903 = .ok (.iload 4, 2) := by decide +kernel
theorem d_L_law_905 : decode code 905 = .ok (.iconst 4, 1) := by decide +kernel
theorem d_L_law_906 : decode code 906 = .ok (.iadd, 1) := by decide +kernel
theorem d_L_law_907 : decode code 907 = .ok (.iaload, 1) := by decide +kernel
theorem d_L_law_908 : decode code 908 = .ok (.i2l, 1) := by decide +kernel
theorem d_L_law_909 : decode code 909 = .ok (.bipush 32, 2) := by decide +kernel
theorem d_L_law_911 : decode code 911 = .ok (.lshl, 1) := by decide +kernel
theorem d_L_law_912 : decode code 912 = .ok (.aload_n 0, 1) := by decide +kernel
theorem d_L_law_913 : decode code 913 = .ok (.iload 4, 2) := by decide +kernel
theorem d_L_law_915 : decode code 915 = .ok (.iconst 5, 1) := by decide +kernel
theorem d_L_law_916 : decode code 916 = .ok (.iadd, 1) := by decide +kernel
theorem d_L_law_917 : decode code 917 = .ok (.iaload, 1) := by decide +kernel
theorem d_L_law_918 : decode code 918 = .ok (.i2l, 1) := by decide +kernel
theorem d_L_law_919 : decode code 919 = .ok (.ldc2_w 72, 3) := by decide +kernel
theorem d_L_law_922 : decode code 922 = .ok (.land, 1) := by decide +kernel
theorem d_L_law_923 : decode code 923 = .ok (.lor, 1) := by decide +kernel
theorem d_L_law_924 : decode code 924 = .ok (.invokevirtual 121, 3) := by decide +kernel
theorem d_L_law_927 : decode code 927 = .ok (.aload_n 2, 1) := by decide +kernel
theorem d_L_law_928 : decode code 928 = .ok (.invokevirtual 80, 3) := by decide +kernel
theorem d_L_law_931 : decode code 931 = .ok (.iload 5, 2) := by decide +kernel
theorem d_L_law_933 : decode code 933 = .ok (.if_icmp .eq 5, 3) := by decide +kernel
theorem d_L_law_936 : decode code 936 = .ok (.iconst 0, 1) := by decide +kernel
theorem d_L_law_937 : decode code 937 = .ok (.ireturn, 1) := by decide +kernel
theorem d_L_law_938 : decode code 938 = .ok (.goto 381, 3) := by decide +kernel
theorem d_L_law_941 : decode code 941 = .ok (.aload_n 1, 1) := by decide +kernel
theorem d_L_law_942 : decode code 942 = .ok (.aload_n 0, 1) := by decide +kernel
theorem d_L_law_943 : decode code 943 = .ok (.iload 4, 2) := by decide +kernel
theorem d_L_law_945 : decode code 945 = .ok (.iconst 1, 1) := by decide +kernel
theorem d_L_law_946 : decode code 946 = .ok (.iadd, 1) := by decide +kernel
theorem d_L_law_947 : decode code 947 = .ok (.iaload, 1) := by decide +kernel
end
section
theorem d_L_law_948 : decode code 948 = .ok (.aload_n 0, 1) := by decide +kernel
theorem d_L_law_949 : decode code 949 = .ok (.iload 4, 2) := by decide +kernel
theorem d_L_law_951 : decode code 951 = .ok (.iconst 2, 1) := by decide +kernel
theorem d_L_law_952 : decode code 952 = .ok (.iadd, 1) := by decide +kernel
theorem d_L_law_953 : decode code 953 = .ok (.iaload, 1) := by decide +kernel
theorem d_L_law_954 : decode code 954 = .ok (.aload_n 0, 1) := by decide +kernel
theorem d_L_law_955 : decode code 955 = .ok (.iload 4, 2) := by decide +kernel
theorem d_L_law_957 : decode code 957 = .ok (.iconst 3, 1) := by decide +kernel
theorem d_L_law_958 : decode code 958 = .ok (.iadd, 1) := by decide +kernel
theorem d_L_law_959 : decode code 959 = .ok (.iaload, 1) := by decide +kernel
theorem d_L_law_960 : decode code 960 = .ok (.aload_n 3, 1) := by decide +kernel
theorem d_L_law_961 : decode code 961 = .ok (.invokestatic 122, 3) := by decide +kernel
theorem d_L_law_964 : decode code 964 = .ok (.istore 5, 2) := by decide +kernel
theorem d_L_law_966 : decode code 966 = .ok (.aload_n 2, 1) := by decide +kernel
theorem d_L_law_967 : decode code 967 = .ok (.aload_n 0, 1) := by decide +kernel
theorem d_L_law_968 : decode code 968 = .ok (.iload 4, 2) := by decide +kernel
theorem d_L_law_970 : decode code 970 = .ok (.iconst 1, 1) := by decide +kernel
theorem d_L_law_971 : decode code 971 = .ok (.iadd, 1) := by decide +kernel
theorem d_L_law_972 : decode code 972 = .ok (.iaload, 1) := by decide +kernel
theorem d_L_law_973 : decode code 973 = .ok (.aload_n 0, 1) := by decide +kernel
theorem d_L_law_974 : decode code 974 = .ok (.iload 4, 2) := by decide +kernel
theorem d_L_law_976 : decode code 976 = .ok (.iconst 2, 1) := by decide +kernel
theorem d_L_law_977 : decode code 977 = .ok (.iadd, 1) := by decide +kernel
theorem d_L_law_978 : decode code 978 = .ok (.iaload, 1) := by decide +kernel
theorem d_L_law_979 : decode code 979 = .ok (.aload_n 0, 1) := by decide +kernel
theorem d_L_law_980 : decode code 980 = .ok (.iload 4, 2) := by decide +kernel
theorem d_L_law_982 : decode code 982 = .ok (.iconst 3, 1) := by decide +kernel
theorem d_L_law_983 : decode code 983 = .ok (.iadd, 1) := by decide +kernel
theorem d_L_law_984 : decode code 984 = .ok (.iaload, 1) := by decide +kernel
theorem d_L_law_985 : decode code 985 = .ok (.invokevirtual 124, 3) := by decide +kernel
theorem d_L_law_988 : decode code 988 = .ok (.istore 6, 2) := by decide +kernel
theorem d_L_law_990 : decode code 990 = .ok (.aload_n 2, 1) := by decide +kernel
theorem d_L_law_991 : decode code 991 = .ok (.invokevirtual 80, 3) := by decide +kernel
theorem d_L_law_994 : decode code 994 = .ok (.iload 5, 2) := by decide +kernel
theorem d_L_law_996 : decode code 996 = .ok (.if_icmp .eq 5, 3) := by decide +kernel
theorem d_L_law_999 : decode code 999 = .ok (.iconst 0, 1) := by decide +kernel
theorem d_L_law_1000 : decode code 1000 = .ok (.ireturn, 1) := by decide +kernel
theorem d_L_law_1001 : decode code 1001 = .ok (.iload 5, 2) := by decide +kernel
theorem d_L_law_1003 : decode code 1003 = .ok (.ifCond .ne 22, 3) := by decide +kernel
theorem d_L_law_1006 : decode code 1006 = .ok (.aload_n 3, 1) := by decide +kernel
theorem d_L_law_1007 : decode code 1007 = .ok (.iconst 0, 1) := by decide +kernel
theorem d_L_law_1008 : decode code 1008 = .ok (.laload, 1) := by decide +kernel
theorem d_L_law_1009 : decode code 1009 = .ok (.iload 6, 2) := by decide +kernel
theorem d_L_law_1011 : decode code 1011 = .ok (.ifCond .eq 7, 3) := by decide +kernel
theorem d_L_law_1014 : decode code 1014 = .ok (.lconst 1, 1) := by decide +kernel
theorem d_L_law_1015 : decode code 1015 = .ok (.goto 4, 3) := by decide +kernel
theorem d_L_law_1018 : decode code 1018 = .ok (.lconst 0, 1) := by decide +kernel
theorem d_L_law_1019 : decode code 1019 = .ok (.lcmp, 1) := by decide +kernel
theorem d_L_law_1020 : decode code 1020 = .ok (.ifCond .eq 5, 3) := by decide +kernel
theorem d_L_law_1023 : decode code 1023 = .ok (.iconst 0, 1) := by decide +kernel
theorem d_L_law_1024 : decode code 1024 = .ok (.ireturn, 1) := by decide +kernel
theorem d_L_law_1025 : decode code 1025 = .ok (.goto 294, 3) := by decide +kernel
theorem d_L_law_1028 : decode code 1028 = .ok (.aload_n 1, 1) := by decide +kernel
theorem d_L_law_1029 : decode code 1029 = .ok (.aload_n 0, 1) := by decide +kernel
theorem d_L_law_1030 : decode code 1030 = .ok (.iload 4, 2) := by decide +kernel
theorem d_L_law_1032 : decode code 1032 = .ok (.iconst 1, 1) := by decide +kernel
theorem d_L_law_1033 : decode code 1033 = .ok (.iadd, 1) := by decide +kernel
theorem d_L_law_1034 : decode code 1034 = .ok (.iaload, 1) := by decide +kernel
theorem d_L_law_1035 : decode code 1035 = .ok (.aload_n 0, 1) := by decide +kernel
theorem d_L_law_1036 : decode code 1036 = .ok (.iload 4, 2) := by decide +kernel
theorem d_L_law_1038 : decode code 1038 = .ok (.iconst 2, 1) := by decide +kernel
theorem d_L_law_1039 : decode code 1039 = .ok (.iadd, 1) := by decide +kernel
theorem d_L_law_1040 : decode code 1040 = .ok (.iaload, 1) := by decide +kernel
theorem d_L_law_1041 : decode code 1041 = .ok (.invokevirtual 125, 3) := by decide +kernel
theorem d_L_law_1044 : decode code 1044 = .ok (.aload_n 2, 1) := by decide +kernel
theorem d_L_law_1045 : decode code 1045 = .ok (.aload_n 0, 1) := by decide +kernel
theorem d_L_law_1046 : decode code 1046 = .ok (.iload 4, 2) := by decide +kernel
theorem d_L_law_1048 : decode code 1048 = .ok (.iconst 1, 1) := by decide +kernel
theorem d_L_law_1049 : decode code 1049 = .ok (.iadd, 1) := by decide +kernel
theorem d_L_law_1050 : decode code 1050 = .ok (.iaload, 1) := by decide +kernel
theorem d_L_law_1051 : decode code 1051 = .ok (.aload_n 0, 1) := by decide +kernel
theorem d_L_law_1052 : decode code 1052 = .ok (.iload 4, 2) := by decide +kernel
theorem d_L_law_1054 : decode code 1054 = .ok (.iconst 2, 1) := by decide +kernel
theorem d_L_law_1055 : decode code 1055 = .ok (.iadd, 1) := by decide +kernel
theorem d_L_law_1056 : decode code 1056 = .ok (.iaload, 1) := by decide +kernel
theorem d_L_law_1057 : decode code 1057 = .ok (.invokevirtual 128, 3) := by decide +kernel
theorem d_L_law_1060 : decode code 1060 = .ok (.if_icmp .eq 259, 3) := by decide +kernel
theorem d_L_law_1063 : decode code 1063 = .ok (.iconst 0, 1) := by decide +kernel
theorem d_L_law_1064 : decode code 1064 = .ok (.ireturn, 1) := by decide +kernel
theorem d_L_law_1065 : decode code 1065 = .ok (.aload_n 1, 1) := by decide +kernel
theorem d_L_law_1066 : decode code 1066 = .ok (.aload_n 0, 1) := by decide +kernel
theorem d_L_law_1067 : decode code 1067 = .ok (.iload 4, 2) := by decide +kernel
theorem d_L_law_1069 : decode code 1069 = .ok (.iconst 1, 1) := by decide +kernel
theorem d_L_law_1070 : decode code 1070 = .ok (.iadd, 1) := by decide +kernel
theorem d_L_law_1071 : decode code 1071 = .ok (.iaload, 1) := by decide +kernel
theorem d_L_law_1072 : decode code 1072 = .ok (.aload_n 0, 1) := by decide +kernel
theorem d_L_law_1073 : decode code 1073 = .ok (.iload 4, 2) := by decide +kernel
theorem d_L_law_1075 : decode code 1075 = .ok (.iconst 2, 1) := by decide +kernel
theorem d_L_law_1076 : decode code 1076 = .ok (.iadd, 1) := by decide +kernel
theorem d_L_law_1077 : decode code 1077 = .ok (.iaload, 1) := by decide +kernel
theorem d_L_law_1078 : decode code 1078 = .ok (.aload_n 3, 1) := by decide +kernel
theorem d_L_law_1079 : decode code 1079 = .ok (.invokestatic 129, 3) := by decide +kernel
theorem d_L_law_1082 : decode code 1082 = .ok (.istore 5, 2) := by decide +kernel
theorem d_L_law_1084 : decode code 1084 = .ok (.aload_n 2, 1) := by decide +kernel
theorem d_L_law_1085 : decode code 1085 = .ok (.aload_n 0, 1) := by decide +kernel
theorem d_L_law_1086 : decode code 1086 = .ok (.iload 4, 2) := by decide +kernel
theorem d_L_law_1088 : decode code 1088 = .ok (.iconst 1, 1) := by decide +kernel
theorem d_L_law_1089 : decode code 1089 = .ok (.iadd, 1) := by decide +kernel
theorem d_L_law_1090 : decode code 1090 = .ok (.iaload, 1) := by decide +kernel
theorem d_L_law_1091 : decode code 1091 = .ok (.aload_n 0, 1) := by decide +kernel
theorem d_L_law_1092 : decode code 1092 = .ok (.iload 4, 2) := by decide +kernel
theorem d_L_law_1094 : decode code 1094 = .ok (.iconst 2, 1) := by decide +kernel
theorem d_L_law_1095 : decode code 1095 = .ok (.iadd, 1) := by decide +kernel
theorem d_L_law_1096 : decode code 1096 = .ok (.iaload, 1) := by decide +kernel
theorem d_L_law_1097 : decode code 1097 = .ok (.invokevirtual 131, 3) := by decide +kernel
theorem d_L_law_1100 : decode code 1100 = .ok (.istore 6, 2) := by decide +kernel
theorem d_L_law_1102 : decode code 1102 = .ok (.aload_n 2, 1) := by decide +kernel
theorem d_L_law_1103 : decode code 1103 = .ok (.invokevirtual 80, 3) := by decide +kernel
theorem d_L_law_1106 : decode code 1106 = .ok (.iload 5, 2) := by decide +kernel
theorem d_L_law_1108 : decode code 1108 = .ok (.if_icmp .eq 5, 3) := by decide +kernel
theorem d_L_law_1111 : decode code 1111 = .ok (.iconst 0, 1) := by decide +kernel
theorem d_L_law_1112 : decode code 1112 = .ok (.ireturn, 1) := by decide +kernel
theorem d_L_law_1113 : decode code 1113 = .ok (.iload 5, 2) := by decide +kernel
theorem d_L_law_1115 : decode code 1115 = .ok (.ifCond .ne 15, 3) := by decide +kernel
theorem d_L_law_1118 : decode code 1118 = .ok (.aload_n 3, 1) := by decide +kernel
theorem d_L_law_1119 : decode code 1119 = .ok (.iconst 0, 1) := by decide +kernel
theorem d_L_law_1120 : decode code 1120 = .ok (.laload, 1) := by decide +kernel
theorem d_L_law_1121 : decode code 1121 = .ok (.iload 6, 2) := by decide +kernel
theorem d_L_law_1123 : decode code 1123 = .ok (.i2l, 1) := by decide +kernel
theorem d_L_law_1124 : decode code 1124 = .ok (.lcmp, 1) := by decide +kernel
theorem d_L_law_1125 : decode code 1125 = .ok (.ifCond .eq 5, 3) := by decide +kernel
theorem d_L_law_1128 : decode code 1128 = .ok (.iconst 0, 1) := by decide +kernel
theorem d_L_law_1129 : decode code 1129 = .ok (.ireturn, 1) := by decide +kernel
theorem d_L_law_1130 : decode code 1130 = .ok (.goto 189, 3) := by decide +kernel
theorem d_L_law_1133 : decode code 1133 = .ok (.aload_n 1, 1) := by decide +kernel
theorem d_L_law_1134 : decode code 1134 = .ok (.aload_n 0, 1) := by decide +kernel
theorem d_L_law_1135 : decode code 1135 = .ok (.iload 4, 2) := by decide +kernel
theorem d_L_law_1137 : decode code 1137 = .ok (.iconst 1, 1) := by decide +kernel
theorem d_L_law_1138 : decode code 1138 = .ok (.iadd, 1) := by decide +kernel
theorem d_L_law_1139 : decode code 1139 = .ok (.iaload, 1) := by decide +kernel
theorem d_L_law_1140 : decode code 1140 = .ok (.aload_n 0, 1) := by decide +kernel
theorem d_L_law_1141 : decode code 1141 = .ok (.iload 4, 2) := by decide +kernel
theorem d_L_law_1143 : decode code 1143 = .ok (.iconst 2, 1) := by decide +kernel
theorem d_L_law_1144 : decode code 1144 = .ok (.iadd, 1) := by decide +kernel
theorem d_L_law_1145 : decode code 1145 = .ok (.iaload, 1) := by decide +kernel
theorem d_L_law_1146 : decode code 1146 = .ok (.invokevirtual 132, 3) := by decide +kernel
theorem d_L_law_1149 : decode code 1149 = .ok (.aload_n 2, 1) := by decide +kernel
theorem d_L_law_1150 : decode code 1150 = .ok (.aload_n 0, 1) := by decide +kernel
theorem d_L_law_1151 : decode code 1151 = .ok (.iload 4, 2) := by decide +kernel
theorem d_L_law_1153 : decode code 1153 = .ok (.iconst 1, 1) := by decide +kernel
theorem d_L_law_1154 : decode code 1154 = .ok (.iadd, 1) := by decide +kernel
theorem d_L_law_1155 : decode code 1155 = .ok (.iaload, 1) := by decide +kernel
theorem d_L_law_1156 : decode code 1156 = .ok (.aload_n 0, 1) := by decide +kernel
theorem d_L_law_1157 : decode code 1157 = .ok (.iload 4, 2) := by decide +kernel
theorem d_L_law_1159 : decode code 1159 = .ok (.iconst 2, 1) := by decide +kernel
theorem d_L_law_1160 : decode code 1160 = .ok (.iadd, 1) := by decide +kernel
theorem d_L_law_1161 : decode code 1161 = .ok (.iaload, 1) := by decide +kernel
theorem d_L_law_1162 : decode code 1162 = .ok (.invokevirtual 135, 3) := by decide +kernel
theorem d_L_law_1165 : decode code 1165 = .ok (.if_icmp .eq 154, 3) := by decide +kernel
theorem d_L_law_1168 : decode code 1168 = .ok (.iconst 0, 1) := by decide +kernel
theorem d_L_law_1169 : decode code 1169 = .ok (.ireturn, 1) := by decide +kernel
theorem d_L_law_1170 : decode code 1170 = .ok (.aload_n 1, 1) := by decide +kernel
theorem d_L_law_1171 : decode code 1171 = .ok (.aload_n 0, 1) := by decide +kernel
theorem d_L_law_1172 : decode code 1172 = .ok (.iload 4, 2) := by decide +kernel
theorem d_L_law_1174 : decode code 1174 = .ok (.iconst 1, 1) := by decide +kernel
theorem d_L_law_1175 : decode code 1175 = .ok (.iadd, 1) := by decide +kernel
theorem d_L_law_1176 : decode code 1176 = .ok (.iaload, 1) := by decide +kernel
theorem d_L_law_1177 : decode code 1177 = .ok (.aload_n 3, 1) := by decide +kernel
theorem d_L_law_1178 : decode code 1178 = .ok (.invokestatic 136, 3) := by decide +kernel
theorem d_L_law_1181 : decode code 1181 = .ok (.istore 5, 2) := by decide +kernel
theorem d_L_law_1183 : decode code 1183 = .ok (.aload_n 2, 1) := by decide +kernel
theorem d_L_law_1184 : decode code 1184 = .ok (.aload_n 0, 1) := by decide +kernel
theorem d_L_law_1185 : decode code 1185 = .ok (.iload 4, 2) := by decide +kernel
theorem d_L_law_1187 : decode code 1187 = .ok (.iconst 1, 1) := by decide +kernel
theorem d_L_law_1188 : decode code 1188 = .ok (.iadd, 1) := by decide +kernel
theorem d_L_law_1189 : decode code 1189 = .ok (.iaload, 1) := by decide +kernel
theorem d_L_law_1190 : decode code 1190 = .ok (.invokevirtual 138, 3) := by decide +kernel
theorem d_L_law_1193 : decode code 1193 = .ok (.istore 6, 2) := by decide +kernel
theorem d_L_law_1195 : decode code 1195 = .ok (.aload_n 2, 1) := by decide +kernel
theorem d_L_law_1196 : decode code 1196 = .ok (.invokevirtual 80, 3) := by decide +kernel
theorem d_L_law_1199 : decode code 1199 = .ok (.iload 5, 2) := by decide +kernel
theorem d_L_law_1201 : decode code 1201 = .ok (.if_icmp .eq 5, 3) := by decide +kernel
theorem d_L_law_1204 : decode code 1204 = .ok (.iconst 0, 1) := by decide +kernel
theorem d_L_law_1205 : decode code 1205 = .ok (.ireturn, 1) := by decide +kernel
theorem d_L_law_1206 : decode code 1206 = .ok (.iload 5, 2) := by decide +kernel
theorem d_L_law_1208 : decode code 1208 = .ok (.ifCond .ne 15, 3) := by decide +kernel
theorem d_L_law_1211 : decode code 1211 = .ok (.aload_n 3, 1) := by decide +kernel
theorem d_L_law_1212 : decode code 1212 = .ok (.iconst 0, 1) := by decide +kernel
theorem d_L_law_1213 : decode code 1213 = .ok (.laload, 1) := by decide +kernel
theorem d_L_law_1214 : decode code 1214 = .ok (.iload 6, 2) := by decide +kernel
theorem d_L_law_1216 : decode code 1216 = .ok (.i2l, 1) := by decide +kernel
theorem d_L_law_1217 : decode code 1217 = .ok (.lcmp, 1) := by decide +kernel
theorem d_L_law_1218 : decode code 1218 = .ok (.ifCond .eq 5, 3) := by decide +kernel
theorem d_L_law_1221 : decode code 1221 = .ok (.iconst 0, 1) := by decide +kernel
theorem d_L_law_1222 : decode code 1222 = .ok (.ireturn, 1) := by decide +kernel
theorem d_L_law_1223 : decode code 1223 = .ok (.goto 96, 3) := by decide +kernel
theorem d_L_law_1226 : decode code 1226 = .ok (.aload_n 1, 1) := by decide +kernel
theorem d_L_law_1227 : decode code 1227 = .ok (.aload_n 0, 1) := by decide +kernel
theorem d_L_law_1228 : decode code 1228 = .ok (.iload 4, 2) := by decide +kernel
theorem d_L_law_1230 : decode code 1230 = .ok (.iconst 1, 1) := by decide +kernel
theorem d_L_law_1231 : decode code 1231 = .ok (.iadd, 1) := by decide +kernel
theorem d_L_law_1232 : decode code 1232 = .ok (.iaload, 1) := by decide +kernel
theorem d_L_law_1233 : decode code 1233 = .ok (.aload_n 0, 1) := by decide +kernel
theorem d_L_law_1234 : decode code 1234 = .ok (.iload 4, 2) := by decide +kernel
theorem d_L_law_1236 : decode code 1236 = .ok (.iconst 2, 1) := by decide +kernel
theorem d_L_law_1237 : decode code 1237 = .ok (.iadd, 1) := by decide +kernel
theorem d_L_law_1238 : decode code 1238 = .ok (.iaload, 1) := by decide +kernel
theorem d_L_law_1239 : decode code 1239 = .ok (.aload_n 3, 1) := by decide +kernel
theorem d_L_law_1240 : decode code 1240 = .ok (.invokestatic 139, 3) := by decide +kernel
theorem d_L_law_1243 : decode code 1243 = .ok (.istore 5, 2) := by decide +kernel
theorem d_L_law_1245 : decode code 1245 = .ok (.aload_n 2, 1) := by decide +kernel
theorem d_L_law_1246 : decode code 1246 = .ok (.aload_n 0, 1) := by decide +kernel
theorem d_L_law_1247 : decode code 1247 = .ok (.iload 4, 2) := by decide +kernel
theorem d_L_law_1249 : decode code 1249 = .ok (.iconst 1, 1) := by decide +kernel
theorem d_L_law_1250 : decode code 1250 = .ok (.iadd, 1) := by decide +kernel
theorem d_L_law_1251 : decode code 1251 = .ok (.iaload, 1) := by decide +kernel
theorem d_L_law_1252 : decode code 1252 = .ok (.aload_n 0, 1) := by decide +kernel
theorem d_L_law_1253 : decode code 1253 = .ok (.iload 4, 2) := by decide +kernel
theorem d_L_law_1255 : decode code 1255 = .ok (.iconst 2, 1) := by decide +kernel
theorem d_L_law_1256 : decode code 1256 = .ok (.iadd, 1) := by decide +kernel
theorem d_L_law_1257 : decode code 1257 = .ok (.iaload, 1) := by decide +kernel
theorem d_L_law_1258 : decode code 1258 = .ok (.invokevirtual 141, 3) := by decide +kernel
theorem d_L_law_1261 : decode code 1261 = .ok (.istore 6, 2) := by decide +kernel
theorem d_L_law_1263 : decode code 1263 = .ok (.aload_n 2, 1) := by decide +kernel
theorem d_L_law_1264 : decode code 1264 = .ok (.invokevirtual 80, 3) := by decide +kernel
theorem d_L_law_1267 : decode code 1267 = .ok (.iload 5, 2) := by decide +kernel
theorem d_L_law_1269 : decode code 1269 = .ok (.if_icmp .eq 5, 3) := by decide +kernel
theorem d_L_law_1272 : decode code 1272 = .ok (.iconst 0, 1) := by decide +kernel
theorem d_L_law_1273 : decode code 1273 = .ok (.ireturn, 1) := by decide +kernel
theorem d_L_law_1274 : decode code 1274 = .ok (.iload 5, 2) := by decide +kernel
theorem d_L_law_1276 : decode code 1276 = .ok (.ifCond .ne 15, 3) := by decide +kernel
theorem d_L_law_1279 : decode code 1279 = .ok (.aload_n 3, 1) := by decide +kernel
theorem d_L_law_1280 : decode code 1280 = .ok (.iconst 0, 1) := by decide +kernel
theorem d_L_law_1281 : decode code 1281 = .ok (.laload, 1) := by decide +kernel
theorem d_L_law_1282 : decode code 1282 = .ok (.iload 6, 2) := by decide +kernel
theorem d_L_law_1284 : decode code 1284 = .ok (.i2l, 1) := by decide +kernel
theorem d_L_law_1285 : decode code 1285 = .ok (.lcmp, 1) := by decide +kernel
theorem d_L_law_1286 : decode code 1286 = .ok (.ifCond .eq 5, 3) := by decide +kernel
theorem d_L_law_1289 : decode code 1289 = .ok (.iconst 0, 1) := by decide +kernel
theorem d_L_law_1290 : decode code 1290 = .ok (.ireturn, 1) := by decide +kernel
theorem d_L_law_1291 : decode code 1291 = .ok (.goto 28, 3) := by decide +kernel
theorem d_L_law_1294 : decode code 1294 = .ok (.aload_n 1, 1) := by decide +kernel
theorem d_L_law_1295 : decode code 1295 = .ok (.aload_n 0, 1) := by decide +kernel
theorem d_L_law_1296 : decode code 1296 = .ok (.iload 4, 2) := by decide +kernel
theorem d_L_law_1298 : decode code 1298 = .ok (.iconst 1, 1) := by decide +kernel
theorem d_L_law_1299 : decode code 1299 = .ok (.iadd, 1) := by decide +kernel
theorem d_L_law_1300 : decode code 1300 = .ok (.iaload, 1) := by decide +kernel
theorem d_L_law_1301 : decode code 1301 = .ok (.invokevirtual 142, 3) := by decide +kernel
theorem d_L_law_1304 : decode code 1304 = .ok (.aload_n 2, 1) := by decide +kernel
theorem d_L_law_1305 : decode code 1305 = .ok (.aload_n 0, 1) := by decide +kernel
theorem d_L_law_1306 : decode code 1306 = .ok (.iload 4, 2) := by decide +kernel
theorem d_L_law_1308 : decode code 1308 = .ok (.iconst 1, 1) := by decide +kernel
theorem d_L_law_1309 : decode code 1309 = .ok (.iadd, 1) := by decide +kernel
theorem d_L_law_1310 : decode code 1310 = .ok (.iaload, 1) := by decide +kernel
theorem d_L_law_1311 : decode code 1311 = .ok (.invokevirtual 145, 3) := by decide +kernel
theorem d_L_law_1314 : decode code 1314 = .ok (.if_icmp .eq 5, 3) := by decide +kernel
theorem d_L_law_1317 : decode code 1317 = .ok (.iconst 0, 1) := by decide +kernel
theorem d_L_law_1318 : decode code 1318 = .ok (.ireturn, 1) := by decide +kernel
theorem d_L_law_1319 : decode code 1319 = .ok (.iinc 4 6, 3) := by decide +kernel
theorem d_L_law_1322 : decode code 1322 = .ok (.goto (-1299), 3) := by decide +kernel
theorem d_L_law_1325 : decode code 1325 = .ok (.iconst 1, 1) := by decide +kernel
theorem d_L_law_1326 : decode code 1326 = .ok (.ireturn, 1) := by decide +kernel
end
section
/-! what is given of the start beside the good words: NO_BYTES, Throwable's two statics, texts, links in the nest, casts -/
def ga_IAE : String := "java/lang/IllegalArgumentException"
def ga_ISE : String := "java/lang/IllegalStateException"
def ga_IOB : String := "java/lang/IndexOutOfBoundsException"
def ga_N : List Cond := [.fieldLinkNest "NetWires$Tape" 23 "NetWires" "NO_BYTES" "[B" "NetWires", .castable ga_IAE ga_IAE, .castable ga_ISE ga_ISE, .castable ga_IOB ga_IOB, .castable "[B" "java/lang/Cloneable", .declares ⟨"java/lang/RuntimeException", "<init>", "(Ljava/lang/String;)V"⟩, .declares ⟨"java/lang/Exception", "<init>", "(Ljava/lang/String;)V"⟩, .declares ⟨"java/lang/Throwable", "<init>", "(Ljava/lang/String;)V"⟩]
def ga_S : List (String × Nat × String) := [("NetWires", 75, "n is not 1 .. 8"), ("NetWires", 86, "the tape is full"), ("NetWires", 143, "n is not 1 .. 1000"), ("NetWires", 160, "loss, twice and spread are not all 0 .. 1000"), ("NetWires", 169, "no such meddling"), ("NetWires", 193, "no such message"), ("NetWires", 196, "no such byte"), ("NetWires", 201, "no such timer"), ("NetWires", 212, "no such endpoint"), ("NetWires", 214, "no such ticks"), ("NetWires", 217, "no such set of endpoints")]
def ga_stat (nb : Nat) (A : Nat → Prop) (U : State) (H : Heap) : Prop :=
  va_Z "NetWires" "NO_BYTES" "[B" (.ref nb) A U H ∧ va_T .byte nb 0 (fun _ => .int 0) A U H ∧ vx_Zq Bundle.tN "UNASSIGNED_STACK" Bundle.steD A U H ∧ vx_Zq Bundle.tN "SUPPRESSED_SENTINEL" Bundle.listD A U H ∧
  (∀ w ∈ ga_N, va_Nw w U) ∧ (∀ q ∈ ga_S, ∃ a, vk_R q.1 q.2.1 q.2.2 a U) ∧ (va_Nc ga_ISE ga_IAE U ∧ va_Nc ga_IAE ga_IOB U) ∧ va_AO "NetWires$Event" U
theorem ga_N_warm {s U : State} (hW : s.WarmedH U.vm) {w : Cond} (hw : w ∈ ga_N) (h : va_Nw w s) : va_Nw w U := by
  unfold ga_N at hw
  simp only [List.mem_cons, List.not_mem_nil, or_false] at hw
  rcases hw with rfl | rfl | rfl | rfl | rfl | rfl | rfl | rfl
  · exact h.warmF hW
  · exact h.warmC hW
  · exact h.warmC hW
  · exact h.warmC hW
  · exact h.warmC hW
  · exact h.warmD hW
  · exact h.warmD hW
  · exact h.warmD hW
theorem ga_N_tab {w : Cond} (hw : w ∈ ga_N) : w.onTables = true := by
  unfold ga_N at hw
  simp only [List.mem_cons, List.not_mem_nil, or_false] at hw
  rcases hw with rfl | rfl | rfl | rfl | rfl | rfl | rfl | rfl <;> rfl
/-! A layer over the kit's worlds: ONE predicate 'ga_w' for all that a method knows of the heap (cells, apart, what has changed, the tables, the statics), and one row for each kind of call and of end. K = (class numbers and slots, array classes, the statics' words). -/
abbrev ga_K : Type := va_G × List (ClassId × FieldType) × ((Nat → Prop) → State → Heap → Prop)
/-- what the statics' words must bear: a warmed machine, a heap that keeps what is not ours, fewer cells of ours -/
def ga_St (St : (Nat → Prop) → State → Heap → Prop) : Prop :=
  (∀ (A : Nat → Prop) (u U : State) (H : Heap), u.WarmedH U.vm → St A u H → St A U H) ∧ (∀ (A : Nat → Prop) (u U : State) (H : Heap), U.vm = u.vm → St A u H → St A U H) ∧
  (∀ (A : Nat → Prop) (U : State) (H H1 : Heap), (∀ a : Nat, a < H.size → ¬ A a → H1[a]? = H[a]?) → St A U H → St A U H1) ∧ (∀ (A B : Nat → Prop) (U : State) (H : Heap), (∀ q, B q → A q) → St A U H → St B U H)
def ga_w (K : ga_K) (ws : va_W) (A : Nat → Prop) (s : State) (H : Heap) (locs : List Loc) : Prop :=
  va_P K.1 classes ws H ∧ va_D A ws ∧ va_S A s.heap H locs ∧ va_K K.1 classes K.2.1 s ∧ (∀ q, s.heap.size ≤ q → A q) ∧ K.2.2 A s s.heap ∧ ga_St K.2.2
def ga_pre (K : ga_K) (ws : va_W) (sz : Nat) (U : State) : Prop :=
  U.heap.size = sz ∧ va_P K.1 classes ws U.heap ∧ va_D (fun _ => True) ws ∧ va_K K.1 classes K.2.1 U ∧ K.2.2 (va_A ws sz) U U.heap ∧ ga_St K.2.2
def ga_post {S : Type} (K : ga_K) (ws : va_W) (sz : Nat) (wf : S → va_W) (u : S) (t : State) : Prop := va_P K.1 classes (wf u) t.heap ∧ va_D (va_A ws sz) (wf u)
theorem ga_start {K : ga_K} {ws : va_W} {sz : Nat} {s : State} (h : ga_pre K ws sz s) : ga_w K ws (va_A ws sz) s s.heap [] := by
  obtain ⟨hsz, hP, hD, hK, hSt, hg⟩ := h
  exact ⟨hP, hD.self, va_S.rf, hK, fun q hq => Or.inr (hsz ▸ hq), hSt, hg⟩
theorem ga_blind {K : ga_K} {ws : va_W} {sz : Nat} {av : List Value} : FrameBlind (va_Pc av (ga_pre K ws sz)) := by
  intro a U g mk q
  obtain ⟨q0, q1, qP, qD, qK, qS, qg⟩ := q
  exact ⟨q0, q1, qP, qD, va_K.moved (u := U) (U := U.calling g mk a) (Vm.Alike.refl U.vm) qK, qg.2.1 _ U (U.calling g mk a) _ rfl qS, qg⟩
theorem ga_free {K : ga_K} {ws : va_W} {A : Nat → Prop} {s : State} {H : Heap} {locs : List Loc} (hw : ga_w K ws A s H locs) : ∀ q, va_A ws H.size q → A q := by
  obtain ⟨hP, hD, hS, hK, hA, -, -⟩ := hw
  intro q hq
  rcases hq with ⟨k, e, hk⟩ | hq
  · exact hD.2 k (q, e) hk
  · exact hA q (Nat.le_trans hS.1 hq)
theorem ga_enter {K : ga_K} {ws : va_W} {A : Nat → Prop} {s : State} {H : Heap} {locs : List Loc} (hw : ga_w K ws A s H locs) (U : State) (hU : U.heap = H) (hW : s.WarmedH U.vm) : ga_pre K ws H.size U := by
  have hf := ga_free hw
  obtain ⟨hP, hD, hS, hK, hA, hSt, hg⟩ := hw
  refine ⟨by rw [hU], by rw [hU]; exact hP, hD.weaken (fun _ _ _ _ => trivial), va_K.moved hW.alike hK, ?_, hg⟩
  rw [hU]
  exact hg.2.2.2 A _ U H hf (hg.1 A s U H hW (hg.2.2.1 A s s.heap H hS.2.1 hSt))
theorem ga_leave {K : ga_K} {ws ws1 : va_W} {A : Nat → Prop} {s : State} {H H1 : Heap} {locs locs1 : List Loc} (hw : ga_w K ws A s H locs) (hP1 : va_P K.1 classes ws1 H1) (hD1 : va_D (va_A ws H.size) ws1) (hS1 : va_S A s.heap H1 locs1) : ga_w K ws1 A s H1 locs1 :=
  ⟨hP1, hD1.weaken (fun _ _ _ h => ga_free hw _ h), hS1, hw.2.2.2.1, hw.2.2.2.2.1, hw.2.2.2.2.2⟩
theorem ga_subL {K : ga_K} {w1 w2 : va_W} {A : Nat → Prop} {s : State} {H : Heap} {locs : List Loc} (hw : ga_w K (w1 ++ w2) A s H locs) : ga_w K w1 A s H locs := by
  obtain ⟨hP, hD, hr⟩ := hw
  have e : ∀ (k : Nat) (q : Nat × va_E), w1[k]? = some q → (w1 ++ w2)[k]? = some q := fun k q h => by
    rw [List.getElem?_append_left (List.getElem?_eq_some_iff.mp h).1]; exact h
  exact ⟨hP.by (fun k => k) e, hD.by (fun k => k) e (fun i j _ _ h => h), hr⟩
theorem ga_subR {K : ga_K} {w1 w2 : va_W} {A : Nat → Prop} {s : State} {H : Heap} {locs : List Loc} (hw : ga_w K (w1 ++ w2) A s H locs) : ga_w K w2 A s H locs := by
  obtain ⟨hP, hD, hr⟩ := hw
  have e : ∀ (k : Nat) (q : Nat × va_E), w2[k]? = some q → (w1 ++ w2)[w1.length + k]? = some q := fun k q h => by
    rw [List.getElem?_append_right (Nat.le_add_right _ _), Nat.add_sub_cancel_left]; exact h
  exact ⟨hP.by (fun k => w1.length + k) e, hD.by (fun k => w1.length + k) e (fun i j _ _ h => Nat.add_left_cancel h), hr⟩
/-- an address of the one part is none of the other's, and lies in the heap -/
theorem ga_apart {K : ga_K} {w1 w2 : va_W} {A : Nat → Prop} {s : State} {H : Heap} {locs : List Loc} (hw : ga_w K (w1 ++ w2) A s H locs) {i j : Nat} {p q : Nat × va_E} (hi : w1[i]? = some p) (hj : w2[j]? = some q) : p.1 ≠ q.1 := by
  intro h
  have e1 : (w1 ++ w2)[i]? = some p := by rw [List.getElem?_append_left (List.getElem?_eq_some_iff.mp hi).1]; exact hi
  have e2 : (w1 ++ w2)[w1.length + j]? = some q := by rw [List.getElem?_append_right (Nat.le_add_right _ _), Nat.add_sub_cancel_left]; exact hj
  have h3 := hw.2.1.1 i (w1.length + j) p q e1 e2 h
  have h4 := (List.getElem?_eq_some_iff.mp hi).1
  omega
theorem ga_joinL {K : ga_K} {w1 w2 v1 : va_W} {A : Nat → Prop} {s : State} {H H1 : Heap} {locs locs1 : List Loc} (hw : ga_w K (w1 ++ w2) A s H locs) (hP1 : va_P K.1 classes v1 H1) (hD1 : va_D (va_A w1 H.size) v1) (hk : ∀ q : Nat, q < H.size → ¬ va_A w1 H.size q → H1[q]? = H[q]?) (hS1 : va_S A s.heap H1 locs1) : ga_w K (v1 ++ w2) A s H1 locs1 := by
  have hL := ga_subL hw
  have hR := ga_subR hw
  have hlt : ∀ (j : Nat) (q : Nat × va_E), w2[j]? = some q → q.1 < H.size := fun j q h => (hR.1 j q h).lt
  have hno : ∀ (j : Nat) (q : Nat × va_E), w2[j]? = some q → ¬ va_A w1 H.size q.1 := by
    intro j q h ha
    rcases ha with ⟨i, e, hi⟩ | ha
    · exact ga_apart hw hi h rfl
    · exact absurd (hlt j q h) (by omega)
  refine ⟨hP1.app (hR.1.kept (fun j q h => hk q.1 (hlt j q h) (hno j q h))), (hD1.weaken (fun _ _ _ h => ga_free hL _ h)).app hR.2.1 ?_, hS1, hw.2.2.2⟩
  intro i j p q hi hj h
  exact hno j q hj (h ▸ hD1.2 i p hi)
theorem ga_joinR {K : ga_K} {w1 w2 v1 : va_W} {A : Nat → Prop} {s : State} {H H1 : Heap} {locs locs1 : List Loc} (hw : ga_w K (w2 ++ w1) A s H locs) (hP1 : va_P K.1 classes v1 H1) (hD1 : va_D (va_A w1 H.size) v1) (hk : ∀ q : Nat, q < H.size → ¬ va_A w1 H.size q → H1[q]? = H[q]?) (hS1 : va_S A s.heap H1 locs1) : ga_w K (w2 ++ v1) A s H1 locs1 := by
  have hL := ga_subL hw
  have hR := ga_subR hw
  have hlt : ∀ (j : Nat) (q : Nat × va_E), w2[j]? = some q → q.1 < H.size := fun j q h => (hL.1 j q h).lt
  have hno : ∀ (j : Nat) (q : Nat × va_E), w2[j]? = some q → ¬ va_A w1 H.size q.1 := by
    intro j q h ha
    rcases ha with ⟨i, e, hi⟩ | ha
    · exact ga_apart hw h hi rfl
    · exact absurd (hlt j q h) (by omega)
  refine ⟨(hL.1.kept (fun j q h => hk q.1 (hlt j q h) (hno j q h))).app hP1, hL.2.1.app (hD1.weaken (fun _ _ _ h => ga_free hR _ h)) ?_, hS1, hw.2.2.2⟩
  intro i j p q hi hj h
  exact hno i p hi (h.symm ▸ hD1.2 j q hj)
/-- the words that every method stands on -/
theorem ga_Good {y : MethodName} {bytes : ByteArray} {maxL : Nat} {ret : Option FieldType} {ex : List Cond} (hex : ∀ w ∈ ex, w ∈ ga_T) (hc : Cond.code y bytes maxL ret ∈ ga_T) : GoodIn ga_T (ex ++ (Cond.code y bytes maxL ret :: ga_T)) := by
  intro w hw
  have h : w ∈ ga_T := by
    rcases List.mem_append.mp hw with h | h
    · exact hex w h
    · rcases List.mem_cons.mp h with h | h
      · rw [h]; exact hc
      · exact h
  exact ⟨h, ga_Tgood w h⟩
section GC
variable {p : Program} {l : Launch} {e : Env} {R : Room} {s : State} {m : MethodId} {args : Array Value} {below : List Frame} {meth : Method} {c : Code} {H : Heap} {locs : List Loc} {cells slots : Nat} {Q : State → Prop}
variable {cc bytes : ByteArray} {pc nL maxL mc ms n idx : Nat} {ls : Array Slot} {rest As st0 : List Value} {K : ga_K} {ws : va_W} {A : Nat → Prop} {y : MethodName} {ret : Option FieldType} {rm : Room} {own : String} {b : Nat}
theorem ga_cwV (ht : ∀ w ∈ ga_T, w.before args s = true) (hm : ga_M y bytes maxL ret n) (hl : Cond.methodLink own idx y ∈ ga_T) (hrc : rm.cells = mc) (hrs : rm.slots = ms) (hR : rm.frames + 1 ≤ R.frames ∧ 8 + (maxL + 11) + rm.locals ≤ R.locals) : CallW R s args own y.cls idx y bytes maxL ret (Cond.code y bytes maxL ret :: ga_T) rm mc ms n :=
  cwV n ht (ga_Good (ex := [.methodLink own idx y, .instanceMethod y, .selects y.cls y y, .initialized y.cls]) (by
    intro w hw
    simp only [List.mem_cons, List.not_mem_nil, or_false] at hw
    rcases hw with rfl | rfl | rfl | rfl
    · exact hl
    · exact hm.1.1
    · exact hm.1.2.1
    · exact hm.1.2.2.1) hm.1.2.2.2) rfl hrc hrs ⟨rfl, hm.2⟩ hR
theorem ga_cwS (ht : ∀ w ∈ ga_T, w.before args s = true) (hm : ga_Ms y bytes maxL ret n) (hl : Cond.methodLink own idx y ∈ ga_T) (hrc : rm.cells = mc) (hrs : rm.slots = ms) (hR : rm.frames + 1 ≤ R.frames ∧ 8 + (maxL + 11) + rm.locals ≤ R.locals) : CallB R s args own idx y bytes maxL ret (Cond.code y bytes maxL ret :: ga_T) rm mc ms n ∧ (Cond.static y).before args s = true :=
  va_cwS n ht (ga_Good (ex := [.methodLink own idx y, .static y, .initialized y.cls]) (by
    intro w hw
    simp only [List.mem_cons, List.not_mem_nil, or_false] at hw
    rcases hw with rfl | rfl | rfl
    · exact hl
    · exact hm.1.1
    · exact hm.1.2.1) hm.1.2.2) rfl hrc hrs hm.2 hR
theorem ga_cwI (ht : ∀ w ∈ ga_T, w.before args s = true) (hm : ga_Mi y bytes maxL n) (hl : Cond.methodLink own idx y ∈ ga_T) (hrc : rm.cells = mc) (hrs : rm.slots = ms) (hR : rm.frames + 1 ≤ R.frames ∧ 8 + (maxL + 11) + rm.locals ≤ R.locals) : CallB R s args own idx y bytes maxL none (Cond.code y bytes maxL none :: ga_T) rm mc ms n ∧ y.name = "<init>" ∧ (Cond.instanceMethod y).before args s = true :=
  cwI n ht (ga_Good (ex := []) (fun w h => absurd h List.not_mem_nil) hm.1.2.2.1) rfl hrc hrs (ht _ hm.1.2.1) (ht _ hl) (ht _ hm.1.1) hm.1.2.2.2 hm.2 hR
/-- the receiver: a cell of the world -/
theorem ga_recv {ci q0 : Nat} {q : vw_C} {fs : List Value} (hw : ga_w K ws A s H locs) (he : ws[q0]? = some (b, .inr (ci, fs))) (hc : classes[ci]? = some q) : ∃ cell : Cell, H[b]? = some cell ∧ cell.vm.isStatics = false ∧ s.vm.findClass q.1 = some cell.cls :=
  va_recv hw.2.2.2.1 hw.1 hc he
end GC
section GD
variable {p : Program} {l : Launch} {e : Env} {R : Room} {s : State} {m : MethodId} {args : Array Value} {below : List Frame} {meth : Method} {c : Code} {H : Heap} {locs : List Loc} {cells slots : Nat} {Q : State → Prop}
variable {cc bytes : ByteArray} {pc nL maxL mc ms n idx : Nat} {ls : Array Slot} {rest As st0 : List Value} {K : ga_K} {ws ex : va_W} {A : Nat → Prop} {y : MethodName} {ret : Option FieldType} {rm : Room} {own : String} {b : Nat}
variable {S SX : Type} {wf : S → va_W} {wx : SX → va_W}
/-- what a throwing method says of a throw: the class's name, and the world -/
def ga_XC (K : ga_K) (ws : va_W) (sz : Nat) (wx : SX → va_W) (px : String → SX → Prop) : String → State → State → Prop := vx_X (S := SX) (fun _ => True) (fun E u t => px E u ∧ ga_post K ws sz wx u t) (va_A ws sz)
theorem ga_Vi {post : Int32 → S → Prop} (hC : CallFix p m c cc nL s args ga_T own) (hw : ga_w K ws A s H locs)
    (hM : Met l y (Cond.code y bytes maxL ret :: ga_T) rm (va_Pc (.ref b :: As) (ga_pre K ws H.size)) (va_Qi post (ga_post K ws H.size wf) (va_A ws H.size)) mc ms (va_A ws H.size))
    (hm : ga_M y bytes maxL ret n) (hl : Cond.methodLink own idx y ∈ ga_T) (hrv : ∃ cell : Cell, H[b]? = some cell ∧ cell.vm.isStatics = false ∧ s.vm.findClass y.cls = some cell.cls)
    (hrc : rm.cells = mc) (hrs : rm.slots = ms) (hR : rm.frames + 1 ≤ R.frames ∧ 8 + (maxL + 11) + rm.locals ≤ R.locals) (hn : As.length = n) (hsz : ls.size = nL) (hst : st0 = As.reverse ++ .ref b :: rest)
    (hro : (rest.map fun v => v.category).sum ≤ 8) (hdg : decode cc pc = .ok (.invokevirtual idx, 3)) (hf : cells + mc ≤ R.cells ∧ slots + ms ≤ R.slots)
    (kk : ∀ (r : Int32) (u : S) (H1 : Heap) (locs1 : List Loc), post r u → ga_w K (wf u) A s H1 locs1 → W p l e R s m args below meth c H1 locs1 (cells + mc) (slots + ms) Q (F0 m (pc + 3) ls (.int r :: rest))) : W p l e R s m args below meth c H locs cells slots Q (F0 m pc ls st0) :=
  va_calli (va_runV hC hM (ga_cwV hC.2.2.2.2 hm hl hrc hrs hR) ⟨ga_blind, hrv, fun U hU hW => ⟨rfl, ga_enter hw U hU hW⟩⟩ rfl hn hsz hst (lv_room hro) hdg hf) hw.2.2.1 (fun q _ h => ga_free hw q h) (ga_free hw)
    (fun r u t H1 locs1 ht _ hp hB _ hk hS => kk r u H1 locs1 hp (ga_leave hw (by rw [← ht]; exact hB.1) hB.2 hS))
theorem ga_ViL {post : Int32 → S → Prop} (hC : CallFix p m c cc nL s args ga_T own) (hw : ga_w K (ws ++ ex) A s H locs)
    (hM : Met l y (Cond.code y bytes maxL ret :: ga_T) rm (va_Pc (.ref b :: As) (ga_pre K ws H.size)) (va_Qi post (ga_post K ws H.size wf) (va_A ws H.size)) mc ms (va_A ws H.size))
    (hm : ga_M y bytes maxL ret n) (hl : Cond.methodLink own idx y ∈ ga_T) (hrv : ∃ cell : Cell, H[b]? = some cell ∧ cell.vm.isStatics = false ∧ s.vm.findClass y.cls = some cell.cls)
    (hrc : rm.cells = mc) (hrs : rm.slots = ms) (hR : rm.frames + 1 ≤ R.frames ∧ 8 + (maxL + 11) + rm.locals ≤ R.locals) (hn : As.length = n) (hsz : ls.size = nL) (hst : st0 = As.reverse ++ .ref b :: rest)
    (hro : (rest.map fun v => v.category).sum ≤ 8) (hdg : decode cc pc = .ok (.invokevirtual idx, 3)) (hf : cells + mc ≤ R.cells ∧ slots + ms ≤ R.slots)
    (kk : ∀ (r : Int32) (u : S) (H1 : Heap) (locs1 : List Loc), post r u → ga_w K (wf u ++ ex) A s H1 locs1 → W p l e R s m args below meth c H1 locs1 (cells + mc) (slots + ms) Q (F0 m (pc + 3) ls (.int r :: rest))) : W p l e R s m args below meth c H locs cells slots Q (F0 m pc ls st0) :=
  va_calli (va_runV hC hM (ga_cwV hC.2.2.2.2 hm hl hrc hrs hR) ⟨ga_blind, hrv, fun U hU hW => ⟨rfl, ga_enter (ga_subL hw) U hU hW⟩⟩ rfl hn hsz hst (lv_room hro) hdg hf) hw.2.2.1 (fun q _ h => ga_free (ga_subL hw) q h) (ga_free (ga_subL hw))
    (fun r u t H1 locs1 ht _ hp hB _ hk hS => kk r u H1 locs1 hp (ga_joinL hw (by rw [← ht]; exact hB.1) hB.2 hk hS))
theorem ga_ViR {post : Int32 → S → Prop} (hC : CallFix p m c cc nL s args ga_T own) (hw : ga_w K (ex ++ ws) A s H locs)
    (hM : Met l y (Cond.code y bytes maxL ret :: ga_T) rm (va_Pc (.ref b :: As) (ga_pre K ws H.size)) (va_Qi post (ga_post K ws H.size wf) (va_A ws H.size)) mc ms (va_A ws H.size))
    (hm : ga_M y bytes maxL ret n) (hl : Cond.methodLink own idx y ∈ ga_T) (hrv : ∃ cell : Cell, H[b]? = some cell ∧ cell.vm.isStatics = false ∧ s.vm.findClass y.cls = some cell.cls)
    (hrc : rm.cells = mc) (hrs : rm.slots = ms) (hR : rm.frames + 1 ≤ R.frames ∧ 8 + (maxL + 11) + rm.locals ≤ R.locals) (hn : As.length = n) (hsz : ls.size = nL) (hst : st0 = As.reverse ++ .ref b :: rest)
    (hro : (rest.map fun v => v.category).sum ≤ 8) (hdg : decode cc pc = .ok (.invokevirtual idx, 3)) (hf : cells + mc ≤ R.cells ∧ slots + ms ≤ R.slots)
    (kk : ∀ (r : Int32) (u : S) (H1 : Heap) (locs1 : List Loc), post r u → ga_w K (ex ++ wf u) A s H1 locs1 → W p l e R s m args below meth c H1 locs1 (cells + mc) (slots + ms) Q (F0 m (pc + 3) ls (.int r :: rest))) : W p l e R s m args below meth c H locs cells slots Q (F0 m pc ls st0) :=
  va_calli (va_runV hC hM (ga_cwV hC.2.2.2.2 hm hl hrc hrs hR) ⟨ga_blind, hrv, fun U hU hW => ⟨rfl, ga_enter (ga_subR hw) U hU hW⟩⟩ rfl hn hsz hst (lv_room hro) hdg hf) hw.2.2.1 (fun q _ h => ga_free (ga_subR hw) q h) (ga_free (ga_subR hw))
    (fun r u t H1 locs1 ht _ hp hB _ hk hS => kk r u H1 locs1 hp (ga_joinR hw (by rw [← ht]; exact hB.1) hB.2 hk hS))
theorem ga_Vl {post : Int64 → S → Prop} (hC : CallFix p m c cc nL s args ga_T own) (hw : ga_w K ws A s H locs)
    (hM : Met l y (Cond.code y bytes maxL ret :: ga_T) rm (va_Pc (.ref b :: As) (ga_pre K ws H.size)) (va_Ql post (ga_post K ws H.size wf) (va_A ws H.size)) mc ms (va_A ws H.size))
    (hm : ga_M y bytes maxL ret n) (hl : Cond.methodLink own idx y ∈ ga_T) (hrv : ∃ cell : Cell, H[b]? = some cell ∧ cell.vm.isStatics = false ∧ s.vm.findClass y.cls = some cell.cls)
    (hrc : rm.cells = mc) (hrs : rm.slots = ms) (hR : rm.frames + 1 ≤ R.frames ∧ 8 + (maxL + 11) + rm.locals ≤ R.locals) (hn : As.length = n) (hsz : ls.size = nL) (hst : st0 = As.reverse ++ .ref b :: rest)
    (hro : (rest.map fun v => v.category).sum ≤ 8) (hdg : decode cc pc = .ok (.invokevirtual idx, 3)) (hf : cells + mc ≤ R.cells ∧ slots + ms ≤ R.slots)
    (kk : ∀ (r : Int64) (u : S) (H1 : Heap) (locs1 : List Loc), post r u → ga_w K (wf u) A s H1 locs1 → W p l e R s m args below meth c H1 locs1 (cells + mc) (slots + ms) Q (F0 m (pc + 3) ls (.long r :: rest))) : W p l e R s m args below meth c H locs cells slots Q (F0 m pc ls st0) :=
  va_calll (va_runV hC hM (ga_cwV hC.2.2.2.2 hm hl hrc hrs hR) ⟨ga_blind, hrv, fun U hU hW => ⟨rfl, ga_enter hw U hU hW⟩⟩ rfl hn hsz hst (lv_room hro) hdg hf) hw.2.2.1 (fun q _ h => ga_free hw q h) (ga_free hw)
    (fun r u t H1 locs1 ht _ hp hB _ hk hS => kk r u H1 locs1 hp (ga_leave hw (by rw [← ht]; exact hB.1) hB.2 hS))
theorem ga_VlL {post : Int64 → S → Prop} (hC : CallFix p m c cc nL s args ga_T own) (hw : ga_w K (ws ++ ex) A s H locs)
    (hM : Met l y (Cond.code y bytes maxL ret :: ga_T) rm (va_Pc (.ref b :: As) (ga_pre K ws H.size)) (va_Ql post (ga_post K ws H.size wf) (va_A ws H.size)) mc ms (va_A ws H.size))
    (hm : ga_M y bytes maxL ret n) (hl : Cond.methodLink own idx y ∈ ga_T) (hrv : ∃ cell : Cell, H[b]? = some cell ∧ cell.vm.isStatics = false ∧ s.vm.findClass y.cls = some cell.cls)
    (hrc : rm.cells = mc) (hrs : rm.slots = ms) (hR : rm.frames + 1 ≤ R.frames ∧ 8 + (maxL + 11) + rm.locals ≤ R.locals) (hn : As.length = n) (hsz : ls.size = nL) (hst : st0 = As.reverse ++ .ref b :: rest)
    (hro : (rest.map fun v => v.category).sum ≤ 8) (hdg : decode cc pc = .ok (.invokevirtual idx, 3)) (hf : cells + mc ≤ R.cells ∧ slots + ms ≤ R.slots)
    (kk : ∀ (r : Int64) (u : S) (H1 : Heap) (locs1 : List Loc), post r u → ga_w K (wf u ++ ex) A s H1 locs1 → W p l e R s m args below meth c H1 locs1 (cells + mc) (slots + ms) Q (F0 m (pc + 3) ls (.long r :: rest))) : W p l e R s m args below meth c H locs cells slots Q (F0 m pc ls st0) :=
  va_calll (va_runV hC hM (ga_cwV hC.2.2.2.2 hm hl hrc hrs hR) ⟨ga_blind, hrv, fun U hU hW => ⟨rfl, ga_enter (ga_subL hw) U hU hW⟩⟩ rfl hn hsz hst (lv_room hro) hdg hf) hw.2.2.1 (fun q _ h => ga_free (ga_subL hw) q h) (ga_free (ga_subL hw))
    (fun r u t H1 locs1 ht _ hp hB _ hk hS => kk r u H1 locs1 hp (ga_joinL hw (by rw [← ht]; exact hB.1) hB.2 hk hS))
theorem ga_VlR {post : Int64 → S → Prop} (hC : CallFix p m c cc nL s args ga_T own) (hw : ga_w K (ex ++ ws) A s H locs)
    (hM : Met l y (Cond.code y bytes maxL ret :: ga_T) rm (va_Pc (.ref b :: As) (ga_pre K ws H.size)) (va_Ql post (ga_post K ws H.size wf) (va_A ws H.size)) mc ms (va_A ws H.size))
    (hm : ga_M y bytes maxL ret n) (hl : Cond.methodLink own idx y ∈ ga_T) (hrv : ∃ cell : Cell, H[b]? = some cell ∧ cell.vm.isStatics = false ∧ s.vm.findClass y.cls = some cell.cls)
    (hrc : rm.cells = mc) (hrs : rm.slots = ms) (hR : rm.frames + 1 ≤ R.frames ∧ 8 + (maxL + 11) + rm.locals ≤ R.locals) (hn : As.length = n) (hsz : ls.size = nL) (hst : st0 = As.reverse ++ .ref b :: rest)
    (hro : (rest.map fun v => v.category).sum ≤ 8) (hdg : decode cc pc = .ok (.invokevirtual idx, 3)) (hf : cells + mc ≤ R.cells ∧ slots + ms ≤ R.slots)
    (kk : ∀ (r : Int64) (u : S) (H1 : Heap) (locs1 : List Loc), post r u → ga_w K (ex ++ wf u) A s H1 locs1 → W p l e R s m args below meth c H1 locs1 (cells + mc) (slots + ms) Q (F0 m (pc + 3) ls (.long r :: rest))) : W p l e R s m args below meth c H locs cells slots Q (F0 m pc ls st0) :=
  va_calll (va_runV hC hM (ga_cwV hC.2.2.2.2 hm hl hrc hrs hR) ⟨ga_blind, hrv, fun U hU hW => ⟨rfl, ga_enter (ga_subR hw) U hU hW⟩⟩ rfl hn hsz hst (lv_room hro) hdg hf) hw.2.2.1 (fun q _ h => ga_free (ga_subR hw) q h) (ga_free (ga_subR hw))
    (fun r u t H1 locs1 ht _ hp hB _ hk hS => kk r u H1 locs1 hp (ga_joinR hw (by rw [← ht]; exact hB.1) hB.2 hk hS))
theorem ga_Vv {post : S → Prop} (hC : CallFix p m c cc nL s args ga_T own) (hw : ga_w K ws A s H locs)
    (hM : Met l y (Cond.code y bytes maxL ret :: ga_T) rm (va_Pc (.ref b :: As) (ga_pre K ws H.size)) (va_Qv post (ga_post K ws H.size wf) (va_A ws H.size)) mc ms (va_A ws H.size))
    (hm : ga_M y bytes maxL ret n) (hl : Cond.methodLink own idx y ∈ ga_T) (hrv : ∃ cell : Cell, H[b]? = some cell ∧ cell.vm.isStatics = false ∧ s.vm.findClass y.cls = some cell.cls)
    (hrc : rm.cells = mc) (hrs : rm.slots = ms) (hR : rm.frames + 1 ≤ R.frames ∧ 8 + (maxL + 11) + rm.locals ≤ R.locals) (hn : As.length = n) (hsz : ls.size = nL) (hst : st0 = As.reverse ++ .ref b :: rest)
    (hro : (rest.map fun v => v.category).sum ≤ 8) (hdg : decode cc pc = .ok (.invokevirtual idx, 3)) (hf : cells + mc ≤ R.cells ∧ slots + ms ≤ R.slots)
    (kk : ∀ (u : S) (H1 : Heap) (locs1 : List Loc), post u → ga_w K (wf u) A s H1 locs1 → W p l e R s m args below meth c H1 locs1 (cells + mc) (slots + ms) Q (F0 m (pc + 3) ls rest)) : W p l e R s m args below meth c H locs cells slots Q (F0 m pc ls st0) :=
  va_callv (va_runV hC hM (ga_cwV hC.2.2.2.2 hm hl hrc hrs hR) ⟨ga_blind, hrv, fun U hU hW => ⟨rfl, ga_enter hw U hU hW⟩⟩ rfl hn hsz hst (lv_room hro) hdg hf) hw.2.2.1 (fun q _ h => ga_free hw q h) (ga_free hw)
    (fun u t H1 locs1 ht _ hp hB _ hk hS => kk u H1 locs1 hp (ga_leave hw (by rw [← ht]; exact hB.1) hB.2 hS))
theorem ga_VvL {post : S → Prop} (hC : CallFix p m c cc nL s args ga_T own) (hw : ga_w K (ws ++ ex) A s H locs)
    (hM : Met l y (Cond.code y bytes maxL ret :: ga_T) rm (va_Pc (.ref b :: As) (ga_pre K ws H.size)) (va_Qv post (ga_post K ws H.size wf) (va_A ws H.size)) mc ms (va_A ws H.size))
    (hm : ga_M y bytes maxL ret n) (hl : Cond.methodLink own idx y ∈ ga_T) (hrv : ∃ cell : Cell, H[b]? = some cell ∧ cell.vm.isStatics = false ∧ s.vm.findClass y.cls = some cell.cls)
    (hrc : rm.cells = mc) (hrs : rm.slots = ms) (hR : rm.frames + 1 ≤ R.frames ∧ 8 + (maxL + 11) + rm.locals ≤ R.locals) (hn : As.length = n) (hsz : ls.size = nL) (hst : st0 = As.reverse ++ .ref b :: rest)
    (hro : (rest.map fun v => v.category).sum ≤ 8) (hdg : decode cc pc = .ok (.invokevirtual idx, 3)) (hf : cells + mc ≤ R.cells ∧ slots + ms ≤ R.slots)
    (kk : ∀ (u : S) (H1 : Heap) (locs1 : List Loc), post u → ga_w K (wf u ++ ex) A s H1 locs1 → W p l e R s m args below meth c H1 locs1 (cells + mc) (slots + ms) Q (F0 m (pc + 3) ls rest)) : W p l e R s m args below meth c H locs cells slots Q (F0 m pc ls st0) :=
  va_callv (va_runV hC hM (ga_cwV hC.2.2.2.2 hm hl hrc hrs hR) ⟨ga_blind, hrv, fun U hU hW => ⟨rfl, ga_enter (ga_subL hw) U hU hW⟩⟩ rfl hn hsz hst (lv_room hro) hdg hf) hw.2.2.1 (fun q _ h => ga_free (ga_subL hw) q h) (ga_free (ga_subL hw))
    (fun u t H1 locs1 ht _ hp hB _ hk hS => kk u H1 locs1 hp (ga_joinL hw (by rw [← ht]; exact hB.1) hB.2 hk hS))
theorem ga_VvR {post : S → Prop} (hC : CallFix p m c cc nL s args ga_T own) (hw : ga_w K (ex ++ ws) A s H locs)
    (hM : Met l y (Cond.code y bytes maxL ret :: ga_T) rm (va_Pc (.ref b :: As) (ga_pre K ws H.size)) (va_Qv post (ga_post K ws H.size wf) (va_A ws H.size)) mc ms (va_A ws H.size))
    (hm : ga_M y bytes maxL ret n) (hl : Cond.methodLink own idx y ∈ ga_T) (hrv : ∃ cell : Cell, H[b]? = some cell ∧ cell.vm.isStatics = false ∧ s.vm.findClass y.cls = some cell.cls)
    (hrc : rm.cells = mc) (hrs : rm.slots = ms) (hR : rm.frames + 1 ≤ R.frames ∧ 8 + (maxL + 11) + rm.locals ≤ R.locals) (hn : As.length = n) (hsz : ls.size = nL) (hst : st0 = As.reverse ++ .ref b :: rest)
    (hro : (rest.map fun v => v.category).sum ≤ 8) (hdg : decode cc pc = .ok (.invokevirtual idx, 3)) (hf : cells + mc ≤ R.cells ∧ slots + ms ≤ R.slots)
    (kk : ∀ (u : S) (H1 : Heap) (locs1 : List Loc), post u → ga_w K (ex ++ wf u) A s H1 locs1 → W p l e R s m args below meth c H1 locs1 (cells + mc) (slots + ms) Q (F0 m (pc + 3) ls rest)) : W p l e R s m args below meth c H locs cells slots Q (F0 m pc ls st0) :=
  va_callv (va_runV hC hM (ga_cwV hC.2.2.2.2 hm hl hrc hrs hR) ⟨ga_blind, hrv, fun U hU hW => ⟨rfl, ga_enter (ga_subR hw) U hU hW⟩⟩ rfl hn hsz hst (lv_room hro) hdg hf) hw.2.2.1 (fun q _ h => ga_free (ga_subR hw) q h) (ga_free (ga_subR hw))
    (fun u t H1 locs1 ht _ hp hB _ hk hS => kk u H1 locs1 hp (ga_joinR hw (by rw [← ht]; exact hB.1) hB.2 hk hS))
theorem ga_Vq {post : Option Nat → S → Prop} (hC : CallFix p m c cc nL s args ga_T own) (hw : ga_w K ws A s H locs)
    (hM : Met l y (Cond.code y bytes maxL ret :: ga_T) rm (va_Pc (.ref b :: As) (ga_pre K ws H.size)) (va_Qq post (ga_post K ws H.size wf) (va_A ws H.size)) mc ms (va_A ws H.size))
    (hm : ga_M y bytes maxL ret n) (hl : Cond.methodLink own idx y ∈ ga_T) (hrv : ∃ cell : Cell, H[b]? = some cell ∧ cell.vm.isStatics = false ∧ s.vm.findClass y.cls = some cell.cls)
    (hrc : rm.cells = mc) (hrs : rm.slots = ms) (hR : rm.frames + 1 ≤ R.frames ∧ 8 + (maxL + 11) + rm.locals ≤ R.locals) (hn : As.length = n) (hsz : ls.size = nL) (hst : st0 = As.reverse ++ .ref b :: rest)
    (hro : (rest.map fun v => v.category).sum ≤ 8) (hdg : decode cc pc = .ok (.invokevirtual idx, 3)) (hf : cells + mc ≤ R.cells ∧ slots + ms ≤ R.slots)
    (kk : ∀ (r : Option Nat) (u : S) (H1 : Heap) (locs1 : List Loc), post r u → ga_w K (wf u) A s H1 locs1 → W p l e R s m args below meth c H1 locs1 (cells + mc) (slots + ms) Q (F0 m (pc + 3) ls (va_rf r :: rest))) : W p l e R s m args below meth c H locs cells slots Q (F0 m pc ls st0) :=
  va_callq (va_runV hC hM (ga_cwV hC.2.2.2.2 hm hl hrc hrs hR) ⟨ga_blind, hrv, fun U hU hW => ⟨rfl, ga_enter hw U hU hW⟩⟩ rfl hn hsz hst (lv_room hro) hdg hf) hw.2.2.1 (fun q _ h => ga_free hw q h) (ga_free hw)
    (fun r u t H1 locs1 ht _ hp hB _ hk hS => kk r u H1 locs1 hp (ga_leave hw (by rw [← ht]; exact hB.1) hB.2 hS))
theorem ga_VqL {post : Option Nat → S → Prop} (hC : CallFix p m c cc nL s args ga_T own) (hw : ga_w K (ws ++ ex) A s H locs)
    (hM : Met l y (Cond.code y bytes maxL ret :: ga_T) rm (va_Pc (.ref b :: As) (ga_pre K ws H.size)) (va_Qq post (ga_post K ws H.size wf) (va_A ws H.size)) mc ms (va_A ws H.size))
    (hm : ga_M y bytes maxL ret n) (hl : Cond.methodLink own idx y ∈ ga_T) (hrv : ∃ cell : Cell, H[b]? = some cell ∧ cell.vm.isStatics = false ∧ s.vm.findClass y.cls = some cell.cls)
    (hrc : rm.cells = mc) (hrs : rm.slots = ms) (hR : rm.frames + 1 ≤ R.frames ∧ 8 + (maxL + 11) + rm.locals ≤ R.locals) (hn : As.length = n) (hsz : ls.size = nL) (hst : st0 = As.reverse ++ .ref b :: rest)
    (hro : (rest.map fun v => v.category).sum ≤ 8) (hdg : decode cc pc = .ok (.invokevirtual idx, 3)) (hf : cells + mc ≤ R.cells ∧ slots + ms ≤ R.slots)
    (kk : ∀ (r : Option Nat) (u : S) (H1 : Heap) (locs1 : List Loc), post r u → ga_w K (wf u ++ ex) A s H1 locs1 → W p l e R s m args below meth c H1 locs1 (cells + mc) (slots + ms) Q (F0 m (pc + 3) ls (va_rf r :: rest))) : W p l e R s m args below meth c H locs cells slots Q (F0 m pc ls st0) :=
  va_callq (va_runV hC hM (ga_cwV hC.2.2.2.2 hm hl hrc hrs hR) ⟨ga_blind, hrv, fun U hU hW => ⟨rfl, ga_enter (ga_subL hw) U hU hW⟩⟩ rfl hn hsz hst (lv_room hro) hdg hf) hw.2.2.1 (fun q _ h => ga_free (ga_subL hw) q h) (ga_free (ga_subL hw))
    (fun r u t H1 locs1 ht _ hp hB _ hk hS => kk r u H1 locs1 hp (ga_joinL hw (by rw [← ht]; exact hB.1) hB.2 hk hS))
theorem ga_VqR {post : Option Nat → S → Prop} (hC : CallFix p m c cc nL s args ga_T own) (hw : ga_w K (ex ++ ws) A s H locs)
    (hM : Met l y (Cond.code y bytes maxL ret :: ga_T) rm (va_Pc (.ref b :: As) (ga_pre K ws H.size)) (va_Qq post (ga_post K ws H.size wf) (va_A ws H.size)) mc ms (va_A ws H.size))
    (hm : ga_M y bytes maxL ret n) (hl : Cond.methodLink own idx y ∈ ga_T) (hrv : ∃ cell : Cell, H[b]? = some cell ∧ cell.vm.isStatics = false ∧ s.vm.findClass y.cls = some cell.cls)
    (hrc : rm.cells = mc) (hrs : rm.slots = ms) (hR : rm.frames + 1 ≤ R.frames ∧ 8 + (maxL + 11) + rm.locals ≤ R.locals) (hn : As.length = n) (hsz : ls.size = nL) (hst : st0 = As.reverse ++ .ref b :: rest)
    (hro : (rest.map fun v => v.category).sum ≤ 8) (hdg : decode cc pc = .ok (.invokevirtual idx, 3)) (hf : cells + mc ≤ R.cells ∧ slots + ms ≤ R.slots)
    (kk : ∀ (r : Option Nat) (u : S) (H1 : Heap) (locs1 : List Loc), post r u → ga_w K (ex ++ wf u) A s H1 locs1 → W p l e R s m args below meth c H1 locs1 (cells + mc) (slots + ms) Q (F0 m (pc + 3) ls (va_rf r :: rest))) : W p l e R s m args below meth c H locs cells slots Q (F0 m pc ls st0) :=
  va_callq (va_runV hC hM (ga_cwV hC.2.2.2.2 hm hl hrc hrs hR) ⟨ga_blind, hrv, fun U hU hW => ⟨rfl, ga_enter (ga_subR hw) U hU hW⟩⟩ rfl hn hsz hst (lv_room hro) hdg hf) hw.2.2.1 (fun q _ h => ga_free (ga_subR hw) q h) (ga_free (ga_subR hw))
    (fun r u t H1 locs1 ht _ hp hB _ hk hS => kk r u H1 locs1 hp (ga_joinR hw (by rw [← ht]; exact hB.1) hB.2 hk hS))
theorem ga_Si {post : Int32 → S → Prop} (hC : CallFix p m c cc nL s args ga_T own) (hw : ga_w K ws A s H locs)
    (hM : Met l y (Cond.code y bytes maxL ret :: ga_T) rm (va_Pc As (ga_pre K ws H.size)) (va_Qi post (ga_post K ws H.size wf) (va_A ws H.size)) mc ms (va_A ws H.size))
    (hm : ga_Ms y bytes maxL ret n) (hl : Cond.methodLink own idx y ∈ ga_T) 
    (hrc : rm.cells = mc) (hrs : rm.slots = ms) (hR : rm.frames + 1 ≤ R.frames ∧ 8 + (maxL + 11) + rm.locals ≤ R.locals) (hn : As.length = n) (hsz : ls.size = nL) (hst : st0 = As.reverse ++ rest)
    (hro : (rest.map fun v => v.category).sum ≤ 8) (hdg : decode cc pc = .ok (.invokestatic idx, 3)) (hf : cells + mc ≤ R.cells ∧ slots + ms ≤ R.slots)
    (kk : ∀ (r : Int32) (u : S) (H1 : Heap) (locs1 : List Loc), post r u → ga_w K (wf u) A s H1 locs1 → W p l e R s m args below meth c H1 locs1 (cells + mc) (slots + ms) Q (F0 m (pc + 3) ls (.int r :: rest))) : W p l e R s m args below meth c H locs cells slots Q (F0 m pc ls st0) :=
  va_calli (va_runS hC hM (ga_cwS hC.2.2.2.2 hm hl hrc hrs hR) ⟨ga_blind, fun U hU hW => ⟨rfl, ga_enter hw U hU hW⟩⟩ rfl hn hsz hst (lv_room hro) hdg hf) hw.2.2.1 (fun q _ h => ga_free hw q h) (ga_free hw)
    (fun r u t H1 locs1 ht _ hp hB _ hk hS => kk r u H1 locs1 hp (ga_leave hw (by rw [← ht]; exact hB.1) hB.2 hS))
theorem ga_SiL {post : Int32 → S → Prop} (hC : CallFix p m c cc nL s args ga_T own) (hw : ga_w K (ws ++ ex) A s H locs)
    (hM : Met l y (Cond.code y bytes maxL ret :: ga_T) rm (va_Pc As (ga_pre K ws H.size)) (va_Qi post (ga_post K ws H.size wf) (va_A ws H.size)) mc ms (va_A ws H.size))
    (hm : ga_Ms y bytes maxL ret n) (hl : Cond.methodLink own idx y ∈ ga_T) 
    (hrc : rm.cells = mc) (hrs : rm.slots = ms) (hR : rm.frames + 1 ≤ R.frames ∧ 8 + (maxL + 11) + rm.locals ≤ R.locals) (hn : As.length = n) (hsz : ls.size = nL) (hst : st0 = As.reverse ++ rest)
    (hro : (rest.map fun v => v.category).sum ≤ 8) (hdg : decode cc pc = .ok (.invokestatic idx, 3)) (hf : cells + mc ≤ R.cells ∧ slots + ms ≤ R.slots)
    (kk : ∀ (r : Int32) (u : S) (H1 : Heap) (locs1 : List Loc), post r u → ga_w K (wf u ++ ex) A s H1 locs1 → W p l e R s m args below meth c H1 locs1 (cells + mc) (slots + ms) Q (F0 m (pc + 3) ls (.int r :: rest))) : W p l e R s m args below meth c H locs cells slots Q (F0 m pc ls st0) :=
  va_calli (va_runS hC hM (ga_cwS hC.2.2.2.2 hm hl hrc hrs hR) ⟨ga_blind, fun U hU hW => ⟨rfl, ga_enter (ga_subL hw) U hU hW⟩⟩ rfl hn hsz hst (lv_room hro) hdg hf) hw.2.2.1 (fun q _ h => ga_free (ga_subL hw) q h) (ga_free (ga_subL hw))
    (fun r u t H1 locs1 ht _ hp hB _ hk hS => kk r u H1 locs1 hp (ga_joinL hw (by rw [← ht]; exact hB.1) hB.2 hk hS))
theorem ga_SiR {post : Int32 → S → Prop} (hC : CallFix p m c cc nL s args ga_T own) (hw : ga_w K (ex ++ ws) A s H locs)
    (hM : Met l y (Cond.code y bytes maxL ret :: ga_T) rm (va_Pc As (ga_pre K ws H.size)) (va_Qi post (ga_post K ws H.size wf) (va_A ws H.size)) mc ms (va_A ws H.size))
    (hm : ga_Ms y bytes maxL ret n) (hl : Cond.methodLink own idx y ∈ ga_T) 
    (hrc : rm.cells = mc) (hrs : rm.slots = ms) (hR : rm.frames + 1 ≤ R.frames ∧ 8 + (maxL + 11) + rm.locals ≤ R.locals) (hn : As.length = n) (hsz : ls.size = nL) (hst : st0 = As.reverse ++ rest)
    (hro : (rest.map fun v => v.category).sum ≤ 8) (hdg : decode cc pc = .ok (.invokestatic idx, 3)) (hf : cells + mc ≤ R.cells ∧ slots + ms ≤ R.slots)
    (kk : ∀ (r : Int32) (u : S) (H1 : Heap) (locs1 : List Loc), post r u → ga_w K (ex ++ wf u) A s H1 locs1 → W p l e R s m args below meth c H1 locs1 (cells + mc) (slots + ms) Q (F0 m (pc + 3) ls (.int r :: rest))) : W p l e R s m args below meth c H locs cells slots Q (F0 m pc ls st0) :=
  va_calli (va_runS hC hM (ga_cwS hC.2.2.2.2 hm hl hrc hrs hR) ⟨ga_blind, fun U hU hW => ⟨rfl, ga_enter (ga_subR hw) U hU hW⟩⟩ rfl hn hsz hst (lv_room hro) hdg hf) hw.2.2.1 (fun q _ h => ga_free (ga_subR hw) q h) (ga_free (ga_subR hw))
    (fun r u t H1 locs1 ht _ hp hB _ hk hS => kk r u H1 locs1 hp (ga_joinR hw (by rw [← ht]; exact hB.1) hB.2 hk hS))
theorem ga_Sl {post : Int64 → S → Prop} (hC : CallFix p m c cc nL s args ga_T own) (hw : ga_w K ws A s H locs)
    (hM : Met l y (Cond.code y bytes maxL ret :: ga_T) rm (va_Pc As (ga_pre K ws H.size)) (va_Ql post (ga_post K ws H.size wf) (va_A ws H.size)) mc ms (va_A ws H.size))
    (hm : ga_Ms y bytes maxL ret n) (hl : Cond.methodLink own idx y ∈ ga_T) 
    (hrc : rm.cells = mc) (hrs : rm.slots = ms) (hR : rm.frames + 1 ≤ R.frames ∧ 8 + (maxL + 11) + rm.locals ≤ R.locals) (hn : As.length = n) (hsz : ls.size = nL) (hst : st0 = As.reverse ++ rest)
    (hro : (rest.map fun v => v.category).sum ≤ 8) (hdg : decode cc pc = .ok (.invokestatic idx, 3)) (hf : cells + mc ≤ R.cells ∧ slots + ms ≤ R.slots)
    (kk : ∀ (r : Int64) (u : S) (H1 : Heap) (locs1 : List Loc), post r u → ga_w K (wf u) A s H1 locs1 → W p l e R s m args below meth c H1 locs1 (cells + mc) (slots + ms) Q (F0 m (pc + 3) ls (.long r :: rest))) : W p l e R s m args below meth c H locs cells slots Q (F0 m pc ls st0) :=
  va_calll (va_runS hC hM (ga_cwS hC.2.2.2.2 hm hl hrc hrs hR) ⟨ga_blind, fun U hU hW => ⟨rfl, ga_enter hw U hU hW⟩⟩ rfl hn hsz hst (lv_room hro) hdg hf) hw.2.2.1 (fun q _ h => ga_free hw q h) (ga_free hw)
    (fun r u t H1 locs1 ht _ hp hB _ hk hS => kk r u H1 locs1 hp (ga_leave hw (by rw [← ht]; exact hB.1) hB.2 hS))
theorem ga_SlL {post : Int64 → S → Prop} (hC : CallFix p m c cc nL s args ga_T own) (hw : ga_w K (ws ++ ex) A s H locs)
    (hM : Met l y (Cond.code y bytes maxL ret :: ga_T) rm (va_Pc As (ga_pre K ws H.size)) (va_Ql post (ga_post K ws H.size wf) (va_A ws H.size)) mc ms (va_A ws H.size))
    (hm : ga_Ms y bytes maxL ret n) (hl : Cond.methodLink own idx y ∈ ga_T) 
    (hrc : rm.cells = mc) (hrs : rm.slots = ms) (hR : rm.frames + 1 ≤ R.frames ∧ 8 + (maxL + 11) + rm.locals ≤ R.locals) (hn : As.length = n) (hsz : ls.size = nL) (hst : st0 = As.reverse ++ rest)
    (hro : (rest.map fun v => v.category).sum ≤ 8) (hdg : decode cc pc = .ok (.invokestatic idx, 3)) (hf : cells + mc ≤ R.cells ∧ slots + ms ≤ R.slots)
    (kk : ∀ (r : Int64) (u : S) (H1 : Heap) (locs1 : List Loc), post r u → ga_w K (wf u ++ ex) A s H1 locs1 → W p l e R s m args below meth c H1 locs1 (cells + mc) (slots + ms) Q (F0 m (pc + 3) ls (.long r :: rest))) : W p l e R s m args below meth c H locs cells slots Q (F0 m pc ls st0) :=
  va_calll (va_runS hC hM (ga_cwS hC.2.2.2.2 hm hl hrc hrs hR) ⟨ga_blind, fun U hU hW => ⟨rfl, ga_enter (ga_subL hw) U hU hW⟩⟩ rfl hn hsz hst (lv_room hro) hdg hf) hw.2.2.1 (fun q _ h => ga_free (ga_subL hw) q h) (ga_free (ga_subL hw))
    (fun r u t H1 locs1 ht _ hp hB _ hk hS => kk r u H1 locs1 hp (ga_joinL hw (by rw [← ht]; exact hB.1) hB.2 hk hS))
theorem ga_SlR {post : Int64 → S → Prop} (hC : CallFix p m c cc nL s args ga_T own) (hw : ga_w K (ex ++ ws) A s H locs)
    (hM : Met l y (Cond.code y bytes maxL ret :: ga_T) rm (va_Pc As (ga_pre K ws H.size)) (va_Ql post (ga_post K ws H.size wf) (va_A ws H.size)) mc ms (va_A ws H.size))
    (hm : ga_Ms y bytes maxL ret n) (hl : Cond.methodLink own idx y ∈ ga_T) 
    (hrc : rm.cells = mc) (hrs : rm.slots = ms) (hR : rm.frames + 1 ≤ R.frames ∧ 8 + (maxL + 11) + rm.locals ≤ R.locals) (hn : As.length = n) (hsz : ls.size = nL) (hst : st0 = As.reverse ++ rest)
    (hro : (rest.map fun v => v.category).sum ≤ 8) (hdg : decode cc pc = .ok (.invokestatic idx, 3)) (hf : cells + mc ≤ R.cells ∧ slots + ms ≤ R.slots)
    (kk : ∀ (r : Int64) (u : S) (H1 : Heap) (locs1 : List Loc), post r u → ga_w K (ex ++ wf u) A s H1 locs1 → W p l e R s m args below meth c H1 locs1 (cells + mc) (slots + ms) Q (F0 m (pc + 3) ls (.long r :: rest))) : W p l e R s m args below meth c H locs cells slots Q (F0 m pc ls st0) :=
  va_calll (va_runS hC hM (ga_cwS hC.2.2.2.2 hm hl hrc hrs hR) ⟨ga_blind, fun U hU hW => ⟨rfl, ga_enter (ga_subR hw) U hU hW⟩⟩ rfl hn hsz hst (lv_room hro) hdg hf) hw.2.2.1 (fun q _ h => ga_free (ga_subR hw) q h) (ga_free (ga_subR hw))
    (fun r u t H1 locs1 ht _ hp hB _ hk hS => kk r u H1 locs1 hp (ga_joinR hw (by rw [← ht]; exact hB.1) hB.2 hk hS))
theorem ga_Sv {post : S → Prop} (hC : CallFix p m c cc nL s args ga_T own) (hw : ga_w K ws A s H locs)
    (hM : Met l y (Cond.code y bytes maxL ret :: ga_T) rm (va_Pc As (ga_pre K ws H.size)) (va_Qv post (ga_post K ws H.size wf) (va_A ws H.size)) mc ms (va_A ws H.size))
    (hm : ga_Ms y bytes maxL ret n) (hl : Cond.methodLink own idx y ∈ ga_T) 
    (hrc : rm.cells = mc) (hrs : rm.slots = ms) (hR : rm.frames + 1 ≤ R.frames ∧ 8 + (maxL + 11) + rm.locals ≤ R.locals) (hn : As.length = n) (hsz : ls.size = nL) (hst : st0 = As.reverse ++ rest)
    (hro : (rest.map fun v => v.category).sum ≤ 8) (hdg : decode cc pc = .ok (.invokestatic idx, 3)) (hf : cells + mc ≤ R.cells ∧ slots + ms ≤ R.slots)
    (kk : ∀ (u : S) (H1 : Heap) (locs1 : List Loc), post u → ga_w K (wf u) A s H1 locs1 → W p l e R s m args below meth c H1 locs1 (cells + mc) (slots + ms) Q (F0 m (pc + 3) ls rest)) : W p l e R s m args below meth c H locs cells slots Q (F0 m pc ls st0) :=
  va_callv (va_runS hC hM (ga_cwS hC.2.2.2.2 hm hl hrc hrs hR) ⟨ga_blind, fun U hU hW => ⟨rfl, ga_enter hw U hU hW⟩⟩ rfl hn hsz hst (lv_room hro) hdg hf) hw.2.2.1 (fun q _ h => ga_free hw q h) (ga_free hw)
    (fun u t H1 locs1 ht _ hp hB _ hk hS => kk u H1 locs1 hp (ga_leave hw (by rw [← ht]; exact hB.1) hB.2 hS))
theorem ga_SvL {post : S → Prop} (hC : CallFix p m c cc nL s args ga_T own) (hw : ga_w K (ws ++ ex) A s H locs)
    (hM : Met l y (Cond.code y bytes maxL ret :: ga_T) rm (va_Pc As (ga_pre K ws H.size)) (va_Qv post (ga_post K ws H.size wf) (va_A ws H.size)) mc ms (va_A ws H.size))
    (hm : ga_Ms y bytes maxL ret n) (hl : Cond.methodLink own idx y ∈ ga_T) 
    (hrc : rm.cells = mc) (hrs : rm.slots = ms) (hR : rm.frames + 1 ≤ R.frames ∧ 8 + (maxL + 11) + rm.locals ≤ R.locals) (hn : As.length = n) (hsz : ls.size = nL) (hst : st0 = As.reverse ++ rest)
    (hro : (rest.map fun v => v.category).sum ≤ 8) (hdg : decode cc pc = .ok (.invokestatic idx, 3)) (hf : cells + mc ≤ R.cells ∧ slots + ms ≤ R.slots)
    (kk : ∀ (u : S) (H1 : Heap) (locs1 : List Loc), post u → ga_w K (wf u ++ ex) A s H1 locs1 → W p l e R s m args below meth c H1 locs1 (cells + mc) (slots + ms) Q (F0 m (pc + 3) ls rest)) : W p l e R s m args below meth c H locs cells slots Q (F0 m pc ls st0) :=
  va_callv (va_runS hC hM (ga_cwS hC.2.2.2.2 hm hl hrc hrs hR) ⟨ga_blind, fun U hU hW => ⟨rfl, ga_enter (ga_subL hw) U hU hW⟩⟩ rfl hn hsz hst (lv_room hro) hdg hf) hw.2.2.1 (fun q _ h => ga_free (ga_subL hw) q h) (ga_free (ga_subL hw))
    (fun u t H1 locs1 ht _ hp hB _ hk hS => kk u H1 locs1 hp (ga_joinL hw (by rw [← ht]; exact hB.1) hB.2 hk hS))
theorem ga_SvR {post : S → Prop} (hC : CallFix p m c cc nL s args ga_T own) (hw : ga_w K (ex ++ ws) A s H locs)
    (hM : Met l y (Cond.code y bytes maxL ret :: ga_T) rm (va_Pc As (ga_pre K ws H.size)) (va_Qv post (ga_post K ws H.size wf) (va_A ws H.size)) mc ms (va_A ws H.size))
    (hm : ga_Ms y bytes maxL ret n) (hl : Cond.methodLink own idx y ∈ ga_T) 
    (hrc : rm.cells = mc) (hrs : rm.slots = ms) (hR : rm.frames + 1 ≤ R.frames ∧ 8 + (maxL + 11) + rm.locals ≤ R.locals) (hn : As.length = n) (hsz : ls.size = nL) (hst : st0 = As.reverse ++ rest)
    (hro : (rest.map fun v => v.category).sum ≤ 8) (hdg : decode cc pc = .ok (.invokestatic idx, 3)) (hf : cells + mc ≤ R.cells ∧ slots + ms ≤ R.slots)
    (kk : ∀ (u : S) (H1 : Heap) (locs1 : List Loc), post u → ga_w K (ex ++ wf u) A s H1 locs1 → W p l e R s m args below meth c H1 locs1 (cells + mc) (slots + ms) Q (F0 m (pc + 3) ls rest)) : W p l e R s m args below meth c H locs cells slots Q (F0 m pc ls st0) :=
  va_callv (va_runS hC hM (ga_cwS hC.2.2.2.2 hm hl hrc hrs hR) ⟨ga_blind, fun U hU hW => ⟨rfl, ga_enter (ga_subR hw) U hU hW⟩⟩ rfl hn hsz hst (lv_room hro) hdg hf) hw.2.2.1 (fun q _ h => ga_free (ga_subR hw) q h) (ga_free (ga_subR hw))
    (fun u t H1 locs1 ht _ hp hB _ hk hS => kk u H1 locs1 hp (ga_joinR hw (by rw [← ht]; exact hB.1) hB.2 hk hS))
theorem ga_Sq {post : Option Nat → S → Prop} (hC : CallFix p m c cc nL s args ga_T own) (hw : ga_w K ws A s H locs)
    (hM : Met l y (Cond.code y bytes maxL ret :: ga_T) rm (va_Pc As (ga_pre K ws H.size)) (va_Qq post (ga_post K ws H.size wf) (va_A ws H.size)) mc ms (va_A ws H.size))
    (hm : ga_Ms y bytes maxL ret n) (hl : Cond.methodLink own idx y ∈ ga_T) 
    (hrc : rm.cells = mc) (hrs : rm.slots = ms) (hR : rm.frames + 1 ≤ R.frames ∧ 8 + (maxL + 11) + rm.locals ≤ R.locals) (hn : As.length = n) (hsz : ls.size = nL) (hst : st0 = As.reverse ++ rest)
    (hro : (rest.map fun v => v.category).sum ≤ 8) (hdg : decode cc pc = .ok (.invokestatic idx, 3)) (hf : cells + mc ≤ R.cells ∧ slots + ms ≤ R.slots)
    (kk : ∀ (r : Option Nat) (u : S) (H1 : Heap) (locs1 : List Loc), post r u → ga_w K (wf u) A s H1 locs1 → W p l e R s m args below meth c H1 locs1 (cells + mc) (slots + ms) Q (F0 m (pc + 3) ls (va_rf r :: rest))) : W p l e R s m args below meth c H locs cells slots Q (F0 m pc ls st0) :=
  va_callq (va_runS hC hM (ga_cwS hC.2.2.2.2 hm hl hrc hrs hR) ⟨ga_blind, fun U hU hW => ⟨rfl, ga_enter hw U hU hW⟩⟩ rfl hn hsz hst (lv_room hro) hdg hf) hw.2.2.1 (fun q _ h => ga_free hw q h) (ga_free hw)
    (fun r u t H1 locs1 ht _ hp hB _ hk hS => kk r u H1 locs1 hp (ga_leave hw (by rw [← ht]; exact hB.1) hB.2 hS))
theorem ga_SqL {post : Option Nat → S → Prop} (hC : CallFix p m c cc nL s args ga_T own) (hw : ga_w K (ws ++ ex) A s H locs)
    (hM : Met l y (Cond.code y bytes maxL ret :: ga_T) rm (va_Pc As (ga_pre K ws H.size)) (va_Qq post (ga_post K ws H.size wf) (va_A ws H.size)) mc ms (va_A ws H.size))
    (hm : ga_Ms y bytes maxL ret n) (hl : Cond.methodLink own idx y ∈ ga_T) 
    (hrc : rm.cells = mc) (hrs : rm.slots = ms) (hR : rm.frames + 1 ≤ R.frames ∧ 8 + (maxL + 11) + rm.locals ≤ R.locals) (hn : As.length = n) (hsz : ls.size = nL) (hst : st0 = As.reverse ++ rest)
    (hro : (rest.map fun v => v.category).sum ≤ 8) (hdg : decode cc pc = .ok (.invokestatic idx, 3)) (hf : cells + mc ≤ R.cells ∧ slots + ms ≤ R.slots)
    (kk : ∀ (r : Option Nat) (u : S) (H1 : Heap) (locs1 : List Loc), post r u → ga_w K (wf u ++ ex) A s H1 locs1 → W p l e R s m args below meth c H1 locs1 (cells + mc) (slots + ms) Q (F0 m (pc + 3) ls (va_rf r :: rest))) : W p l e R s m args below meth c H locs cells slots Q (F0 m pc ls st0) :=
  va_callq (va_runS hC hM (ga_cwS hC.2.2.2.2 hm hl hrc hrs hR) ⟨ga_blind, fun U hU hW => ⟨rfl, ga_enter (ga_subL hw) U hU hW⟩⟩ rfl hn hsz hst (lv_room hro) hdg hf) hw.2.2.1 (fun q _ h => ga_free (ga_subL hw) q h) (ga_free (ga_subL hw))
    (fun r u t H1 locs1 ht _ hp hB _ hk hS => kk r u H1 locs1 hp (ga_joinL hw (by rw [← ht]; exact hB.1) hB.2 hk hS))
theorem ga_SqR {post : Option Nat → S → Prop} (hC : CallFix p m c cc nL s args ga_T own) (hw : ga_w K (ex ++ ws) A s H locs)
    (hM : Met l y (Cond.code y bytes maxL ret :: ga_T) rm (va_Pc As (ga_pre K ws H.size)) (va_Qq post (ga_post K ws H.size wf) (va_A ws H.size)) mc ms (va_A ws H.size))
    (hm : ga_Ms y bytes maxL ret n) (hl : Cond.methodLink own idx y ∈ ga_T) 
    (hrc : rm.cells = mc) (hrs : rm.slots = ms) (hR : rm.frames + 1 ≤ R.frames ∧ 8 + (maxL + 11) + rm.locals ≤ R.locals) (hn : As.length = n) (hsz : ls.size = nL) (hst : st0 = As.reverse ++ rest)
    (hro : (rest.map fun v => v.category).sum ≤ 8) (hdg : decode cc pc = .ok (.invokestatic idx, 3)) (hf : cells + mc ≤ R.cells ∧ slots + ms ≤ R.slots)
    (kk : ∀ (r : Option Nat) (u : S) (H1 : Heap) (locs1 : List Loc), post r u → ga_w K (ex ++ wf u) A s H1 locs1 → W p l e R s m args below meth c H1 locs1 (cells + mc) (slots + ms) Q (F0 m (pc + 3) ls (va_rf r :: rest))) : W p l e R s m args below meth c H locs cells slots Q (F0 m pc ls st0) :=
  va_callq (va_runS hC hM (ga_cwS hC.2.2.2.2 hm hl hrc hrs hR) ⟨ga_blind, fun U hU hW => ⟨rfl, ga_enter (ga_subR hw) U hU hW⟩⟩ rfl hn hsz hst (lv_room hro) hdg hf) hw.2.2.1 (fun q _ h => ga_free (ga_subR hw) q h) (ga_free (ga_subR hw))
    (fun r u t H1 locs1 ht _ hp hB _ hk hS => kk r u H1 locs1 hp (ga_joinR hw (by rw [← ht]; exact hB.1) hB.2 hk hS))
theorem ga_Iv {post : S → Prop} (hC : CallFix p m c cc nL s args ga_T own) (hw : ga_w K ws A s H locs)
    (hM : Met l y (Cond.code y bytes maxL none :: ga_T) rm (va_Pc (.ref b :: As) (ga_pre K ws H.size)) (va_Qv post (ga_post K ws H.size wf) (va_A ws H.size)) mc ms (va_A ws H.size))
    (hm : ga_Mi y bytes maxL n) (hl : Cond.methodLink own idx y ∈ ga_T) 
    (hrc : rm.cells = mc) (hrs : rm.slots = ms) (hR : rm.frames + 1 ≤ R.frames ∧ 8 + (maxL + 11) + rm.locals ≤ R.locals) (hn : As.length = n) (hsz : ls.size = nL) (hst : st0 = As.reverse ++ .ref b :: rest)
    (hro : (rest.map fun v => v.category).sum ≤ 8) (hdg : decode cc pc = .ok (.invokespecial idx, 3)) (hf : cells + mc ≤ R.cells ∧ slots + ms ≤ R.slots)
    (kk : ∀ (u : S) (H1 : Heap) (locs1 : List Loc), post u → ga_w K (wf u) A s H1 locs1 → W p l e R s m args below meth c H1 locs1 (cells + mc) (slots + ms) Q (F0 m (pc + 3) ls rest)) : W p l e R s m args below meth c H locs cells slots Q (F0 m pc ls st0) :=
  va_callv (va_runI hC hM (ga_cwI hC.2.2.2.2 hm hl hrc hrs hR) ⟨ga_blind, fun U hU hW => ⟨rfl, ga_enter hw U hU hW⟩⟩ rfl hn hsz hst (lv_room hro) hdg hf) hw.2.2.1 (fun q _ h => ga_free hw q h) (ga_free hw)
    (fun u t H1 locs1 ht _ hp hB _ hk hS => kk u H1 locs1 hp (ga_leave hw (by rw [← ht]; exact hB.1) hB.2 hS))
theorem ga_IvL {post : S → Prop} (hC : CallFix p m c cc nL s args ga_T own) (hw : ga_w K (ws ++ ex) A s H locs)
    (hM : Met l y (Cond.code y bytes maxL none :: ga_T) rm (va_Pc (.ref b :: As) (ga_pre K ws H.size)) (va_Qv post (ga_post K ws H.size wf) (va_A ws H.size)) mc ms (va_A ws H.size))
    (hm : ga_Mi y bytes maxL n) (hl : Cond.methodLink own idx y ∈ ga_T) 
    (hrc : rm.cells = mc) (hrs : rm.slots = ms) (hR : rm.frames + 1 ≤ R.frames ∧ 8 + (maxL + 11) + rm.locals ≤ R.locals) (hn : As.length = n) (hsz : ls.size = nL) (hst : st0 = As.reverse ++ .ref b :: rest)
    (hro : (rest.map fun v => v.category).sum ≤ 8) (hdg : decode cc pc = .ok (.invokespecial idx, 3)) (hf : cells + mc ≤ R.cells ∧ slots + ms ≤ R.slots)
    (kk : ∀ (u : S) (H1 : Heap) (locs1 : List Loc), post u → ga_w K (wf u ++ ex) A s H1 locs1 → W p l e R s m args below meth c H1 locs1 (cells + mc) (slots + ms) Q (F0 m (pc + 3) ls rest)) : W p l e R s m args below meth c H locs cells slots Q (F0 m pc ls st0) :=
  va_callv (va_runI hC hM (ga_cwI hC.2.2.2.2 hm hl hrc hrs hR) ⟨ga_blind, fun U hU hW => ⟨rfl, ga_enter (ga_subL hw) U hU hW⟩⟩ rfl hn hsz hst (lv_room hro) hdg hf) hw.2.2.1 (fun q _ h => ga_free (ga_subL hw) q h) (ga_free (ga_subL hw))
    (fun u t H1 locs1 ht _ hp hB _ hk hS => kk u H1 locs1 hp (ga_joinL hw (by rw [← ht]; exact hB.1) hB.2 hk hS))
theorem ga_IvR {post : S → Prop} (hC : CallFix p m c cc nL s args ga_T own) (hw : ga_w K (ex ++ ws) A s H locs)
    (hM : Met l y (Cond.code y bytes maxL none :: ga_T) rm (va_Pc (.ref b :: As) (ga_pre K ws H.size)) (va_Qv post (ga_post K ws H.size wf) (va_A ws H.size)) mc ms (va_A ws H.size))
    (hm : ga_Mi y bytes maxL n) (hl : Cond.methodLink own idx y ∈ ga_T) 
    (hrc : rm.cells = mc) (hrs : rm.slots = ms) (hR : rm.frames + 1 ≤ R.frames ∧ 8 + (maxL + 11) + rm.locals ≤ R.locals) (hn : As.length = n) (hsz : ls.size = nL) (hst : st0 = As.reverse ++ .ref b :: rest)
    (hro : (rest.map fun v => v.category).sum ≤ 8) (hdg : decode cc pc = .ok (.invokespecial idx, 3)) (hf : cells + mc ≤ R.cells ∧ slots + ms ≤ R.slots)
    (kk : ∀ (u : S) (H1 : Heap) (locs1 : List Loc), post u → ga_w K (ex ++ wf u) A s H1 locs1 → W p l e R s m args below meth c H1 locs1 (cells + mc) (slots + ms) Q (F0 m (pc + 3) ls rest)) : W p l e R s m args below meth c H locs cells slots Q (F0 m pc ls st0) :=
  va_callv (va_runI hC hM (ga_cwI hC.2.2.2.2 hm hl hrc hrs hR) ⟨ga_blind, fun U hU hW => ⟨rfl, ga_enter (ga_subR hw) U hU hW⟩⟩ rfl hn hsz hst (lv_room hro) hdg hf) hw.2.2.1 (fun q _ h => ga_free (ga_subR hw) q h) (ga_free (ga_subR hw))
    (fun u t H1 locs1 ht _ hp hB _ hk hS => kk u H1 locs1 hp (ga_joinR hw (by rw [← ht]; exact hB.1) hB.2 hk hS))
theorem ga_Vxi {post : Int32 → S → Prop} {px : String → SX → Prop} (hC : CallFix p m c cc nL s args ga_T own) (hw : ga_w K ws A s H locs)
    (hM : vx_Met l y (Cond.code y bytes maxL ret :: ga_T) rm (va_Pc (.ref b :: As) (ga_pre K ws H.size)) (va_Qi post (ga_post K ws H.size wf) (va_A ws H.size)) (ga_XC K ws H.size wx px) mc ms (va_A ws H.size))
    (hm : ga_M y bytes maxL ret n) (hl : Cond.methodLink own idx y ∈ ga_T) (hrv : ∃ cell : Cell, H[b]? = some cell ∧ cell.vm.isStatics = false ∧ s.vm.findClass y.cls = some cell.cls)
    (hrc : rm.cells = mc) (hrs : rm.slots = ms) (hR : rm.frames + 1 ≤ R.frames ∧ 8 + (maxL + 11) + rm.locals ≤ R.locals) (hn : As.length = n) (hsz : ls.size = nL) (hst : st0 = As.reverse ++ .ref b :: rest)
    (hro : (rest.map fun v => v.category).sum ≤ 8) (hdg : decode cc pc = .ok (.invokevirtual idx, 3)) (hf : cells + mc ≤ R.cells ∧ slots + ms ≤ R.slots)
    (kx : ∀ (E : String) (ce : Cell) (q9 : Addr) (u : SX) (H1 : Heap) (locs1 : List Loc), px E u → ga_w K (wx u) A s H1 locs1 → H1[q9]? = some ce → ce.vm = .none → s.vm.findClass E = some ce.cls → vx_W p l e R s m args below meth c H1 locs1 (cells + mc) (slots + ms) Q (F0 m pc ls rest) q9)
    (kk : ∀ (r : Int32) (u : S) (H1 : Heap) (locs1 : List Loc), post r u → ga_w K (wf u) A s H1 locs1 → W p l e R s m args below meth c H1 locs1 (cells + mc) (slots + ms) Q (F0 m (pc + 3) ls (.int r :: rest))) : W p l e R s m args below meth c H locs cells slots Q (F0 m pc ls st0) :=
  vx_calli (vx_runV hC hM (ga_cwV hC.2.2.2.2 hm hl hrc hrs hR) ⟨ga_blind, hrv, fun U hU hW => ⟨rfl, ga_enter hw U hU hW⟩⟩ rfl hn hsz hst (lv_room hro) hdg hf) hw.2.2.1 (fun q _ h => ga_free hw q h) (ga_free hw) (fun q _ h => ga_free hw q h)
    (fun E ce q9 u t H1 locs1 ht _ _ hB _ hk hS h1 h2 h3 => kx E ce q9 u H1 locs1 hB.1 (ga_leave hw (by rw [← ht]; exact hB.2.1) hB.2.2 hS) h1 h2 h3)
    (fun r u t H1 locs1 ht _ hp hB _ hk hS => kk r u H1 locs1 hp (ga_leave hw (by rw [← ht]; exact hB.1) hB.2 hS))
theorem ga_VxiL {post : Int32 → S → Prop} {px : String → SX → Prop} (hC : CallFix p m c cc nL s args ga_T own) (hw : ga_w K (ws ++ ex) A s H locs)
    (hM : vx_Met l y (Cond.code y bytes maxL ret :: ga_T) rm (va_Pc (.ref b :: As) (ga_pre K ws H.size)) (va_Qi post (ga_post K ws H.size wf) (va_A ws H.size)) (ga_XC K ws H.size wx px) mc ms (va_A ws H.size))
    (hm : ga_M y bytes maxL ret n) (hl : Cond.methodLink own idx y ∈ ga_T) (hrv : ∃ cell : Cell, H[b]? = some cell ∧ cell.vm.isStatics = false ∧ s.vm.findClass y.cls = some cell.cls)
    (hrc : rm.cells = mc) (hrs : rm.slots = ms) (hR : rm.frames + 1 ≤ R.frames ∧ 8 + (maxL + 11) + rm.locals ≤ R.locals) (hn : As.length = n) (hsz : ls.size = nL) (hst : st0 = As.reverse ++ .ref b :: rest)
    (hro : (rest.map fun v => v.category).sum ≤ 8) (hdg : decode cc pc = .ok (.invokevirtual idx, 3)) (hf : cells + mc ≤ R.cells ∧ slots + ms ≤ R.slots)
    (kx : ∀ (E : String) (ce : Cell) (q9 : Addr) (u : SX) (H1 : Heap) (locs1 : List Loc), px E u → ga_w K (wx u ++ ex) A s H1 locs1 → H1[q9]? = some ce → ce.vm = .none → s.vm.findClass E = some ce.cls → vx_W p l e R s m args below meth c H1 locs1 (cells + mc) (slots + ms) Q (F0 m pc ls rest) q9)
    (kk : ∀ (r : Int32) (u : S) (H1 : Heap) (locs1 : List Loc), post r u → ga_w K (wf u ++ ex) A s H1 locs1 → W p l e R s m args below meth c H1 locs1 (cells + mc) (slots + ms) Q (F0 m (pc + 3) ls (.int r :: rest))) : W p l e R s m args below meth c H locs cells slots Q (F0 m pc ls st0) :=
  vx_calli (vx_runV hC hM (ga_cwV hC.2.2.2.2 hm hl hrc hrs hR) ⟨ga_blind, hrv, fun U hU hW => ⟨rfl, ga_enter (ga_subL hw) U hU hW⟩⟩ rfl hn hsz hst (lv_room hro) hdg hf) hw.2.2.1 (fun q _ h => ga_free (ga_subL hw) q h) (ga_free (ga_subL hw)) (fun q _ h => ga_free (ga_subL hw) q h)
    (fun E ce q9 u t H1 locs1 ht _ _ hB _ hk hS h1 h2 h3 => kx E ce q9 u H1 locs1 hB.1 (ga_joinL hw (by rw [← ht]; exact hB.2.1) hB.2.2 hk hS) h1 h2 h3)
    (fun r u t H1 locs1 ht _ hp hB _ hk hS => kk r u H1 locs1 hp (ga_joinL hw (by rw [← ht]; exact hB.1) hB.2 hk hS))
theorem ga_Vxv {post : S → Prop} {px : String → SX → Prop} (hC : CallFix p m c cc nL s args ga_T own) (hw : ga_w K ws A s H locs)
    (hM : vx_Met l y (Cond.code y bytes maxL ret :: ga_T) rm (va_Pc (.ref b :: As) (ga_pre K ws H.size)) (va_Qv post (ga_post K ws H.size wf) (va_A ws H.size)) (ga_XC K ws H.size wx px) mc ms (va_A ws H.size))
    (hm : ga_M y bytes maxL ret n) (hl : Cond.methodLink own idx y ∈ ga_T) (hrv : ∃ cell : Cell, H[b]? = some cell ∧ cell.vm.isStatics = false ∧ s.vm.findClass y.cls = some cell.cls)
    (hrc : rm.cells = mc) (hrs : rm.slots = ms) (hR : rm.frames + 1 ≤ R.frames ∧ 8 + (maxL + 11) + rm.locals ≤ R.locals) (hn : As.length = n) (hsz : ls.size = nL) (hst : st0 = As.reverse ++ .ref b :: rest)
    (hro : (rest.map fun v => v.category).sum ≤ 8) (hdg : decode cc pc = .ok (.invokevirtual idx, 3)) (hf : cells + mc ≤ R.cells ∧ slots + ms ≤ R.slots)
    (kx : ∀ (E : String) (ce : Cell) (q9 : Addr) (u : SX) (H1 : Heap) (locs1 : List Loc), px E u → ga_w K (wx u) A s H1 locs1 → H1[q9]? = some ce → ce.vm = .none → s.vm.findClass E = some ce.cls → vx_W p l e R s m args below meth c H1 locs1 (cells + mc) (slots + ms) Q (F0 m pc ls rest) q9)
    (kk : ∀ (u : S) (H1 : Heap) (locs1 : List Loc), post u → ga_w K (wf u) A s H1 locs1 → W p l e R s m args below meth c H1 locs1 (cells + mc) (slots + ms) Q (F0 m (pc + 3) ls rest)) : W p l e R s m args below meth c H locs cells slots Q (F0 m pc ls st0) :=
  vx_callv (vx_runV hC hM (ga_cwV hC.2.2.2.2 hm hl hrc hrs hR) ⟨ga_blind, hrv, fun U hU hW => ⟨rfl, ga_enter hw U hU hW⟩⟩ rfl hn hsz hst (lv_room hro) hdg hf) hw.2.2.1 (fun q _ h => ga_free hw q h) (ga_free hw) (fun q _ h => ga_free hw q h)
    (fun E ce q9 u t H1 locs1 ht _ _ hB _ hk hS h1 h2 h3 => kx E ce q9 u H1 locs1 hB.1 (ga_leave hw (by rw [← ht]; exact hB.2.1) hB.2.2 hS) h1 h2 h3)
    (fun u t H1 locs1 ht _ hp hB _ hk hS => kk u H1 locs1 hp (ga_leave hw (by rw [← ht]; exact hB.1) hB.2 hS))
theorem ga_VxvL {post : S → Prop} {px : String → SX → Prop} (hC : CallFix p m c cc nL s args ga_T own) (hw : ga_w K (ws ++ ex) A s H locs)
    (hM : vx_Met l y (Cond.code y bytes maxL ret :: ga_T) rm (va_Pc (.ref b :: As) (ga_pre K ws H.size)) (va_Qv post (ga_post K ws H.size wf) (va_A ws H.size)) (ga_XC K ws H.size wx px) mc ms (va_A ws H.size))
    (hm : ga_M y bytes maxL ret n) (hl : Cond.methodLink own idx y ∈ ga_T) (hrv : ∃ cell : Cell, H[b]? = some cell ∧ cell.vm.isStatics = false ∧ s.vm.findClass y.cls = some cell.cls)
    (hrc : rm.cells = mc) (hrs : rm.slots = ms) (hR : rm.frames + 1 ≤ R.frames ∧ 8 + (maxL + 11) + rm.locals ≤ R.locals) (hn : As.length = n) (hsz : ls.size = nL) (hst : st0 = As.reverse ++ .ref b :: rest)
    (hro : (rest.map fun v => v.category).sum ≤ 8) (hdg : decode cc pc = .ok (.invokevirtual idx, 3)) (hf : cells + mc ≤ R.cells ∧ slots + ms ≤ R.slots)
    (kx : ∀ (E : String) (ce : Cell) (q9 : Addr) (u : SX) (H1 : Heap) (locs1 : List Loc), px E u → ga_w K (wx u ++ ex) A s H1 locs1 → H1[q9]? = some ce → ce.vm = .none → s.vm.findClass E = some ce.cls → vx_W p l e R s m args below meth c H1 locs1 (cells + mc) (slots + ms) Q (F0 m pc ls rest) q9)
    (kk : ∀ (u : S) (H1 : Heap) (locs1 : List Loc), post u → ga_w K (wf u ++ ex) A s H1 locs1 → W p l e R s m args below meth c H1 locs1 (cells + mc) (slots + ms) Q (F0 m (pc + 3) ls rest)) : W p l e R s m args below meth c H locs cells slots Q (F0 m pc ls st0) :=
  vx_callv (vx_runV hC hM (ga_cwV hC.2.2.2.2 hm hl hrc hrs hR) ⟨ga_blind, hrv, fun U hU hW => ⟨rfl, ga_enter (ga_subL hw) U hU hW⟩⟩ rfl hn hsz hst (lv_room hro) hdg hf) hw.2.2.1 (fun q _ h => ga_free (ga_subL hw) q h) (ga_free (ga_subL hw)) (fun q _ h => ga_free (ga_subL hw) q h)
    (fun E ce q9 u t H1 locs1 ht _ _ hB _ hk hS h1 h2 h3 => kx E ce q9 u H1 locs1 hB.1 (ga_joinL hw (by rw [← ht]; exact hB.2.1) hB.2.2 hk hS) h1 h2 h3)
    (fun u t H1 locs1 ht _ hp hB _ hk hS => kk u H1 locs1 hp (ga_joinL hw (by rw [← ht]; exact hB.1) hB.2 hk hS))
theorem ga_Sxv {post : S → Prop} {px : String → SX → Prop} (hC : CallFix p m c cc nL s args ga_T own) (hw : ga_w K ws A s H locs)
    (hM : vx_Met l y (Cond.code y bytes maxL ret :: ga_T) rm (va_Pc As (ga_pre K ws H.size)) (va_Qv post (ga_post K ws H.size wf) (va_A ws H.size)) (ga_XC K ws H.size wx px) mc ms (va_A ws H.size))
    (hm : ga_Ms y bytes maxL ret n) (hl : Cond.methodLink own idx y ∈ ga_T) 
    (hrc : rm.cells = mc) (hrs : rm.slots = ms) (hR : rm.frames + 1 ≤ R.frames ∧ 8 + (maxL + 11) + rm.locals ≤ R.locals) (hn : As.length = n) (hsz : ls.size = nL) (hst : st0 = As.reverse ++ rest)
    (hro : (rest.map fun v => v.category).sum ≤ 8) (hdg : decode cc pc = .ok (.invokestatic idx, 3)) (hf : cells + mc ≤ R.cells ∧ slots + ms ≤ R.slots)
    (kx : ∀ (E : String) (ce : Cell) (q9 : Addr) (u : SX) (H1 : Heap) (locs1 : List Loc), px E u → ga_w K (wx u) A s H1 locs1 → H1[q9]? = some ce → ce.vm = .none → s.vm.findClass E = some ce.cls → vx_W p l e R s m args below meth c H1 locs1 (cells + mc) (slots + ms) Q (F0 m pc ls rest) q9)
    (kk : ∀ (u : S) (H1 : Heap) (locs1 : List Loc), post u → ga_w K (wf u) A s H1 locs1 → W p l e R s m args below meth c H1 locs1 (cells + mc) (slots + ms) Q (F0 m (pc + 3) ls rest)) : W p l e R s m args below meth c H locs cells slots Q (F0 m pc ls st0) :=
  vx_callv (vx_runS hC hM (ga_cwS hC.2.2.2.2 hm hl hrc hrs hR) ⟨ga_blind, fun U hU hW => ⟨rfl, ga_enter hw U hU hW⟩⟩ rfl hn hsz hst (lv_room hro) hdg hf) hw.2.2.1 (fun q _ h => ga_free hw q h) (ga_free hw) (fun q _ h => ga_free hw q h)
    (fun E ce q9 u t H1 locs1 ht _ _ hB _ hk hS h1 h2 h3 => kx E ce q9 u H1 locs1 hB.1 (ga_leave hw (by rw [← ht]; exact hB.2.1) hB.2.2 hS) h1 h2 h3)
    (fun u t H1 locs1 ht _ hp hB _ hk hS => kk u H1 locs1 hp (ga_leave hw (by rw [← ht]; exact hB.1) hB.2 hS))
theorem ga_SxvL {post : S → Prop} {px : String → SX → Prop} (hC : CallFix p m c cc nL s args ga_T own) (hw : ga_w K (ws ++ ex) A s H locs)
    (hM : vx_Met l y (Cond.code y bytes maxL ret :: ga_T) rm (va_Pc As (ga_pre K ws H.size)) (va_Qv post (ga_post K ws H.size wf) (va_A ws H.size)) (ga_XC K ws H.size wx px) mc ms (va_A ws H.size))
    (hm : ga_Ms y bytes maxL ret n) (hl : Cond.methodLink own idx y ∈ ga_T) 
    (hrc : rm.cells = mc) (hrs : rm.slots = ms) (hR : rm.frames + 1 ≤ R.frames ∧ 8 + (maxL + 11) + rm.locals ≤ R.locals) (hn : As.length = n) (hsz : ls.size = nL) (hst : st0 = As.reverse ++ rest)
    (hro : (rest.map fun v => v.category).sum ≤ 8) (hdg : decode cc pc = .ok (.invokestatic idx, 3)) (hf : cells + mc ≤ R.cells ∧ slots + ms ≤ R.slots)
    (kx : ∀ (E : String) (ce : Cell) (q9 : Addr) (u : SX) (H1 : Heap) (locs1 : List Loc), px E u → ga_w K (wx u ++ ex) A s H1 locs1 → H1[q9]? = some ce → ce.vm = .none → s.vm.findClass E = some ce.cls → vx_W p l e R s m args below meth c H1 locs1 (cells + mc) (slots + ms) Q (F0 m pc ls rest) q9)
    (kk : ∀ (u : S) (H1 : Heap) (locs1 : List Loc), post u → ga_w K (wf u ++ ex) A s H1 locs1 → W p l e R s m args below meth c H1 locs1 (cells + mc) (slots + ms) Q (F0 m (pc + 3) ls rest)) : W p l e R s m args below meth c H locs cells slots Q (F0 m pc ls st0) :=
  vx_callv (vx_runS hC hM (ga_cwS hC.2.2.2.2 hm hl hrc hrs hR) ⟨ga_blind, fun U hU hW => ⟨rfl, ga_enter (ga_subL hw) U hU hW⟩⟩ rfl hn hsz hst (lv_room hro) hdg hf) hw.2.2.1 (fun q _ h => ga_free (ga_subL hw) q h) (ga_free (ga_subL hw)) (fun q _ h => ga_free (ga_subL hw) q h)
    (fun E ce q9 u t H1 locs1 ht _ _ hB _ hk hS h1 h2 h3 => kx E ce q9 u H1 locs1 hB.1 (ga_joinL hw (by rw [← ht]; exact hB.2.1) hB.2.2 hk hS) h1 h2 h3)
    (fun u t H1 locs1 ht _ hp hB _ hk hS => kk u H1 locs1 hp (ga_joinL hw (by rw [← ht]; exact hB.1) hB.2 hk hS))
theorem ga_Sxi {post : Int32 → S → Prop} {px : String → SX → Prop} (hC : CallFix p m c cc nL s args ga_T own) (hw : ga_w K ws A s H locs)
    (hM : vx_Met l y (Cond.code y bytes maxL ret :: ga_T) rm (va_Pc As (ga_pre K ws H.size)) (va_Qi post (ga_post K ws H.size wf) (va_A ws H.size)) (ga_XC K ws H.size wx px) mc ms (va_A ws H.size))
    (hm : ga_Ms y bytes maxL ret n) (hl : Cond.methodLink own idx y ∈ ga_T) 
    (hrc : rm.cells = mc) (hrs : rm.slots = ms) (hR : rm.frames + 1 ≤ R.frames ∧ 8 + (maxL + 11) + rm.locals ≤ R.locals) (hn : As.length = n) (hsz : ls.size = nL) (hst : st0 = As.reverse ++ rest)
    (hro : (rest.map fun v => v.category).sum ≤ 8) (hdg : decode cc pc = .ok (.invokestatic idx, 3)) (hf : cells + mc ≤ R.cells ∧ slots + ms ≤ R.slots)
    (kx : ∀ (E : String) (ce : Cell) (q9 : Addr) (u : SX) (H1 : Heap) (locs1 : List Loc), px E u → ga_w K (wx u) A s H1 locs1 → H1[q9]? = some ce → ce.vm = .none → s.vm.findClass E = some ce.cls → vx_W p l e R s m args below meth c H1 locs1 (cells + mc) (slots + ms) Q (F0 m pc ls rest) q9)
    (kk : ∀ (r : Int32) (u : S) (H1 : Heap) (locs1 : List Loc), post r u → ga_w K (wf u) A s H1 locs1 → W p l e R s m args below meth c H1 locs1 (cells + mc) (slots + ms) Q (F0 m (pc + 3) ls (.int r :: rest))) : W p l e R s m args below meth c H locs cells slots Q (F0 m pc ls st0) :=
  vx_calli (vx_runS hC hM (ga_cwS hC.2.2.2.2 hm hl hrc hrs hR) ⟨ga_blind, fun U hU hW => ⟨rfl, ga_enter hw U hU hW⟩⟩ rfl hn hsz hst (lv_room hro) hdg hf) hw.2.2.1 (fun q _ h => ga_free hw q h) (ga_free hw) (fun q _ h => ga_free hw q h)
    (fun E ce q9 u t H1 locs1 ht _ _ hB _ hk hS h1 h2 h3 => kx E ce q9 u H1 locs1 hB.1 (ga_leave hw (by rw [← ht]; exact hB.2.1) hB.2.2 hS) h1 h2 h3)
    (fun r u t H1 locs1 ht _ hp hB _ hk hS => kk r u H1 locs1 hp (ga_leave hw (by rw [← ht]; exact hB.1) hB.2 hS))
theorem ga_SxiL {post : Int32 → S → Prop} {px : String → SX → Prop} (hC : CallFix p m c cc nL s args ga_T own) (hw : ga_w K (ws ++ ex) A s H locs)
    (hM : vx_Met l y (Cond.code y bytes maxL ret :: ga_T) rm (va_Pc As (ga_pre K ws H.size)) (va_Qi post (ga_post K ws H.size wf) (va_A ws H.size)) (ga_XC K ws H.size wx px) mc ms (va_A ws H.size))
    (hm : ga_Ms y bytes maxL ret n) (hl : Cond.methodLink own idx y ∈ ga_T) 
    (hrc : rm.cells = mc) (hrs : rm.slots = ms) (hR : rm.frames + 1 ≤ R.frames ∧ 8 + (maxL + 11) + rm.locals ≤ R.locals) (hn : As.length = n) (hsz : ls.size = nL) (hst : st0 = As.reverse ++ rest)
    (hro : (rest.map fun v => v.category).sum ≤ 8) (hdg : decode cc pc = .ok (.invokestatic idx, 3)) (hf : cells + mc ≤ R.cells ∧ slots + ms ≤ R.slots)
    (kx : ∀ (E : String) (ce : Cell) (q9 : Addr) (u : SX) (H1 : Heap) (locs1 : List Loc), px E u → ga_w K (wx u ++ ex) A s H1 locs1 → H1[q9]? = some ce → ce.vm = .none → s.vm.findClass E = some ce.cls → vx_W p l e R s m args below meth c H1 locs1 (cells + mc) (slots + ms) Q (F0 m pc ls rest) q9)
    (kk : ∀ (r : Int32) (u : S) (H1 : Heap) (locs1 : List Loc), post r u → ga_w K (wf u ++ ex) A s H1 locs1 → W p l e R s m args below meth c H1 locs1 (cells + mc) (slots + ms) Q (F0 m (pc + 3) ls (.int r :: rest))) : W p l e R s m args below meth c H locs cells slots Q (F0 m pc ls st0) :=
  vx_calli (vx_runS hC hM (ga_cwS hC.2.2.2.2 hm hl hrc hrs hR) ⟨ga_blind, fun U hU hW => ⟨rfl, ga_enter (ga_subL hw) U hU hW⟩⟩ rfl hn hsz hst (lv_room hro) hdg hf) hw.2.2.1 (fun q _ h => ga_free (ga_subL hw) q h) (ga_free (ga_subL hw)) (fun q _ h => ga_free (ga_subL hw) q h)
    (fun E ce q9 u t H1 locs1 ht _ _ hB _ hk hS h1 h2 h3 => kx E ce q9 u H1 locs1 hB.1 (ga_joinL hw (by rw [← ht]; exact hB.2.1) hB.2.2 hk hS) h1 h2 h3)
    (fun r u t H1 locs1 ht _ hp hB _ hk hS => kk r u H1 locs1 hp (ga_joinL hw (by rw [← ht]; exact hB.1) hB.2 hk hS))
/-! ends -/
variable {ws0 : va_W} {sz : Nat} {u : S} {ux : SX}
theorem ga_iret {post : Int32 → S → Prop} {v : Int32} (hC : CallFix p m c cc nL s args ga_T own) (hr : meth.sig.returnType = some .int) (hlocks : meth.locks = false) (hw : ga_w K (wf u) (va_A ws0 sz) s H locs) (hp : post v u) (hc : cells ≤ mc) (hs : slots ≤ ms) (hdg : decode cc pc = .ok (.ireturn, 1)) :
    W p l e R s m args below meth c H locs cells slots (MQ below (va_Qi post (ga_post K ws0 sz wf) (va_A ws0 sz)) args s mc ms (va_A ws0 sz)) (F0 m pc ls [.int v]) :=
  W.widen hc hs (W.iret hC.1 hC.2.1 hr (fun t ht _ => ⟨⟨v, u, rfl, hp, by rw [ht]; exact hw.1, hw.2.1⟩, hw.2.2.1.F ht⟩) hw.2.2.1.2.2 hdg hlocks)
theorem ga_zret {post : Int32 → S → Prop} {v : Int32} (hC : CallFix p m c cc nL s args ga_T own) (hr : meth.sig.returnType = some .boolean) (hlocks : meth.locks = false) (hw : ga_w K (wf u) (va_A ws0 sz) s H locs) (hv : v = 0 ∨ v = 1) (hp : post v u) (hc : cells ≤ mc) (hs : slots ≤ ms) (hdg : decode cc pc = .ok (.ireturn, 1)) :
    W p l e R s m args below meth c H locs cells slots (MQ below (va_Qi post (ga_post K ws0 sz wf) (va_A ws0 sz)) args s mc ms (va_A ws0 sz)) (F0 m pc ls [.int v]) :=
  W.widen hc hs (W.zret hC.1 hC.2.1 hr (by rcases hv with rfl | rfl <;> rfl) (fun t ht _ => ⟨⟨v, u, rfl, hp, by rw [ht]; exact hw.1, hw.2.1⟩, hw.2.2.1.F ht⟩) hw.2.2.1.2.2 hdg hlocks)
theorem ga_lret {post : Int64 → S → Prop} {v : Int64} (hC : CallFix p m c cc nL s args ga_T own) (hr : meth.sig.returnType = some .long) (hlocks : meth.locks = false) (hw : ga_w K (wf u) (va_A ws0 sz) s H locs) (hp : post v u) (hc : cells ≤ mc) (hs : slots ≤ ms) (hdg : decode cc pc = .ok (.lreturn, 1)) :
    W p l e R s m args below meth c H locs cells slots (MQ below (va_Ql post (ga_post K ws0 sz wf) (va_A ws0 sz)) args s mc ms (va_A ws0 sz)) (F0 m pc ls [.long v]) :=
  W.widen hc hs (W.lret hC.1 hC.2.1 hr (fun t ht _ => ⟨⟨v, u, rfl, hp, by rw [ht]; exact hw.1, hw.2.1⟩, hw.2.2.1.F ht⟩) hw.2.2.1.2.2 hdg hlocks)
theorem ga_vret {post : S → Prop} (hC : CallFix p m c cc nL s args ga_T own) (hr : meth.sig.returnType = none) (hlocks : meth.locks = false) (hw : ga_w K (wf u) (va_A ws0 sz) s H locs) (hp : post u) (hc : cells ≤ mc) (hs : slots ≤ ms) (hdg : decode cc pc = .ok (.return_, 1)) :
    W p l e R s m args below meth c H locs cells slots (MQ below (va_Qv post (ga_post K ws0 sz wf) (va_A ws0 sz)) args s mc ms (va_A ws0 sz)) (F0 m pc ls []) :=
  W.widen hc hs (W.vret hC.1 hC.2.1 hr (fun t ht _ => ⟨⟨u, rfl, hp, by rw [ht]; exact hw.1, hw.2.1⟩, hw.2.2.1.F ht⟩) hw.2.2.1.2.2 hdg hlocks)
theorem ga_qret {post : Option Nat → S → Prop} {v : Option Nat} {rt : FieldType} (hC : CallFix p m c cc nL s args ga_T own) (hr : meth.sig.returnType = some rt) (hrt : (∃ n, rt = .object n) ∨ ∃ t, rt = .array t) (hlocks : meth.locks = false) (hw : ga_w K (wf u) (va_A ws0 sz) s H locs) (hp : post v u) (hc : cells ≤ mc) (hs : slots ≤ ms) (hdg : decode cc pc = .ok (.areturn, 1)) :
    W p l e R s m args below meth c H locs cells slots (MQ below (va_Qq post (ga_post K ws0 sz wf) (va_A ws0 sz)) args s mc ms (va_A ws0 sz)) (F0 m pc ls [va_rf v]) :=
  W.widen hc hs (W.aret hC.1 hC.2.1 hr hrt (va_rf_or v) (fun t ht _ => ⟨⟨v, u, rfl, hp, by rw [ht]; exact hw.1, hw.2.1⟩, hw.2.2.1.F ht⟩) hw.2.2.1.2.2 hdg hlocks)
/-- a throw out of a callee that nobody here catches -/
theorem ga_out {Qc : Array Value → State → Outcome → State → Prop} {px : String → SX → Prop} {E : String} {ce : Cell} {q9 : Addr} (hT : ∀ x ∈ c.exceptionTable.toList, False) (hlocks : meth.locks = false) (hw : ga_w K (wx ux) (va_A ws0 sz) s H locs) (hp : px E ux) (h1 : H[q9]? = some ce) (h2 : ce.vm = .none) (h3 : s.vm.findClass E = some ce.cls) (hc : cells ≤ mc) (hs : slots ≤ ms) :
    vx_W p l e R s m args below meth c H locs cells slots (vx_MQ below Qc (ga_XC K ws0 sz wx px) args s mc ms (va_A ws0 sz)) (F0 m pc ls rest) q9 :=
  vx_out (fun x hx => absurd (hT x hx) id) hlocks h1 h2 h3 (fun t ht _ => ⟨ux, trivial, ⟨hp, by rw [ht]; exact hw.1, hw.2.1⟩, hw.2.2.1.F ht⟩) hw.2.2.1.2.2 hc hs
end GD
/-! a method's start -/
theorem ga_Met {l : Launch} {K : ga_K} {ws : va_W} {sz : Nat} {y : MethodName} {bytes : ByteArray} {maxL mc ms : Nat} {ret : Option FieldType} {rm : Room} {av : List Value} {Qc : Array Value → State → Outcome → State → Prop} {free : Addr → Prop} (hy : plainName y.cls = true) (hn : (lg_sl av).length ≤ maxL)
    (body : ∀ (p : Program) (e : Env) (s : State) (m : MethodId) (below : List Frame) (meth : Method) (c : Code), CallFix p m c bytes maxL s av.toArray ga_T y.cls → meth.sig.returnType = ret → meth.locks = false → meth.name = y.name → ga_w K ws (va_A ws sz) s s.heap [] → ∀ ls : Array Slot, lv_has ls maxL (lv_args 0 av) →
      W p l e rm s m av.toArray below meth c s.heap [] 0 0 (MQ below Qc av.toArray s mc ms free) (F0 m 0 ls [])) : Met l y (Cond.code y bytes maxL ret :: ga_T) rm (va_Pc av (ga_pre K ws sz)) Qc mc ms free := by
  refine Met.ofW (cc := bytes) (maxL := maxL) (ret := ret) hy rfl ?_
  intro p e s m args below meth c s₁ B hml hv
  obtain ⟨rfl, hpre⟩ := hv
  have hts := atoms_spec (ws := Cond.code y bytes maxL ret :: ga_T) B.pre
  have hl := lv_entry av (n := maxL) hn
  rw [lg_entry_eq]
  exact body p e s m below meth c ⟨B.exec, B.bytes, hml, findClass_of_methodNamed B.named, fun w hw => hts w (List.mem_cons_of_mem _ hw)⟩ B.returns B.notSynchronized (name_of_methodNamed B.named B.method).1 (ga_start hpre) _ hl
theorem ga_MetX {l : Launch} {K : ga_K} {ws : va_W} {sz : Nat} {y : MethodName} {bytes : ByteArray} {maxL mc ms : Nat} {ret : Option FieldType} {rm : Room} {av : List Value} {Qc : Array Value → State → Outcome → State → Prop} {XC : String → State → State → Prop} {free : Addr → Prop} (hy : plainName y.cls = true) (hn : (lg_sl av).length ≤ maxL)
    (body : ∀ (p : Program) (e : Env) (s : State) (m : MethodId) (below : List Frame) (meth : Method) (c : Code), CallFix p m c bytes maxL s av.toArray ga_T y.cls → meth.sig.returnType = ret → meth.locks = false → (∀ x ∈ c.exceptionTable.toList, False) → ga_w K ws (va_A ws sz) s s.heap [] → ∀ ls : Array Slot, lv_has ls maxL (lv_args 0 av) →
      W p l e rm s m av.toArray below meth c s.heap [] 0 0 (vx_MQ below Qc XC av.toArray s mc ms free) (F0 m 0 ls [])) : vx_Met l y (Cond.code y bytes maxL ret :: ga_T) rm (va_Pc av (ga_pre K ws sz)) Qc XC mc ms free := by
  refine vx_ofW (cc := bytes) (maxL := maxL) (ret := ret) hy rfl ?_
  intro p e s m args below meth c s₁ B hml hT hv
  obtain ⟨rfl, hpre⟩ := hv
  have hts := atoms_spec (ws := Cond.code y bytes maxL ret :: ga_T) B.pre
  have hl := lv_entry av (n := maxL) hn
  rw [lg_entry_eq]
  exact body p e s m below meth c ⟨B.exec, B.bytes, hml, findClass_of_methodNamed B.named, fun w hw => hts w (List.mem_cons_of_mem _ hw)⟩ B.returns B.notSynchronized hT (ga_start hpre) _ hl
theorem ga_stat_ok (nb : Nat) : ga_St (ga_stat nb) := by
  refine ⟨?_, ?_, ?_, ?_⟩
  · intro A u U H hW h
    obtain ⟨h1, h2, h3, h4, h5, h6, h7, h8⟩ := h
    exact ⟨h1.moved hW.alike, h2.moved hW.alike, h3.moved hW.alike, h4.moved hW.alike, fun w hw => ga_N_warm hW hw (h5 w hw), fun q hq => (h6 q hq).imp fun a ha => ha.warm hW, ⟨h7.1.moved hW.alike, h7.2.moved hW.alike⟩, h8.moved hW.alike⟩
  · intro A u U H hv h
    have hal : u.vm.Alike U.vm := by rw [hv]; exact Vm.Alike.refl _
    obtain ⟨h1, h2, h3, h4, h5, h6, h7, h8⟩ := h
    exact ⟨h1.moved hal, h2.moved hal, h3.moved hal, h4.moved hal, fun w hw => va_Nw.same (ga_N_tab hw) hv.symm (h5 w hw), fun q hq => (h6 q hq).imp fun a ha => ha.same hv, ⟨h7.1.moved hal, h7.2.moved hal⟩, h8.moved hal⟩
  · intro A U H H1 hq h
    obtain ⟨h1, h2, h3, h4, h5⟩ := h
    exact ⟨h1.kept hq, h2.kept hq, h3.kept hq, h4.kept hq, h5⟩
  · intro A B U H hAB h
    obtain ⟨h1, h2, h3, h4, h5⟩ := h
    exact ⟨h1.narrow hAB, h2.narrow hAB, h3.narrow hAB, h4.narrow hAB, h5⟩
section GA
variable {p : Program} {l : Launch} {e : Env} {R : Room} {s : State} {m : MethodId} {args : Array Value} {below : List Frame} {meth : Method} {c : Code} {H : Heap} {locs : List Loc} {cells slots : Nat} {Q : State → Prop}
variable {pc : Nat} {ls : Array Slot} {rest : List Value}
theorem ga_asi {x v : Int32} (h : x = v) (k : W p l e R s m args below meth c H locs cells slots Q (F0 m pc ls (.int v :: rest))) : W p l e R s m args below meth c H locs cells slots Q (F0 m pc ls (.int x :: rest)) := by rw [h]; exact k
theorem ga_asl {x v : Int64} (h : x = v) (k : W p l e R s m args below meth c H locs cells slots Q (F0 m pc ls (.long v :: rest))) : W p l e R s m args below meth c H locs cells slots Q (F0 m pc ls (.long x :: rest)) := by rw [h]; exact k
end GA
end
section
/-! rows that read and write the heap, over ga_w -/
section GH
variable {p : Program} {l : Launch} {e : Env} {R : Room} {s : State} {m : MethodId} {args : Array Value} {below : List Frame} {meth : Method} {c : Code} {H : Heap} {locs : List Loc} {cells slots : Nat} {Q : State → Prop}
variable {cc : ByteArray} {pc nL idx : Nat} {ls : Array Slot} {rest : List Value} {K : ga_K} {ws : va_W} {A : Nat → Prop} {own : String} {a ci N : Nat} {C : String} {T : u_T} {fs : List Value} {v : Value}
theorem ga_get (hC : CallFix p m c cc nL s args ga_T own) (hw : ga_w K ws A s H locs) (hcl : ga_Cl ci C T N) (q0 : Nat) (he : ws[q0]? = some (a, .inr (ci, fs))) (k : Nat) (hk : k < N) (hl : Cond.fieldLink own idx (T k).1 (T k).2.1 (T k).2.2.1 ∈ ga_T) (hv : fs[k]? = some v) (hdg : decode cc pc = .ok (.getfield idx, 3))
    (kk : W p l e R s m args below meth c H locs cells slots Q (F0 m (pc + 3) ls (v :: rest))) : W p l e R s m args below meth c H locs cells slots Q (F0 m pc ls (.ref a :: rest)) :=
  va_get hC.1 hC.2.1 hC.2.2.2.2 hcl.2.1 hC.2.2.2.1 hw.2.2.2.1 hw.1 q0 he hcl.1 k hk (hC.2.2.2.2 _ hl) (fun _ h => h) hv hdg kk
theorem ga_put (hC : CallFix p m c cc nL s args ga_T own) (hw : ga_w K ws A s H locs) (hcl : ga_Cl ci C T N) (q0 : Nat) (he : ws[q0]? = some (a, .inr (ci, fs))) (k : Nat) (hk : k < N) (hl : Cond.fieldLink own idx (T k).1 (T k).2.1 (T k).2.2.1 ∈ ga_T) (hfin : (T k).2.2.2 = false) {ty : FieldType} (hd : parseFieldDescriptor (T k).2.2.1 = some ty) (hn : narrow ty v = v) (hfit : fits ty v = true) (hle : k < fs.length) (hdg : decode cc pc = .ok (.putfield idx, 3))
    (kk : ∀ (H1 : Heap) (locs1 : List Loc), ga_w K (ws.set q0 (a, .inr (ci, fs.set k v))) A s H1 locs1 → W p l e R s m args below meth c H1 locs1 cells slots Q (F0 m (pc + 3) ls rest)) : W p l e R s m args below meth c H locs cells slots Q (F0 m pc ls (v :: .ref a :: rest)) := by
  obtain ⟨ty0, hty⟩ := hcl.2.2.1
  exact va_put hC.1 hC.2.1 hC.2.2.2.2 hcl.2.1 ty0 hty hcl.2.2.2 hC.2.2.2.1 hw.2.2.2.1 hw.1 hw.2.1 hw.2.2.1 q0 he hcl.1 k hk (hC.2.2.2.2 _ hl) (fun _ h => h) hfin hd hn hfit hle hdg (fun H1 locs1 h1 h2 h3 => kk H1 locs1 ⟨h1, h2, h3, hw.2.2.2⟩)
theorem ga_putF (hC : CallFix p m c cc nL s args ga_T own) (hin : meth.name = "<init>") (hw : ga_w K ws A s H locs) (hcl : ga_Cl ci C T N) (q0 : Nat) (he : ws[q0]? = some (a, .inr (ci, fs))) (k : Nat) (hk : k < N) (hl : Cond.fieldLink own idx (T k).1 (T k).2.1 (T k).2.2.1 ∈ ga_T) (hfin : (T k).2.2.2 = true) (hde : (T k).1 = own) {ty : FieldType} (hd : parseFieldDescriptor (T k).2.2.1 = some ty) (hn : narrow ty v = v) (hfit : fits ty v = true) (hle : k < fs.length) (hdg : decode cc pc = .ok (.putfield idx, 3))
    (kk : ∀ (H1 : Heap) (locs1 : List Loc), ga_w K (ws.set q0 (a, .inr (ci, fs.set k v))) A s H1 locs1 → W p l e R s m args below meth c H1 locs1 cells slots Q (F0 m (pc + 3) ls rest)) : W p l e R s m args below meth c H locs cells slots Q (F0 m pc ls (v :: .ref a :: rest)) := by
  obtain ⟨ty0, hty⟩ := hcl.2.2.1
  exact va_putF hC.1 hC.2.1 hC.2.2.2.2 hcl.2.1 ty0 hty hcl.2.2.2 hC.2.2.2.1 hw.2.2.2.1 hw.1 hw.2.1 hw.2.2.1 q0 he hcl.1 k hk (hC.2.2.2.2 _ hl) (fun _ h => h) hfin hin hde hd hn hfit hle hdg (fun H1 locs1 h1 h2 h3 => kk H1 locs1 ⟨h1, h2, h3, hw.2.2.2⟩)
variable {cA : ClassId} {n : Nat} {f : Nat → Int32} {i x : Int32}
theorem ga_iald (hC : CallFix p m c cc nL s args ga_T own) (hw : ga_w K ws A s H locs) (q0 t0 : Nat) (ha : ws[q0]? = some (a, .inl (cA, n, .inl f))) (ht : K.2.1[t0]? = some (cA, .int)) (hin : vp_in i n) (hdg : decode cc pc = .ok (.iaload, 1))
    (kk : W p l e R s m args below meth c H locs cells slots Q (F0 m (pc + 1) ls (.int (f i.toNatClampNeg) :: rest))) : W p l e R s m args below meth c H locs cells slots Q (F0 m pc ls (.int i :: .ref a :: rest)) :=
  va_iald hC.1 hC.2.1 hw.2.2.2.1 hw.1 q0 t0 ha ht hin hdg kk
theorem ga_bald (hC : CallFix p m c cc nL s args ga_T own) (hw : ga_w K ws A s H locs) (q0 t0 : Nat) (ha : ws[q0]? = some (a, .inl (cA, n, .inl f))) (ht : K.2.1[t0]? = some (cA, .byte)) (hin : vp_in i n) (hdg : decode cc pc = .ok (.baload, 1))
    (kk : W p l e R s m args below meth c H locs cells slots Q (F0 m (pc + 1) ls (.int (f i.toNatClampNeg) :: rest))) : W p l e R s m args below meth c H locs cells slots Q (F0 m pc ls (.int i :: .ref a :: rest)) :=
  va_bald hC.1 hC.2.1 hw.2.2.2.1 hw.1 q0 t0 ha ht hin hdg kk
theorem ga_iast (hC : CallFix p m c cc nL s args ga_T own) (hw : ga_w K ws A s H locs) (q0 t0 : Nat) (ha : ws[q0]? = some (a, .inl (cA, n, .inl f))) (ht : K.2.1[t0]? = some (cA, .int)) (hin : vp_in i n) (hdg : decode cc pc = .ok (.iastore, 1))
    (kk : ∀ (H1 : Heap) (locs1 : List Loc), ga_w K (ws.set q0 (a, .inl (cA, n, .inl (upd f i.toNatClampNeg x)))) A s H1 locs1 → W p l e R s m args below meth c H1 locs1 cells slots Q (F0 m (pc + 1) ls rest)) : W p l e R s m args below meth c H locs cells slots Q (F0 m pc ls (.int x :: .int i :: .ref a :: rest)) :=
  va_iast hC.1 hC.2.1 hw.2.2.2.1 hw.1 hw.2.1 hw.2.2.1 q0 t0 ha ht hin hdg (fun H1 locs1 h1 h2 h3 => kk H1 locs1 ⟨h1, h2, h3, hw.2.2.2⟩)
theorem ga_bast (hC : CallFix p m c cc nL s args ga_T own) (hw : ga_w K ws A s H locs) (q0 t0 : Nat) (ha : ws[q0]? = some (a, .inl (cA, n, .inl f))) (ht : K.2.1[t0]? = some (cA, .byte)) (hin : vp_in i n) (hdg : decode cc pc = .ok (.bastore, 1))
    (kk : ∀ (H1 : Heap) (locs1 : List Loc), ga_w K (ws.set q0 (a, .inl (cA, n, .inl (upd f i.toNatClampNeg (vp_nar .byte x))))) A s H1 locs1 → W p l e R s m args below meth c H1 locs1 cells slots Q (F0 m (pc + 1) ls rest)) : W p l e R s m args below meth c H locs cells slots Q (F0 m pc ls (.int x :: .int i :: .ref a :: rest)) :=
  va_bast hC.1 hC.2.1 hw.2.2.2.1 hw.1 hw.2.1 hw.2.2.1 q0 t0 ha ht hin hdg (fun H1 locs1 h1 h2 h3 => kk H1 locs1 ⟨h1, h2, h3, hw.2.2.2⟩)
theorem ga_alen {z : vp_A} {ty : FieldType} {w : Int32} (hC : CallFix p m c cc nL s args ga_T own) (hw : ga_w K ws A s H locs) (q0 t0 : Nat) (ha : ws[q0]? = some (a, .inl (cA, z))) (ht : K.2.1[t0]? = some (cA, ty)) (hv : Int32.ofNat z.1 = w) (hdg : decode cc pc = .ok (.arraylength, 1))
    (kk : W p l e R s m args below meth c H locs cells slots Q (F0 m (pc + 1) ls (.int w :: rest))) : W p l e R s m args below meth c H locs cells slots Q (F0 m pc ls (.ref a :: rest)) :=
  va_alen hC.1 hC.2.1 hw.2.2.2.1 hw.1 q0 t0 ha ht hv hdg kk
variable {g : Nat → Option Nat}
theorem ga_aald {C : String} (hC : CallFix p m c cc nL s args ga_T own) (hw : ga_w K ws A s H locs) (q0 t0 : Nat) (ha : ws[q0]? = some (a, .inl (cA, n, .inr (.inr (.inr (.inr g)))))) (ht : K.2.1[t0]? = some (cA, .object C)) (hin : vp_in i n) (hdg : decode cc pc = .ok (.aaload, 1))
    (kk : W p l e R s m args below meth c H locs cells slots Q (F0 m (pc + 1) ls (va_rf (g i.toNatClampNeg) :: rest))) : W p l e R s m args below meth c H locs cells slots Q (F0 m pc ls (.int i :: .ref a :: rest)) :=
  va_aldq hC.1 hC.2.1 hw.2.2.2.1 hw.1 q0 t0 ha ht hin hdg kk
theorem ga_aast {r : vw_C} {b : Nat} {vs : List Value} (hC : CallFix p m c cc nL s args ga_T own) (hw : ga_w K ws A s H locs) (q0 t0 qk ci : Nat) (ha : ws[q0]? = some (a, .inl (cA, n, .inr (.inr (.inr (.inr g)))))) (ht : K.2.1[t0]? = some (cA, .object r.1)) (hv : ws[qk]? = some (b, .inr (ci, vs))) (hc : classes[ci]? = some r) (hin : vp_in i n) (hdg : decode cc pc = .ok (.aastore, 1))
    (kk : ∀ (H1 : Heap) (locs1 : List Loc), ga_w K (ws.set q0 (a, .inl (cA, n, .inr (.inr (.inr (.inr (va_up g i.toNatClampNeg (some b)))))))) A s H1 locs1 → W p l e R s m args below meth c H1 locs1 cells slots Q (F0 m (pc + 1) ls rest)) : W p l e R s m args below meth c H locs cells slots Q (F0 m pc ls (.ref b :: .int i :: .ref a :: rest)) :=
  va_astq hC.1 hC.2.1 hw.2.2.2.1 hw.1 hw.2.1 hw.2.2.1 q0 t0 qk ci ha ht hv hc hin hdg (fun H1 locs1 h1 h2 h3 => kk H1 locs1 ⟨h1, h2, h3, hw.2.2.2⟩)
theorem ga_aastN {C : String} (hC : CallFix p m c cc nL s args ga_T own) (hw : ga_w K ws A s H locs) (q0 t0 : Nat) (ha : ws[q0]? = some (a, .inl (cA, n, .inr (.inr (.inr (.inr g)))))) (ht : K.2.1[t0]? = some (cA, .object C)) (hin : vp_in i n) (hdg : decode cc pc = .ok (.aastore, 1))
    (kk : ∀ (H1 : Heap) (locs1 : List Loc), ga_w K (ws.set q0 (a, .inl (cA, n, .inr (.inr (.inr (.inr (va_up g i.toNatClampNeg none))))))) A s H1 locs1 → W p l e R s m args below meth c H1 locs1 cells slots Q (F0 m (pc + 1) ls rest)) : W p l e R s m args below meth c H locs cells slots Q (F0 m pc ls (.null :: .int i :: .ref a :: rest)) :=
  va_astqN hC.1 hC.2.1 hw.2.2.2.1 hw.1 hw.2.1 hw.2.2.1 q0 t0 ha ht hin hdg (fun H1 locs1 h1 h2 h3 => kk H1 locs1 ⟨h1, h2, h3, hw.2.2.2⟩)
/-- new: a cell more, at the world's end -/
theorem ga_new (hC : CallFix p m c cc nL s args ga_T own) (hw : ga_w K ws A s H locs) (hcl : ga_Cl ci C T N) (ty : Nat → FieldType) (hty : ∀ k, k < N → parseFieldDescriptor (T k).2.2.1 = some (ty k)) (hk : Cond.classLink own idx C ∈ ga_T) (hi : Cond.instantiable C N ∈ ga_T) (hn : Cond.initialized C ∈ ga_T) (hfs : ∀ j, j < N → defaultValue (ty j) = vp_V fs j) (hcells : cells + 1 ≤ R.cells) (hslots : slots + N ≤ R.slots) (hdg : decode cc pc = .ok (.new idx, 3))
    (kk : ∀ (q : Nat) (H1 : Heap), ga_w K (ws ++ [(q, .inr (ci, fs))]) A s H1 locs → W p l e R s m args below meth c H1 locs (cells + 1) (slots + N) Q (F0 m (pc + 3) ls (.ref q :: rest))) : W p l e R s m args below meth c H locs cells slots Q (F0 m pc ls rest) :=
  va_new hC.1 hC.2.1 hC.2.2.2.2 hcl.2.1 ty hty hC.2.2.2.1 (hC.2.2.2.2 _ hk) (hC.2.2.2.2 _ hi) (hC.2.2.2.2 _ hn) hw.2.2.2.1 hw.1 hw.2.1 hw.2.2.1 hw.2.2.2.2.1 hcl.1 hfs hcells hslots hdg (fun q H1 h1 h2 h3 => kk q H1 ⟨h1, h2, h3, hw.2.2.2⟩)
end GH
end
section
/-! throw new E("text") in NetWires: the words, and one row for each of the three classes -/
def ga_nm : List String := ["java/lang/RuntimeException", "java/lang/Exception"]
theorem th_IAE : ∀ w ∈ (vx_atS "NetWires" 77 ga_IAE ga_nm).filter goodWord, w ∈ ga_T := by
  intro w hw
  have h : (vx_atS "NetWires" 77 ga_IAE ga_nm).filter goodWord = [8, 227, 236, 240, 243, 245, 228, 229, 23, 24, 230, 235, 241, 261, 217, 262, 219, 263, 221, 231, 233, 223, 257, 258, 260, 223, 248, 249, 250, 251, 251, 252, 253, 254, 254, 255, 256, 257, 247, 206, 214, 215, 216, 218, 220, 222, 226, 225, 224].filterMap (fun i => tables_1[i]?) := by decide +kernel
  have g := (List.mem_filter.mp hw).2
  rw [h] at hw
  obtain ⟨i, -, hi⟩ := List.mem_filterMap.mp hw
  exact ga_tb hi g
theorem th2_IAE : ∀ w ∈ (vx_atS "NetWires" 77 ga_IAE ga_nm).filter (fun w => !goodWord w), w ∈ ga_N := by decide +kernel
theorem th3_IAE : (Cond.classLink "NetWires" 73 ga_IAE :: Cond.initialized ga_IAE :: vx_atS "NetWires" 77 ga_IAE ga_nm).all vx_ot = true := by decide +kernel
theorem th4_IAE : Cond.initialized ga_IAE ∈ ga_T := ga_tb (i := 11) (by decide +kernel) rfl
theorem ga_thIAE {p : Program} {l : Launch} {e : Env} {R : Room} {s : State} {m : MethodId} {args : Array Value} {below : List Frame} {meth : Method} {c : Code} {H : Heap} {locs : List Loc} {cells slots : Nat} {cc : ByteArray} {pc nL mc ms sz is : Nat} {ls : Array Slot} {rest : List Value} {D : va_G} {tys : List (ClassId × FieldType)} {nb : Nat} {S : Type} {wx : S → va_W} {ws0 : va_W} {u : S} {tx : String} {px : String → S → Prop} {Qc : Array Value → State → Outcome → State → Prop}
    (hst : l.stackTraces = false) (hC : CallFix p m c cc nL s args ga_T "NetWires") (hT : ∀ x ∈ c.exceptionTable.toList, False) (hlocks : meth.locks = false) (hw : ga_w (D, tys, ga_stat nb) (wx u) (va_A ws0 sz) s H locs) (hls : ls.size = nL) (hs9 : ("NetWires", is, tx) ∈ ga_S) (hp : px ga_IAE u)
    (d0 : decode cc pc = .ok (.new 73, 3)) (d3 : decode cc (pc + 3) = .ok (.dup, 1)) (d4 : decode cc (pc + 4) = .ok (.ldc is, 2)) (d6 : decode cc (pc + 6) = .ok (.invokespecial 77, 3)) (d9 : decode cc (pc + 9) = .ok (.athrow, 1))
    (hRf : 5 < R.frames) (hRl : (rest.map fun v => v.category).sum + 82 ≤ R.locals) (hRc : cells + 1 ≤ R.cells) (hRs : slots + 6 ≤ R.slots) (hc : cells + 1 ≤ mc) (hs : slots + 6 ≤ ms) :
    W p l e R s m args below meth c H locs cells slots (vx_MQ below Qc (ga_XC (D, tys, ga_stat nb) ws0 sz wx px) args s mc ms (va_A ws0 sz)) (F0 m pc ls rest) := by
  obtain ⟨hx, hb, hml, hown, hts⟩ := hC
  obtain ⟨hP, hD, hS, hK, hA, hSt, hg⟩ := hw
  have hSt : ga_stat nb (va_A ws0 sz) s s.heap := hSt
  obtain ⟨h1, h2, h3, h4, h5, h6, h7, h8⟩ := hSt
  obtain ⟨sa, hsa⟩ := h6 _ hs9
  refine vx_throwS (names := ga_nm) (A := va_A ws0 sz) hx hb hst hown (by decide +kernel) (by decide +kernel) (hts _ kl_NetWires_73) (hts _ th4_IAE) hsa (vx_hat (fun w h => hts w (th_IAE w h)) th2_IAE (fun w h => (h5 w h).use (ga_N_tab h))) (fun w h => List.all_eq_true.mp th3_IAE w h) h3 h4 hS (by rw [hml]; exact hls) d0 d3 d4 d6 d9 (fun x hx => absurd (hT x hx) id) hRf hRl hRc hRs hlocks ?_ hS.2.2 hc hs
  intro t _ hle hq
  refine ⟨u, trivial, ⟨hp, hP.kept (fun j q h => hq q.1 (hP j q h).lt), hD⟩, Nat.le_trans hS.1 hle, fun q h1 h2 => ?_⟩
  rw [hq q (Nat.lt_of_lt_of_le h1 hS.1)]
  exact hS.2.1 q h1 h2
theorem th_ISE : ∀ w ∈ (vx_atS "NetWires" 88 ga_ISE ga_nm).filter goodWord, w ∈ ga_T := by
  intro w hw
  have h : (vx_atS "NetWires" 88 ga_ISE ga_nm).filter goodWord = [8, 227, 236, 240, 243, 245, 228, 229, 23, 24, 230, 235, 241, 261, 217, 262, 219, 263, 221, 231, 233, 223, 257, 258, 260, 223, 287, 288, 289, 251, 251, 252, 253, 254, 254, 255, 256, 257, 286, 277, 279, 238, 280, 281, 282, 283, 226, 225, 284].filterMap (fun i => tables_1[i]?) := by decide +kernel
  have g := (List.mem_filter.mp hw).2
  rw [h] at hw
  obtain ⟨i, -, hi⟩ := List.mem_filterMap.mp hw
  exact ga_tb hi g
theorem th2_ISE : ∀ w ∈ (vx_atS "NetWires" 88 ga_ISE ga_nm).filter (fun w => !goodWord w), w ∈ ga_N := by decide +kernel
theorem th3_ISE : (Cond.classLink "NetWires" 84 ga_ISE :: Cond.initialized ga_ISE :: vx_atS "NetWires" 88 ga_ISE ga_nm).all vx_ot = true := by decide +kernel
theorem th4_ISE : Cond.initialized ga_ISE ∈ ga_T := ga_tb (i := 12) (by decide +kernel) rfl
theorem ga_thISE {p : Program} {l : Launch} {e : Env} {R : Room} {s : State} {m : MethodId} {args : Array Value} {below : List Frame} {meth : Method} {c : Code} {H : Heap} {locs : List Loc} {cells slots : Nat} {cc : ByteArray} {pc nL mc ms sz is : Nat} {ls : Array Slot} {rest : List Value} {D : va_G} {tys : List (ClassId × FieldType)} {nb : Nat} {S : Type} {wx : S → va_W} {ws0 : va_W} {u : S} {tx : String} {px : String → S → Prop} {Qc : Array Value → State → Outcome → State → Prop}
    (hst : l.stackTraces = false) (hC : CallFix p m c cc nL s args ga_T "NetWires") (hT : ∀ x ∈ c.exceptionTable.toList, False) (hlocks : meth.locks = false) (hw : ga_w (D, tys, ga_stat nb) (wx u) (va_A ws0 sz) s H locs) (hls : ls.size = nL) (hs9 : ("NetWires", is, tx) ∈ ga_S) (hp : px ga_ISE u)
    (d0 : decode cc pc = .ok (.new 84, 3)) (d3 : decode cc (pc + 3) = .ok (.dup, 1)) (d4 : decode cc (pc + 4) = .ok (.ldc is, 2)) (d6 : decode cc (pc + 6) = .ok (.invokespecial 88, 3)) (d9 : decode cc (pc + 9) = .ok (.athrow, 1))
    (hRf : 5 < R.frames) (hRl : (rest.map fun v => v.category).sum + 82 ≤ R.locals) (hRc : cells + 1 ≤ R.cells) (hRs : slots + 6 ≤ R.slots) (hc : cells + 1 ≤ mc) (hs : slots + 6 ≤ ms) :
    W p l e R s m args below meth c H locs cells slots (vx_MQ below Qc (ga_XC (D, tys, ga_stat nb) ws0 sz wx px) args s mc ms (va_A ws0 sz)) (F0 m pc ls rest) := by
  obtain ⟨hx, hb, hml, hown, hts⟩ := hC
  obtain ⟨hP, hD, hS, hK, hA, hSt, hg⟩ := hw
  have hSt : ga_stat nb (va_A ws0 sz) s s.heap := hSt
  obtain ⟨h1, h2, h3, h4, h5, h6, h7, h8⟩ := hSt
  obtain ⟨sa, hsa⟩ := h6 _ hs9
  refine vx_throwS (names := ga_nm) (A := va_A ws0 sz) hx hb hst hown (by decide +kernel) (by decide +kernel) (hts _ kl_NetWires_84) (hts _ th4_ISE) hsa (vx_hat (fun w h => hts w (th_ISE w h)) th2_ISE (fun w h => (h5 w h).use (ga_N_tab h))) (fun w h => List.all_eq_true.mp th3_ISE w h) h3 h4 hS (by rw [hml]; exact hls) d0 d3 d4 d6 d9 (fun x hx => absurd (hT x hx) id) hRf hRl hRc hRs hlocks ?_ hS.2.2 hc hs
  intro t _ hle hq
  refine ⟨u, trivial, ⟨hp, hP.kept (fun j q h => hq q.1 (hP j q h).lt), hD⟩, Nat.le_trans hS.1 hle, fun q h1 h2 => ?_⟩
  rw [hq q (Nat.lt_of_lt_of_le h1 hS.1)]
  exact hS.2.1 q h1 h2
theorem th_IOB : ∀ w ∈ (vx_atS "NetWires" 195 ga_IOB ga_nm).filter goodWord, w ∈ ga_T := by
  intro w hw
  have h : (vx_atS "NetWires" 195 ga_IOB ga_nm).filter goodWord = [8, 227, 236, 240, 243, 245, 228, 229, 23, 24, 230, 235, 241, 261, 217, 262, 219, 263, 221, 231, 233, 223, 257, 258, 260, 223, 343, 344, 345, 251, 251, 252, 253, 254, 254, 255, 256, 257, 342, 333, 335, 239, 336, 337, 338, 339, 226, 225, 340].filterMap (fun i => tables_1[i]?) := by decide +kernel
  have g := (List.mem_filter.mp hw).2
  rw [h] at hw
  obtain ⟨i, -, hi⟩ := List.mem_filterMap.mp hw
  exact ga_tb hi g
theorem th2_IOB : ∀ w ∈ (vx_atS "NetWires" 195 ga_IOB ga_nm).filter (fun w => !goodWord w), w ∈ ga_N := by decide +kernel
theorem th3_IOB : (Cond.classLink "NetWires" 191 ga_IOB :: Cond.initialized ga_IOB :: vx_atS "NetWires" 195 ga_IOB ga_nm).all vx_ot = true := by decide +kernel
theorem th4_IOB : Cond.initialized ga_IOB ∈ ga_T := ga_tb (i := 15) (by decide +kernel) rfl
theorem ga_thIOB {p : Program} {l : Launch} {e : Env} {R : Room} {s : State} {m : MethodId} {args : Array Value} {below : List Frame} {meth : Method} {c : Code} {H : Heap} {locs : List Loc} {cells slots : Nat} {cc : ByteArray} {pc nL mc ms sz is : Nat} {ls : Array Slot} {rest : List Value} {D : va_G} {tys : List (ClassId × FieldType)} {nb : Nat} {S : Type} {wx : S → va_W} {ws0 : va_W} {u : S} {tx : String} {px : String → S → Prop} {Qc : Array Value → State → Outcome → State → Prop}
    (hst : l.stackTraces = false) (hC : CallFix p m c cc nL s args ga_T "NetWires") (hT : ∀ x ∈ c.exceptionTable.toList, False) (hlocks : meth.locks = false) (hw : ga_w (D, tys, ga_stat nb) (wx u) (va_A ws0 sz) s H locs) (hls : ls.size = nL) (hs9 : ("NetWires", is, tx) ∈ ga_S) (hp : px ga_IOB u)
    (d0 : decode cc pc = .ok (.new 191, 3)) (d3 : decode cc (pc + 3) = .ok (.dup, 1)) (d4 : decode cc (pc + 4) = .ok (.ldc is, 2)) (d6 : decode cc (pc + 6) = .ok (.invokespecial 195, 3)) (d9 : decode cc (pc + 9) = .ok (.athrow, 1))
    (hRf : 5 < R.frames) (hRl : (rest.map fun v => v.category).sum + 82 ≤ R.locals) (hRc : cells + 1 ≤ R.cells) (hRs : slots + 6 ≤ R.slots) (hc : cells + 1 ≤ mc) (hs : slots + 6 ≤ ms) :
    W p l e R s m args below meth c H locs cells slots (vx_MQ below Qc (ga_XC (D, tys, ga_stat nb) ws0 sz wx px) args s mc ms (va_A ws0 sz)) (F0 m pc ls rest) := by
  obtain ⟨hx, hb, hml, hown, hts⟩ := hC
  obtain ⟨hP, hD, hS, hK, hA, hSt, hg⟩ := hw
  have hSt : ga_stat nb (va_A ws0 sz) s s.heap := hSt
  obtain ⟨h1, h2, h3, h4, h5, h6, h7, h8⟩ := hSt
  obtain ⟨sa, hsa⟩ := h6 _ hs9
  refine vx_throwS (names := ga_nm) (A := va_A ws0 sz) hx hb hst hown (by decide +kernel) (by decide +kernel) (hts _ kl_NetWires_191) (hts _ th4_IOB) hsa (vx_hat (fun w h => hts w (th_IOB w h)) th2_IOB (fun w h => (h5 w h).use (ga_N_tab h))) (fun w h => List.all_eq_true.mp th3_IOB w h) h3 h4 hS (by rw [hml]; exact hls) d0 d3 d4 d6 d9 (fun x hx => absurd (hT x hx) id) hRf hRl hRc hRs hlocks ?_ hS.2.2 hc hs
  intro t _ hle hq
  refine ⟨u, trivial, ⟨hp, hP.kept (fun j q h => hq q.1 (hP j q h).lt), hD⟩, Nat.le_trans hS.1 hle, fun q h1 h2 => ?_⟩
  rw [hq q (Nat.lt_of_lt_of_le h1 hS.1)]
  exact hS.2.1 q h1 h2
end
section
/-! The world of a NetWires object. k = (class numbers and slots, array classes, addresses: 0 the object, 1 tape, 2 its bytes, 3 agenda, 4 its events, 5 history, 6 its facts, 7 noise, 8 delays, 9 NO_BYTES); x = (ints: 0 now 1 nextNumber 2 partedSet 3 downSet 4 everOnWay 5 lost 6 tape.length 7 agenda.size 8 agenda.messages 9 newest 10 kept 11 total 12 loss 13 twice 14 spread; draw; tape; events; facts; delays; arrivedBytes; the pool of events and byte arrays) -/
abbrev xa_k : Type := va_G × (Nat → ClassId) × (Nat → Nat)
abbrev xa_a (k : xa_k) (i : Nat) : Nat := k.2.2 i
abbrev XS : Type := (Nat → Int32) × Int64 × (Nat → Int32) × (Nat → Option Nat) × (Nat → Int32) × (Nat → Int32) × Nat × List Nat × (Nat → va_E)
abbrev xa_D (x : XS) : Int64 := x.2.1
abbrev xa_T (x : XS) : Nat → Int32 := x.2.2.1
abbrev xa_E (x : XS) : Nat → Option Nat := x.2.2.2.1
abbrev xa_F (x : XS) : Nat → Int32 := x.2.2.2.2.1
abbrev xa_L (x : XS) : Nat → Int32 := x.2.2.2.2.2.1
abbrev xa_B (x : XS) : Nat := x.2.2.2.2.2.2.1
abbrev xa_P (x : XS) : List Nat × (Nat → va_E) := x.2.2.2.2.2.2.2
def xa_sI (x : XS) (i : Nat) (v : Int32) : XS := (upd x.1 i v, x.2)
def xa_sD (x : XS) (v : Int64) : XS := (x.1, v, x.2.2)
def xa_sT (x : XS) (v : Nat → Int32) : XS := (x.1, x.2.1, v, x.2.2.2)
def xa_sE (x : XS) (v : Nat → Option Nat) : XS := (x.1, x.2.1, x.2.2.1, v, x.2.2.2.2)
def xa_sF (x : XS) (v : Nat → Int32) : XS := (x.1, x.2.1, x.2.2.1, x.2.2.2.1, v, x.2.2.2.2.2)
def xa_sL (x : XS) (v : Nat → Int32) : XS := (x.1, x.2.1, x.2.2.1, x.2.2.2.1, x.2.2.2.2.1, v, x.2.2.2.2.2.2)
def xa_sB (x : XS) (v : Nat) : XS := (x.1, x.2.1, x.2.2.1, x.2.2.2.1, x.2.2.2.2.1, x.2.2.2.2.2.1, v, x.2.2.2.2.2.2.2)
def xa_sP (x : XS) (v : List Nat × (Nat → va_E)) : XS := (x.1, x.2.1, x.2.2.1, x.2.2.2.1, x.2.2.2.2.1, x.2.2.2.2.2.1, x.2.2.2.2.2.2.1, v)
def xa_C (k : xa_k) (x : XS) : va_W := [(xa_a k 0, .inr (0, [.ref (xa_a k 1), .ref (xa_a k 3), .ref (xa_a k 5), .ref (xa_a k 7), .ref (xa_a k 8), .int (x.1 0), .int (x.1 1), .int (x.1 2), .int (x.1 3), .int (x.1 4), .int (x.1 5), .ref (xa_B x)])), (xa_a k 1, .inr (1, [.ref (xa_a k 2), .int (x.1 6)])), (xa_a k 2, .inl (k.2.1 0, 2048, .inl (xa_T x))), (xa_a k 3, .inr (2, [.ref (xa_a k 4), .int (x.1 7), .int (x.1 8)])), (xa_a k 4, .inl (k.2.1 2, 232, .inr (.inr (.inr (.inr (xa_E x)))))), (xa_a k 5, .inr (3, [.ref (xa_a k 6), .int (x.1 9), .int (x.1 10), .int (x.1 11)])), (xa_a k 6, .inl (k.2.1 1, 128, .inl (xa_F x))), (xa_a k 7, .inr (4, [.int (x.1 12), .int (x.1 13), .int (x.1 14), .long (xa_D x)])), (xa_a k 8, .inl (k.2.1 1, 256, .inl (xa_L x)))]
def xa_W (k : xa_k) (x : XS) : va_W := xa_C k x ++ va_pl (xa_P x).1 (xa_P x).2
def xa_ty (k : xa_k) : List (ClassId × FieldType) := [(k.2.1 0, .byte), (k.2.1 1, .int), (k.2.1 2, .object "NetWires$Event")]
def xa_K (k : xa_k) : ga_K := (k.1, xa_ty k, ga_stat (xa_a k 9))
/-- an event of the pool: its ints (0 kind 1 endpoint 2 from 3 time 4 number) and the address of its bytes -/
def xa_ev (v : Nat → Int32) (b : Nat) : va_E := .inr (5, [.int (v 0), .int (v 1), .int (v 2), .int (v 3), .int (v 4), .ref b])
def xa_isE (P : List Nat × (Nat → va_E)) (a : Nat) (v : Nat → Int32) (b : Nat) : Prop := a ∈ P.1 ∧ P.2 a = xa_ev v b
/-- a row of n bytes f: in the pool, or NO_BYTES -/
def xa_isB (k : xa_k) (P : List Nat × (Nat → va_E)) (b n : Nat) (f : Nat → Int32) : Prop := (b ∈ P.1 ∧ P.2 b = .inl (k.2.1 0, n, .inl f)) ∨ (b = xa_a k 9 ∧ n = 0)
section XW
variable {p : Program} {l : Launch} {e : Env} {R : Room} {s : State} {m : MethodId} {args : Array Value} {below : List Frame} {meth : Method} {c : Code} {H : Heap} {locs : List Loc} {cells slots : Nat} {Q : State → Prop}
variable {cc : ByteArray} {pc nL idx : Nat} {ls : Array Slot} {rest : List Value} {k : xa_k} {x : XS} {A : Nat → Prop} {own : String}
theorem xg_NetWires_tape (hC : CallFix p m c cc nL s args ga_T own) (hw : ga_w (xa_K k) (xa_W k x) A s H locs) (hl : Cond.fieldLink own idx "NetWires" "tape" "LNetWires$Tape;" ∈ ga_T) (hdg : decode cc pc = .ok (.getfield idx, 3))
    (kk : W p l e R s m args below meth c H locs cells slots Q (F0 m (pc + 3) ls (.ref (xa_a k 1) :: rest))) : W p l e R s m args below meth c H locs cells slots Q (F0 m pc ls (.ref (xa_a k 0) :: rest)) :=
  ga_get hC hw cl_NetWires 0 rfl 0 (by decide) hl rfl hdg kk
theorem xg_NetWires_agenda (hC : CallFix p m c cc nL s args ga_T own) (hw : ga_w (xa_K k) (xa_W k x) A s H locs) (hl : Cond.fieldLink own idx "NetWires" "agenda" "LNetWires$Agenda;" ∈ ga_T) (hdg : decode cc pc = .ok (.getfield idx, 3))
    (kk : W p l e R s m args below meth c H locs cells slots Q (F0 m (pc + 3) ls (.ref (xa_a k 3) :: rest))) : W p l e R s m args below meth c H locs cells slots Q (F0 m pc ls (.ref (xa_a k 0) :: rest)) :=
  ga_get hC hw cl_NetWires 0 rfl 1 (by decide) hl rfl hdg kk
theorem xg_NetWires_history (hC : CallFix p m c cc nL s args ga_T own) (hw : ga_w (xa_K k) (xa_W k x) A s H locs) (hl : Cond.fieldLink own idx "NetWires" "history" "LNetWires$History;" ∈ ga_T) (hdg : decode cc pc = .ok (.getfield idx, 3))
    (kk : W p l e R s m args below meth c H locs cells slots Q (F0 m (pc + 3) ls (.ref (xa_a k 5) :: rest))) : W p l e R s m args below meth c H locs cells slots Q (F0 m pc ls (.ref (xa_a k 0) :: rest)) :=
  ga_get hC hw cl_NetWires 0 rfl 2 (by decide) hl rfl hdg kk
theorem xg_NetWires_disturbance (hC : CallFix p m c cc nL s args ga_T own) (hw : ga_w (xa_K k) (xa_W k x) A s H locs) (hl : Cond.fieldLink own idx "NetWires" "disturbance" "LNetWires$Noise;" ∈ ga_T) (hdg : decode cc pc = .ok (.getfield idx, 3))
    (kk : W p l e R s m args below meth c H locs cells slots Q (F0 m (pc + 3) ls (.ref (xa_a k 7) :: rest))) : W p l e R s m args below meth c H locs cells slots Q (F0 m pc ls (.ref (xa_a k 0) :: rest)) :=
  ga_get hC hw cl_NetWires 0 rfl 3 (by decide) hl rfl hdg kk
theorem xg_NetWires_delays (hC : CallFix p m c cc nL s args ga_T own) (hw : ga_w (xa_K k) (xa_W k x) A s H locs) (hl : Cond.fieldLink own idx "NetWires" "delays" "[I" ∈ ga_T) (hdg : decode cc pc = .ok (.getfield idx, 3))
    (kk : W p l e R s m args below meth c H locs cells slots Q (F0 m (pc + 3) ls (.ref (xa_a k 8) :: rest))) : W p l e R s m args below meth c H locs cells slots Q (F0 m pc ls (.ref (xa_a k 0) :: rest)) :=
  ga_get hC hw cl_NetWires 0 rfl 4 (by decide) hl rfl hdg kk
theorem xg_NetWires_now (hC : CallFix p m c cc nL s args ga_T own) (hw : ga_w (xa_K k) (xa_W k x) A s H locs) {v : Int32} (hl : Cond.fieldLink own idx "NetWires" "now" "I" ∈ ga_T) (hdg : decode cc pc = .ok (.getfield idx, 3)) (hv : x.1 0 = v)
    (kk : W p l e R s m args below meth c H locs cells slots Q (F0 m (pc + 3) ls (.int v :: rest))) : W p l e R s m args below meth c H locs cells slots Q (F0 m pc ls (.ref (xa_a k 0) :: rest)) :=
  ga_get hC hw cl_NetWires 0 rfl 5 (by decide) hl (by rw [← hv]; rfl) hdg kk
theorem xp_NetWires_now (hC : CallFix p m c cc nL s args ga_T own) (hw : ga_w (xa_K k) (xa_W k x) A s H locs) {v : Int32} (hl : Cond.fieldLink own idx "NetWires" "now" "I" ∈ ga_T) (hdg : decode cc pc = .ok (.putfield idx, 3))
    (kk : ∀ (H1 : Heap) (locs1 : List Loc), ga_w (xa_K k) (xa_W k (xa_sI x 0 v)) A s H1 locs1 → W p l e R s m args below meth c H1 locs1 cells slots Q (F0 m (pc + 3) ls rest)) : W p l e R s m args below meth c H locs cells slots Q (F0 m pc ls (.int v :: .ref (xa_a k 0) :: rest)) :=
  ga_put (ty := .int) hC hw cl_NetWires 0 rfl 5 (by decide) hl rfl (by decide +kernel) rfl rfl (Nat.le_of_ble_eq_true rfl) hdg (fun H1 locs1 h => kk H1 locs1 h)
theorem xg_NetWires_nextNumber (hC : CallFix p m c cc nL s args ga_T own) (hw : ga_w (xa_K k) (xa_W k x) A s H locs) {v : Int32} (hl : Cond.fieldLink own idx "NetWires" "nextNumber" "I" ∈ ga_T) (hdg : decode cc pc = .ok (.getfield idx, 3)) (hv : x.1 1 = v)
    (kk : W p l e R s m args below meth c H locs cells slots Q (F0 m (pc + 3) ls (.int v :: rest))) : W p l e R s m args below meth c H locs cells slots Q (F0 m pc ls (.ref (xa_a k 0) :: rest)) :=
  ga_get hC hw cl_NetWires 0 rfl 6 (by decide) hl (by rw [← hv]; rfl) hdg kk
theorem xp_NetWires_nextNumber (hC : CallFix p m c cc nL s args ga_T own) (hw : ga_w (xa_K k) (xa_W k x) A s H locs) {v : Int32} (hl : Cond.fieldLink own idx "NetWires" "nextNumber" "I" ∈ ga_T) (hdg : decode cc pc = .ok (.putfield idx, 3))
    (kk : ∀ (H1 : Heap) (locs1 : List Loc), ga_w (xa_K k) (xa_W k (xa_sI x 1 v)) A s H1 locs1 → W p l e R s m args below meth c H1 locs1 cells slots Q (F0 m (pc + 3) ls rest)) : W p l e R s m args below meth c H locs cells slots Q (F0 m pc ls (.int v :: .ref (xa_a k 0) :: rest)) :=
  ga_put (ty := .int) hC hw cl_NetWires 0 rfl 6 (by decide) hl rfl (by decide +kernel) rfl rfl (Nat.le_of_ble_eq_true rfl) hdg (fun H1 locs1 h => kk H1 locs1 h)
theorem xg_NetWires_partedSet (hC : CallFix p m c cc nL s args ga_T own) (hw : ga_w (xa_K k) (xa_W k x) A s H locs) {v : Int32} (hl : Cond.fieldLink own idx "NetWires" "partedSet" "I" ∈ ga_T) (hdg : decode cc pc = .ok (.getfield idx, 3)) (hv : x.1 2 = v)
    (kk : W p l e R s m args below meth c H locs cells slots Q (F0 m (pc + 3) ls (.int v :: rest))) : W p l e R s m args below meth c H locs cells slots Q (F0 m pc ls (.ref (xa_a k 0) :: rest)) :=
  ga_get hC hw cl_NetWires 0 rfl 7 (by decide) hl (by rw [← hv]; rfl) hdg kk
theorem xp_NetWires_partedSet (hC : CallFix p m c cc nL s args ga_T own) (hw : ga_w (xa_K k) (xa_W k x) A s H locs) {v : Int32} (hl : Cond.fieldLink own idx "NetWires" "partedSet" "I" ∈ ga_T) (hdg : decode cc pc = .ok (.putfield idx, 3))
    (kk : ∀ (H1 : Heap) (locs1 : List Loc), ga_w (xa_K k) (xa_W k (xa_sI x 2 v)) A s H1 locs1 → W p l e R s m args below meth c H1 locs1 cells slots Q (F0 m (pc + 3) ls rest)) : W p l e R s m args below meth c H locs cells slots Q (F0 m pc ls (.int v :: .ref (xa_a k 0) :: rest)) :=
  ga_put (ty := .int) hC hw cl_NetWires 0 rfl 7 (by decide) hl rfl (by decide +kernel) rfl rfl (Nat.le_of_ble_eq_true rfl) hdg (fun H1 locs1 h => kk H1 locs1 h)
theorem xg_NetWires_downSet (hC : CallFix p m c cc nL s args ga_T own) (hw : ga_w (xa_K k) (xa_W k x) A s H locs) {v : Int32} (hl : Cond.fieldLink own idx "NetWires" "downSet" "I" ∈ ga_T) (hdg : decode cc pc = .ok (.getfield idx, 3)) (hv : x.1 3 = v)
    (kk : W p l e R s m args below meth c H locs cells slots Q (F0 m (pc + 3) ls (.int v :: rest))) : W p l e R s m args below meth c H locs cells slots Q (F0 m pc ls (.ref (xa_a k 0) :: rest)) :=
  ga_get hC hw cl_NetWires 0 rfl 8 (by decide) hl (by rw [← hv]; rfl) hdg kk
theorem xp_NetWires_downSet (hC : CallFix p m c cc nL s args ga_T own) (hw : ga_w (xa_K k) (xa_W k x) A s H locs) {v : Int32} (hl : Cond.fieldLink own idx "NetWires" "downSet" "I" ∈ ga_T) (hdg : decode cc pc = .ok (.putfield idx, 3))
    (kk : ∀ (H1 : Heap) (locs1 : List Loc), ga_w (xa_K k) (xa_W k (xa_sI x 3 v)) A s H1 locs1 → W p l e R s m args below meth c H1 locs1 cells slots Q (F0 m (pc + 3) ls rest)) : W p l e R s m args below meth c H locs cells slots Q (F0 m pc ls (.int v :: .ref (xa_a k 0) :: rest)) :=
  ga_put (ty := .int) hC hw cl_NetWires 0 rfl 8 (by decide) hl rfl (by decide +kernel) rfl rfl (Nat.le_of_ble_eq_true rfl) hdg (fun H1 locs1 h => kk H1 locs1 h)
theorem xg_NetWires_everOnWay (hC : CallFix p m c cc nL s args ga_T own) (hw : ga_w (xa_K k) (xa_W k x) A s H locs) {v : Int32} (hl : Cond.fieldLink own idx "NetWires" "everOnWay" "I" ∈ ga_T) (hdg : decode cc pc = .ok (.getfield idx, 3)) (hv : x.1 4 = v)
    (kk : W p l e R s m args below meth c H locs cells slots Q (F0 m (pc + 3) ls (.int v :: rest))) : W p l e R s m args below meth c H locs cells slots Q (F0 m pc ls (.ref (xa_a k 0) :: rest)) :=
  ga_get hC hw cl_NetWires 0 rfl 9 (by decide) hl (by rw [← hv]; rfl) hdg kk
theorem xp_NetWires_everOnWay (hC : CallFix p m c cc nL s args ga_T own) (hw : ga_w (xa_K k) (xa_W k x) A s H locs) {v : Int32} (hl : Cond.fieldLink own idx "NetWires" "everOnWay" "I" ∈ ga_T) (hdg : decode cc pc = .ok (.putfield idx, 3))
    (kk : ∀ (H1 : Heap) (locs1 : List Loc), ga_w (xa_K k) (xa_W k (xa_sI x 4 v)) A s H1 locs1 → W p l e R s m args below meth c H1 locs1 cells slots Q (F0 m (pc + 3) ls rest)) : W p l e R s m args below meth c H locs cells slots Q (F0 m pc ls (.int v :: .ref (xa_a k 0) :: rest)) :=
  ga_put (ty := .int) hC hw cl_NetWires 0 rfl 9 (by decide) hl rfl (by decide +kernel) rfl rfl (Nat.le_of_ble_eq_true rfl) hdg (fun H1 locs1 h => kk H1 locs1 h)
theorem xg_NetWires_lost (hC : CallFix p m c cc nL s args ga_T own) (hw : ga_w (xa_K k) (xa_W k x) A s H locs) {v : Int32} (hl : Cond.fieldLink own idx "NetWires" "lost" "I" ∈ ga_T) (hdg : decode cc pc = .ok (.getfield idx, 3)) (hv : x.1 5 = v)
    (kk : W p l e R s m args below meth c H locs cells slots Q (F0 m (pc + 3) ls (.int v :: rest))) : W p l e R s m args below meth c H locs cells slots Q (F0 m pc ls (.ref (xa_a k 0) :: rest)) :=
  ga_get hC hw cl_NetWires 0 rfl 10 (by decide) hl (by rw [← hv]; rfl) hdg kk
theorem xp_NetWires_lost (hC : CallFix p m c cc nL s args ga_T own) (hw : ga_w (xa_K k) (xa_W k x) A s H locs) {v : Int32} (hl : Cond.fieldLink own idx "NetWires" "lost" "I" ∈ ga_T) (hdg : decode cc pc = .ok (.putfield idx, 3))
    (kk : ∀ (H1 : Heap) (locs1 : List Loc), ga_w (xa_K k) (xa_W k (xa_sI x 5 v)) A s H1 locs1 → W p l e R s m args below meth c H1 locs1 cells slots Q (F0 m (pc + 3) ls rest)) : W p l e R s m args below meth c H locs cells slots Q (F0 m pc ls (.int v :: .ref (xa_a k 0) :: rest)) :=
  ga_put (ty := .int) hC hw cl_NetWires 0 rfl 10 (by decide) hl rfl (by decide +kernel) rfl rfl (Nat.le_of_ble_eq_true rfl) hdg (fun H1 locs1 h => kk H1 locs1 h)
theorem xg_NetWires_arrivedBytes (hC : CallFix p m c cc nL s args ga_T own) (hw : ga_w (xa_K k) (xa_W k x) A s H locs) {v : Nat} (hl : Cond.fieldLink own idx "NetWires" "arrivedBytes" "[B" ∈ ga_T) (hdg : decode cc pc = .ok (.getfield idx, 3)) (hv : xa_B x = v)
    (kk : W p l e R s m args below meth c H locs cells slots Q (F0 m (pc + 3) ls (.ref v :: rest))) : W p l e R s m args below meth c H locs cells slots Q (F0 m pc ls (.ref (xa_a k 0) :: rest)) :=
  ga_get hC hw cl_NetWires 0 rfl 11 (by decide) hl (by rw [← hv]; rfl) hdg kk
theorem xp_NetWires_arrivedBytes (hC : CallFix p m c cc nL s args ga_T own) (hw : ga_w (xa_K k) (xa_W k x) A s H locs) {v : Nat} (hl : Cond.fieldLink own idx "NetWires" "arrivedBytes" "[B" ∈ ga_T) (hdg : decode cc pc = .ok (.putfield idx, 3))
    (kk : ∀ (H1 : Heap) (locs1 : List Loc), ga_w (xa_K k) (xa_W k (xa_sB x v)) A s H1 locs1 → W p l e R s m args below meth c H1 locs1 cells slots Q (F0 m (pc + 3) ls rest)) : W p l e R s m args below meth c H locs cells slots Q (F0 m pc ls (.ref v :: .ref (xa_a k 0) :: rest)) :=
  ga_put (ty := .array .byte) hC hw cl_NetWires 0 rfl 11 (by decide) hl rfl (by decide +kernel) rfl rfl (Nat.le_of_ble_eq_true rfl) hdg (fun H1 locs1 h => kk H1 locs1 h)
theorem xg_Tape_bytes (hC : CallFix p m c cc nL s args ga_T own) (hw : ga_w (xa_K k) (xa_W k x) A s H locs) (hl : Cond.fieldLink own idx "NetWires$Tape" "bytes" "[B" ∈ ga_T) (hdg : decode cc pc = .ok (.getfield idx, 3))
    (kk : W p l e R s m args below meth c H locs cells slots Q (F0 m (pc + 3) ls (.ref (xa_a k 2) :: rest))) : W p l e R s m args below meth c H locs cells slots Q (F0 m pc ls (.ref (xa_a k 1) :: rest)) :=
  ga_get hC hw cl_Tape 1 rfl 0 (by decide) hl rfl hdg kk
theorem xg_Tape_length (hC : CallFix p m c cc nL s args ga_T own) (hw : ga_w (xa_K k) (xa_W k x) A s H locs) {v : Int32} (hl : Cond.fieldLink own idx "NetWires$Tape" "length" "I" ∈ ga_T) (hdg : decode cc pc = .ok (.getfield idx, 3)) (hv : x.1 6 = v)
    (kk : W p l e R s m args below meth c H locs cells slots Q (F0 m (pc + 3) ls (.int v :: rest))) : W p l e R s m args below meth c H locs cells slots Q (F0 m pc ls (.ref (xa_a k 1) :: rest)) :=
  ga_get hC hw cl_Tape 1 rfl 1 (by decide) hl (by rw [← hv]; rfl) hdg kk
theorem xp_Tape_length (hC : CallFix p m c cc nL s args ga_T own) (hw : ga_w (xa_K k) (xa_W k x) A s H locs) {v : Int32} (hl : Cond.fieldLink own idx "NetWires$Tape" "length" "I" ∈ ga_T) (hdg : decode cc pc = .ok (.putfield idx, 3))
    (kk : ∀ (H1 : Heap) (locs1 : List Loc), ga_w (xa_K k) (xa_W k (xa_sI x 6 v)) A s H1 locs1 → W p l e R s m args below meth c H1 locs1 cells slots Q (F0 m (pc + 3) ls rest)) : W p l e R s m args below meth c H locs cells slots Q (F0 m pc ls (.int v :: .ref (xa_a k 1) :: rest)) :=
  ga_put (ty := .int) hC hw cl_Tape 1 rfl 1 (by decide) hl rfl (by decide +kernel) rfl rfl (Nat.le_of_ble_eq_true rfl) hdg (fun H1 locs1 h => kk H1 locs1 h)
theorem xg_Agenda_events (hC : CallFix p m c cc nL s args ga_T own) (hw : ga_w (xa_K k) (xa_W k x) A s H locs) (hl : Cond.fieldLink own idx "NetWires$Agenda" "events" "[LNetWires$Event;" ∈ ga_T) (hdg : decode cc pc = .ok (.getfield idx, 3))
    (kk : W p l e R s m args below meth c H locs cells slots Q (F0 m (pc + 3) ls (.ref (xa_a k 4) :: rest))) : W p l e R s m args below meth c H locs cells slots Q (F0 m pc ls (.ref (xa_a k 3) :: rest)) :=
  ga_get hC hw cl_Agenda 3 rfl 0 (by decide) hl rfl hdg kk
theorem xg_Agenda_size (hC : CallFix p m c cc nL s args ga_T own) (hw : ga_w (xa_K k) (xa_W k x) A s H locs) {v : Int32} (hl : Cond.fieldLink own idx "NetWires$Agenda" "size" "I" ∈ ga_T) (hdg : decode cc pc = .ok (.getfield idx, 3)) (hv : x.1 7 = v)
    (kk : W p l e R s m args below meth c H locs cells slots Q (F0 m (pc + 3) ls (.int v :: rest))) : W p l e R s m args below meth c H locs cells slots Q (F0 m pc ls (.ref (xa_a k 3) :: rest)) :=
  ga_get hC hw cl_Agenda 3 rfl 1 (by decide) hl (by rw [← hv]; rfl) hdg kk
theorem xp_Agenda_size (hC : CallFix p m c cc nL s args ga_T own) (hw : ga_w (xa_K k) (xa_W k x) A s H locs) {v : Int32} (hl : Cond.fieldLink own idx "NetWires$Agenda" "size" "I" ∈ ga_T) (hdg : decode cc pc = .ok (.putfield idx, 3))
    (kk : ∀ (H1 : Heap) (locs1 : List Loc), ga_w (xa_K k) (xa_W k (xa_sI x 7 v)) A s H1 locs1 → W p l e R s m args below meth c H1 locs1 cells slots Q (F0 m (pc + 3) ls rest)) : W p l e R s m args below meth c H locs cells slots Q (F0 m pc ls (.int v :: .ref (xa_a k 3) :: rest)) :=
  ga_put (ty := .int) hC hw cl_Agenda 3 rfl 1 (by decide) hl rfl (by decide +kernel) rfl rfl (Nat.le_of_ble_eq_true rfl) hdg (fun H1 locs1 h => kk H1 locs1 h)
theorem xg_Agenda_messages (hC : CallFix p m c cc nL s args ga_T own) (hw : ga_w (xa_K k) (xa_W k x) A s H locs) {v : Int32} (hl : Cond.fieldLink own idx "NetWires$Agenda" "messages" "I" ∈ ga_T) (hdg : decode cc pc = .ok (.getfield idx, 3)) (hv : x.1 8 = v)
    (kk : W p l e R s m args below meth c H locs cells slots Q (F0 m (pc + 3) ls (.int v :: rest))) : W p l e R s m args below meth c H locs cells slots Q (F0 m pc ls (.ref (xa_a k 3) :: rest)) :=
  ga_get hC hw cl_Agenda 3 rfl 2 (by decide) hl (by rw [← hv]; rfl) hdg kk
theorem xp_Agenda_messages (hC : CallFix p m c cc nL s args ga_T own) (hw : ga_w (xa_K k) (xa_W k x) A s H locs) {v : Int32} (hl : Cond.fieldLink own idx "NetWires$Agenda" "messages" "I" ∈ ga_T) (hdg : decode cc pc = .ok (.putfield idx, 3))
    (kk : ∀ (H1 : Heap) (locs1 : List Loc), ga_w (xa_K k) (xa_W k (xa_sI x 8 v)) A s H1 locs1 → W p l e R s m args below meth c H1 locs1 cells slots Q (F0 m (pc + 3) ls rest)) : W p l e R s m args below meth c H locs cells slots Q (F0 m pc ls (.int v :: .ref (xa_a k 3) :: rest)) :=
  ga_put (ty := .int) hC hw cl_Agenda 3 rfl 2 (by decide) hl rfl (by decide +kernel) rfl rfl (Nat.le_of_ble_eq_true rfl) hdg (fun H1 locs1 h => kk H1 locs1 h)
theorem xg_History_facts (hC : CallFix p m c cc nL s args ga_T own) (hw : ga_w (xa_K k) (xa_W k x) A s H locs) (hl : Cond.fieldLink own idx "NetWires$History" "facts" "[I" ∈ ga_T) (hdg : decode cc pc = .ok (.getfield idx, 3))
    (kk : W p l e R s m args below meth c H locs cells slots Q (F0 m (pc + 3) ls (.ref (xa_a k 6) :: rest))) : W p l e R s m args below meth c H locs cells slots Q (F0 m pc ls (.ref (xa_a k 5) :: rest)) :=
  ga_get hC hw cl_History 5 rfl 0 (by decide) hl rfl hdg kk
theorem xg_History_newest (hC : CallFix p m c cc nL s args ga_T own) (hw : ga_w (xa_K k) (xa_W k x) A s H locs) {v : Int32} (hl : Cond.fieldLink own idx "NetWires$History" "newest" "I" ∈ ga_T) (hdg : decode cc pc = .ok (.getfield idx, 3)) (hv : x.1 9 = v)
    (kk : W p l e R s m args below meth c H locs cells slots Q (F0 m (pc + 3) ls (.int v :: rest))) : W p l e R s m args below meth c H locs cells slots Q (F0 m pc ls (.ref (xa_a k 5) :: rest)) :=
  ga_get hC hw cl_History 5 rfl 1 (by decide) hl (by rw [← hv]; rfl) hdg kk
theorem xp_History_newest (hC : CallFix p m c cc nL s args ga_T own) (hw : ga_w (xa_K k) (xa_W k x) A s H locs) {v : Int32} (hl : Cond.fieldLink own idx "NetWires$History" "newest" "I" ∈ ga_T) (hdg : decode cc pc = .ok (.putfield idx, 3))
    (kk : ∀ (H1 : Heap) (locs1 : List Loc), ga_w (xa_K k) (xa_W k (xa_sI x 9 v)) A s H1 locs1 → W p l e R s m args below meth c H1 locs1 cells slots Q (F0 m (pc + 3) ls rest)) : W p l e R s m args below meth c H locs cells slots Q (F0 m pc ls (.int v :: .ref (xa_a k 5) :: rest)) :=
  ga_put (ty := .int) hC hw cl_History 5 rfl 1 (by decide) hl rfl (by decide +kernel) rfl rfl (Nat.le_of_ble_eq_true rfl) hdg (fun H1 locs1 h => kk H1 locs1 h)
theorem xg_History_kept (hC : CallFix p m c cc nL s args ga_T own) (hw : ga_w (xa_K k) (xa_W k x) A s H locs) {v : Int32} (hl : Cond.fieldLink own idx "NetWires$History" "kept" "I" ∈ ga_T) (hdg : decode cc pc = .ok (.getfield idx, 3)) (hv : x.1 10 = v)
    (kk : W p l e R s m args below meth c H locs cells slots Q (F0 m (pc + 3) ls (.int v :: rest))) : W p l e R s m args below meth c H locs cells slots Q (F0 m pc ls (.ref (xa_a k 5) :: rest)) :=
  ga_get hC hw cl_History 5 rfl 2 (by decide) hl (by rw [← hv]; rfl) hdg kk
theorem xp_History_kept (hC : CallFix p m c cc nL s args ga_T own) (hw : ga_w (xa_K k) (xa_W k x) A s H locs) {v : Int32} (hl : Cond.fieldLink own idx "NetWires$History" "kept" "I" ∈ ga_T) (hdg : decode cc pc = .ok (.putfield idx, 3))
    (kk : ∀ (H1 : Heap) (locs1 : List Loc), ga_w (xa_K k) (xa_W k (xa_sI x 10 v)) A s H1 locs1 → W p l e R s m args below meth c H1 locs1 cells slots Q (F0 m (pc + 3) ls rest)) : W p l e R s m args below meth c H locs cells slots Q (F0 m pc ls (.int v :: .ref (xa_a k 5) :: rest)) :=
  ga_put (ty := .int) hC hw cl_History 5 rfl 2 (by decide) hl rfl (by decide +kernel) rfl rfl (Nat.le_of_ble_eq_true rfl) hdg (fun H1 locs1 h => kk H1 locs1 h)
theorem xg_History_total (hC : CallFix p m c cc nL s args ga_T own) (hw : ga_w (xa_K k) (xa_W k x) A s H locs) {v : Int32} (hl : Cond.fieldLink own idx "NetWires$History" "total" "I" ∈ ga_T) (hdg : decode cc pc = .ok (.getfield idx, 3)) (hv : x.1 11 = v)
    (kk : W p l e R s m args below meth c H locs cells slots Q (F0 m (pc + 3) ls (.int v :: rest))) : W p l e R s m args below meth c H locs cells slots Q (F0 m pc ls (.ref (xa_a k 5) :: rest)) :=
  ga_get hC hw cl_History 5 rfl 3 (by decide) hl (by rw [← hv]; rfl) hdg kk
theorem xp_History_total (hC : CallFix p m c cc nL s args ga_T own) (hw : ga_w (xa_K k) (xa_W k x) A s H locs) {v : Int32} (hl : Cond.fieldLink own idx "NetWires$History" "total" "I" ∈ ga_T) (hdg : decode cc pc = .ok (.putfield idx, 3))
    (kk : ∀ (H1 : Heap) (locs1 : List Loc), ga_w (xa_K k) (xa_W k (xa_sI x 11 v)) A s H1 locs1 → W p l e R s m args below meth c H1 locs1 cells slots Q (F0 m (pc + 3) ls rest)) : W p l e R s m args below meth c H locs cells slots Q (F0 m pc ls (.int v :: .ref (xa_a k 5) :: rest)) :=
  ga_put (ty := .int) hC hw cl_History 5 rfl 3 (by decide) hl rfl (by decide +kernel) rfl rfl (Nat.le_of_ble_eq_true rfl) hdg (fun H1 locs1 h => kk H1 locs1 h)
theorem xg_Noise_loss (hC : CallFix p m c cc nL s args ga_T own) (hw : ga_w (xa_K k) (xa_W k x) A s H locs) {v : Int32} (hl : Cond.fieldLink own idx "NetWires$Noise" "loss" "I" ∈ ga_T) (hdg : decode cc pc = .ok (.getfield idx, 3)) (hv : x.1 12 = v)
    (kk : W p l e R s m args below meth c H locs cells slots Q (F0 m (pc + 3) ls (.int v :: rest))) : W p l e R s m args below meth c H locs cells slots Q (F0 m pc ls (.ref (xa_a k 7) :: rest)) :=
  ga_get hC hw cl_Noise 7 rfl 0 (by decide) hl (by rw [← hv]; rfl) hdg kk
theorem xp_Noise_loss (hC : CallFix p m c cc nL s args ga_T own) (hw : ga_w (xa_K k) (xa_W k x) A s H locs) {v : Int32} (hl : Cond.fieldLink own idx "NetWires$Noise" "loss" "I" ∈ ga_T) (hdg : decode cc pc = .ok (.putfield idx, 3))
    (kk : ∀ (H1 : Heap) (locs1 : List Loc), ga_w (xa_K k) (xa_W k (xa_sI x 12 v)) A s H1 locs1 → W p l e R s m args below meth c H1 locs1 cells slots Q (F0 m (pc + 3) ls rest)) : W p l e R s m args below meth c H locs cells slots Q (F0 m pc ls (.int v :: .ref (xa_a k 7) :: rest)) :=
  ga_put (ty := .int) hC hw cl_Noise 7 rfl 0 (by decide) hl rfl (by decide +kernel) rfl rfl (Nat.le_of_ble_eq_true rfl) hdg (fun H1 locs1 h => kk H1 locs1 h)
theorem xg_Noise_twice (hC : CallFix p m c cc nL s args ga_T own) (hw : ga_w (xa_K k) (xa_W k x) A s H locs) {v : Int32} (hl : Cond.fieldLink own idx "NetWires$Noise" "twice" "I" ∈ ga_T) (hdg : decode cc pc = .ok (.getfield idx, 3)) (hv : x.1 13 = v)
    (kk : W p l e R s m args below meth c H locs cells slots Q (F0 m (pc + 3) ls (.int v :: rest))) : W p l e R s m args below meth c H locs cells slots Q (F0 m pc ls (.ref (xa_a k 7) :: rest)) :=
  ga_get hC hw cl_Noise 7 rfl 1 (by decide) hl (by rw [← hv]; rfl) hdg kk
theorem xp_Noise_twice (hC : CallFix p m c cc nL s args ga_T own) (hw : ga_w (xa_K k) (xa_W k x) A s H locs) {v : Int32} (hl : Cond.fieldLink own idx "NetWires$Noise" "twice" "I" ∈ ga_T) (hdg : decode cc pc = .ok (.putfield idx, 3))
    (kk : ∀ (H1 : Heap) (locs1 : List Loc), ga_w (xa_K k) (xa_W k (xa_sI x 13 v)) A s H1 locs1 → W p l e R s m args below meth c H1 locs1 cells slots Q (F0 m (pc + 3) ls rest)) : W p l e R s m args below meth c H locs cells slots Q (F0 m pc ls (.int v :: .ref (xa_a k 7) :: rest)) :=
  ga_put (ty := .int) hC hw cl_Noise 7 rfl 1 (by decide) hl rfl (by decide +kernel) rfl rfl (Nat.le_of_ble_eq_true rfl) hdg (fun H1 locs1 h => kk H1 locs1 h)
theorem xg_Noise_spread (hC : CallFix p m c cc nL s args ga_T own) (hw : ga_w (xa_K k) (xa_W k x) A s H locs) {v : Int32} (hl : Cond.fieldLink own idx "NetWires$Noise" "spread" "I" ∈ ga_T) (hdg : decode cc pc = .ok (.getfield idx, 3)) (hv : x.1 14 = v)
    (kk : W p l e R s m args below meth c H locs cells slots Q (F0 m (pc + 3) ls (.int v :: rest))) : W p l e R s m args below meth c H locs cells slots Q (F0 m pc ls (.ref (xa_a k 7) :: rest)) :=
  ga_get hC hw cl_Noise 7 rfl 2 (by decide) hl (by rw [← hv]; rfl) hdg kk
theorem xp_Noise_spread (hC : CallFix p m c cc nL s args ga_T own) (hw : ga_w (xa_K k) (xa_W k x) A s H locs) {v : Int32} (hl : Cond.fieldLink own idx "NetWires$Noise" "spread" "I" ∈ ga_T) (hdg : decode cc pc = .ok (.putfield idx, 3))
    (kk : ∀ (H1 : Heap) (locs1 : List Loc), ga_w (xa_K k) (xa_W k (xa_sI x 14 v)) A s H1 locs1 → W p l e R s m args below meth c H1 locs1 cells slots Q (F0 m (pc + 3) ls rest)) : W p l e R s m args below meth c H locs cells slots Q (F0 m pc ls (.int v :: .ref (xa_a k 7) :: rest)) :=
  ga_put (ty := .int) hC hw cl_Noise 7 rfl 2 (by decide) hl rfl (by decide +kernel) rfl rfl (Nat.le_of_ble_eq_true rfl) hdg (fun H1 locs1 h => kk H1 locs1 h)
theorem xg_Noise_draw (hC : CallFix p m c cc nL s args ga_T own) (hw : ga_w (xa_K k) (xa_W k x) A s H locs) {v : Int64} (hl : Cond.fieldLink own idx "NetWires$Noise" "draw" "J" ∈ ga_T) (hdg : decode cc pc = .ok (.getfield idx, 3)) (hv : xa_D x = v)
    (kk : W p l e R s m args below meth c H locs cells slots Q (F0 m (pc + 3) ls (.long v :: rest))) : W p l e R s m args below meth c H locs cells slots Q (F0 m pc ls (.ref (xa_a k 7) :: rest)) :=
  ga_get hC hw cl_Noise 7 rfl 3 (by decide) hl (by rw [← hv]; rfl) hdg kk
theorem xp_Noise_draw (hC : CallFix p m c cc nL s args ga_T own) (hw : ga_w (xa_K k) (xa_W k x) A s H locs) {v : Int64} (hl : Cond.fieldLink own idx "NetWires$Noise" "draw" "J" ∈ ga_T) (hdg : decode cc pc = .ok (.putfield idx, 3))
    (kk : ∀ (H1 : Heap) (locs1 : List Loc), ga_w (xa_K k) (xa_W k (xa_sD x v)) A s H1 locs1 → W p l e R s m args below meth c H1 locs1 cells slots Q (F0 m (pc + 3) ls rest)) : W p l e R s m args below meth c H locs cells slots Q (F0 m pc ls (.long v :: .ref (xa_a k 7) :: rest)) :=
  ga_put (ty := .long) hC hw cl_Noise 7 rfl 3 (by decide) hl rfl (by decide +kernel) rfl rfl (Nat.le_of_ble_eq_true rfl) hdg (fun H1 locs1 h => kk H1 locs1 h)
theorem xe_kind (hC : CallFix p m c cc nL s args ga_T own) (hw : ga_w (xa_K k) (xa_W k x) A s H locs) {a b : Nat} {v : Nat → Int32} (hE : xa_isE (xa_P x) a v b) (hl : Cond.fieldLink own idx "NetWires$Event" "kind" "I" ∈ ga_T) (hdg : decode cc pc = .ok (.getfield idx, 3))
    (kk : W p l e R s m args below meth c H locs cells slots Q (F0 m (pc + 3) ls (.int (v 0) :: rest))) : W p l e R s m args below meth c H locs cells slots Q (F0 m pc ls (.ref a :: rest)) := by
  obtain ⟨q0, hq⟩ := va_pl_get (X := xa_C k x) (f := (xa_P x).2) hE.1
  rw [hE.2] at hq
  exact ga_get hC hw cl_Event q0 hq 0 (by decide) hl rfl hdg kk
theorem xe_endpoint (hC : CallFix p m c cc nL s args ga_T own) (hw : ga_w (xa_K k) (xa_W k x) A s H locs) {a b : Nat} {v : Nat → Int32} (hE : xa_isE (xa_P x) a v b) (hl : Cond.fieldLink own idx "NetWires$Event" "endpoint" "I" ∈ ga_T) (hdg : decode cc pc = .ok (.getfield idx, 3))
    (kk : W p l e R s m args below meth c H locs cells slots Q (F0 m (pc + 3) ls (.int (v 1) :: rest))) : W p l e R s m args below meth c H locs cells slots Q (F0 m pc ls (.ref a :: rest)) := by
  obtain ⟨q0, hq⟩ := va_pl_get (X := xa_C k x) (f := (xa_P x).2) hE.1
  rw [hE.2] at hq
  exact ga_get hC hw cl_Event q0 hq 1 (by decide) hl rfl hdg kk
theorem xe_from (hC : CallFix p m c cc nL s args ga_T own) (hw : ga_w (xa_K k) (xa_W k x) A s H locs) {a b : Nat} {v : Nat → Int32} (hE : xa_isE (xa_P x) a v b) (hl : Cond.fieldLink own idx "NetWires$Event" "from" "I" ∈ ga_T) (hdg : decode cc pc = .ok (.getfield idx, 3))
    (kk : W p l e R s m args below meth c H locs cells slots Q (F0 m (pc + 3) ls (.int (v 2) :: rest))) : W p l e R s m args below meth c H locs cells slots Q (F0 m pc ls (.ref a :: rest)) := by
  obtain ⟨q0, hq⟩ := va_pl_get (X := xa_C k x) (f := (xa_P x).2) hE.1
  rw [hE.2] at hq
  exact ga_get hC hw cl_Event q0 hq 2 (by decide) hl rfl hdg kk
theorem xe_time (hC : CallFix p m c cc nL s args ga_T own) (hw : ga_w (xa_K k) (xa_W k x) A s H locs) {a b : Nat} {v : Nat → Int32} (hE : xa_isE (xa_P x) a v b) (hl : Cond.fieldLink own idx "NetWires$Event" "time" "I" ∈ ga_T) (hdg : decode cc pc = .ok (.getfield idx, 3))
    (kk : W p l e R s m args below meth c H locs cells slots Q (F0 m (pc + 3) ls (.int (v 3) :: rest))) : W p l e R s m args below meth c H locs cells slots Q (F0 m pc ls (.ref a :: rest)) := by
  obtain ⟨q0, hq⟩ := va_pl_get (X := xa_C k x) (f := (xa_P x).2) hE.1
  rw [hE.2] at hq
  exact ga_get hC hw cl_Event q0 hq 3 (by decide) hl rfl hdg kk
theorem xe_number (hC : CallFix p m c cc nL s args ga_T own) (hw : ga_w (xa_K k) (xa_W k x) A s H locs) {a b : Nat} {v : Nat → Int32} (hE : xa_isE (xa_P x) a v b) (hl : Cond.fieldLink own idx "NetWires$Event" "number" "I" ∈ ga_T) (hdg : decode cc pc = .ok (.getfield idx, 3))
    (kk : W p l e R s m args below meth c H locs cells slots Q (F0 m (pc + 3) ls (.int (v 4) :: rest))) : W p l e R s m args below meth c H locs cells slots Q (F0 m pc ls (.ref a :: rest)) := by
  obtain ⟨q0, hq⟩ := va_pl_get (X := xa_C k x) (f := (xa_P x).2) hE.1
  rw [hE.2] at hq
  exact ga_get hC hw cl_Event q0 hq 4 (by decide) hl rfl hdg kk
theorem xe_bytes (hC : CallFix p m c cc nL s args ga_T own) (hw : ga_w (xa_K k) (xa_W k x) A s H locs) {a b : Nat} {v : Nat → Int32} (hE : xa_isE (xa_P x) a v b) (hl : Cond.fieldLink own idx "NetWires$Event" "bytes" "[B" ∈ ga_T) (hdg : decode cc pc = .ok (.getfield idx, 3))
    (kk : W p l e R s m args below meth c H locs cells slots Q (F0 m (pc + 3) ls (.ref b :: rest))) : W p l e R s m args below meth c H locs cells slots Q (F0 m pc ls (.ref a :: rest)) := by
  obtain ⟨q0, hq⟩ := va_pl_get (X := xa_C k x) (f := (xa_P x).2) hE.1
  rw [hE.2] at hq
  exact ga_get hC hw cl_Event q0 hq 5 (by decide) hl rfl hdg kk
theorem xr_tape (hC : CallFix p m c cc nL s args ga_T own) (hw : ga_w (xa_K k) (xa_W k x) A s H locs) {i v : Int32} (hin : vp_in i 2048) (hdg : decode cc pc = .ok (.bastore, 1))
    (kk : ∀ (H1 : Heap) (locs1 : List Loc), ga_w (xa_K k) (xa_W k (xa_sT x (upd (xa_T x) i.toNatClampNeg (vp_nar .byte v)))) A s H1 locs1 → W p l e R s m args below meth c H1 locs1 cells slots Q (F0 m (pc + 1) ls rest)) : W p l e R s m args below meth c H locs cells slots Q (F0 m pc ls (.int v :: .int i :: .ref (xa_a k 2) :: rest)) :=
  ga_bast hC hw 2 0 rfl rfl hin hdg (fun H1 locs1 h => kk H1 locs1 h)
theorem xr_facts (hC : CallFix p m c cc nL s args ga_T own) (hw : ga_w (xa_K k) (xa_W k x) A s H locs) {i v : Int32} (hin : vp_in i 128) (hdg : decode cc pc = .ok (.iaload, 1)) (hv : xa_F x i.toNatClampNeg = v)
    (kk : W p l e R s m args below meth c H locs cells slots Q (F0 m (pc + 1) ls (.int v :: rest))) : W p l e R s m args below meth c H locs cells slots Q (F0 m pc ls (.int i :: .ref (xa_a k 6) :: rest)) :=
  ga_iald hC hw 6 1 rfl rfl hin hdg (by rw [← hv] at kk; exact kk)
theorem xs_facts (hC : CallFix p m c cc nL s args ga_T own) (hw : ga_w (xa_K k) (xa_W k x) A s H locs) {i v : Int32} (hin : vp_in i 128) (hdg : decode cc pc = .ok (.iastore, 1))
    (kk : ∀ (H1 : Heap) (locs1 : List Loc), ga_w (xa_K k) (xa_W k (xa_sF x (upd (xa_F x) i.toNatClampNeg v))) A s H1 locs1 → W p l e R s m args below meth c H1 locs1 cells slots Q (F0 m (pc + 1) ls rest)) : W p l e R s m args below meth c H locs cells slots Q (F0 m pc ls (.int v :: .int i :: .ref (xa_a k 6) :: rest)) :=
  ga_iast hC hw 6 1 rfl rfl hin hdg (fun H1 locs1 h => kk H1 locs1 h)
theorem xr_delays (hC : CallFix p m c cc nL s args ga_T own) (hw : ga_w (xa_K k) (xa_W k x) A s H locs) {i v : Int32} (hin : vp_in i 256) (hdg : decode cc pc = .ok (.iaload, 1)) (hv : xa_L x i.toNatClampNeg = v)
    (kk : W p l e R s m args below meth c H locs cells slots Q (F0 m (pc + 1) ls (.int v :: rest))) : W p l e R s m args below meth c H locs cells slots Q (F0 m pc ls (.int i :: .ref (xa_a k 8) :: rest)) :=
  ga_iald hC hw 8 1 rfl rfl hin hdg (by rw [← hv] at kk; exact kk)
theorem xs_delays (hC : CallFix p m c cc nL s args ga_T own) (hw : ga_w (xa_K k) (xa_W k x) A s H locs) {i v : Int32} (hin : vp_in i 256) (hdg : decode cc pc = .ok (.iastore, 1))
    (kk : ∀ (H1 : Heap) (locs1 : List Loc), ga_w (xa_K k) (xa_W k (xa_sL x (upd (xa_L x) i.toNatClampNeg v))) A s H1 locs1 → W p l e R s m args below meth c H1 locs1 cells slots Q (F0 m (pc + 1) ls rest)) : W p l e R s m args below meth c H locs cells slots Q (F0 m pc ls (.int v :: .int i :: .ref (xa_a k 8) :: rest)) :=
  ga_iast hC hw 8 1 rfl rfl hin hdg (fun H1 locs1 h => kk H1 locs1 h)
theorem xr_events (hC : CallFix p m c cc nL s args ga_T own) (hw : ga_w (xa_K k) (xa_W k x) A s H locs) {i : Int32} {r : Option Nat} (hin : vp_in i 232) (hdg : decode cc pc = .ok (.aaload, 1)) (hv : xa_E x i.toNatClampNeg = r)
    (kk : W p l e R s m args below meth c H locs cells slots Q (F0 m (pc + 1) ls (va_rf r :: rest))) : W p l e R s m args below meth c H locs cells slots Q (F0 m pc ls (.int i :: .ref (xa_a k 4) :: rest)) :=
  ga_aald hC hw 4 2 rfl rfl hin hdg (by rw [← hv] at kk; exact kk)
theorem xs_events (hC : CallFix p m c cc nL s args ga_T own) (hw : ga_w (xa_K k) (xa_W k x) A s H locs) {i : Int32} {a b : Nat} {v : Nat → Int32} (hE : xa_isE (xa_P x) a v b) (hin : vp_in i 232) (hdg : decode cc pc = .ok (.aastore, 1))
    (kk : ∀ (H1 : Heap) (locs1 : List Loc), ga_w (xa_K k) (xa_W k (xa_sE x (va_up (xa_E x) i.toNatClampNeg (some a)))) A s H1 locs1 → W p l e R s m args below meth c H1 locs1 cells slots Q (F0 m (pc + 1) ls rest)) : W p l e R s m args below meth c H locs cells slots Q (F0 m pc ls (.ref a :: .int i :: .ref (xa_a k 4) :: rest)) := by
  obtain ⟨q0, hq⟩ := va_pl_get (X := xa_C k x) (f := (xa_P x).2) hE.1
  rw [hE.2] at hq
  exact ga_aast (r := (R_Event, F_Event, 6)) hC hw 4 2 q0 5 rfl rfl hq rfl hin hdg (fun H1 locs1 h => kk H1 locs1 h)
theorem xs_eventsN (hC : CallFix p m c cc nL s args ga_T own) (hw : ga_w (xa_K k) (xa_W k x) A s H locs) {i : Int32} (hin : vp_in i 232) (hdg : decode cc pc = .ok (.aastore, 1))
    (kk : ∀ (H1 : Heap) (locs1 : List Loc), ga_w (xa_K k) (xa_W k (xa_sE x (va_up (xa_E x) i.toNatClampNeg none))) A s H1 locs1 → W p l e R s m args below meth c H1 locs1 cells slots Q (F0 m (pc + 1) ls rest)) : W p l e R s m args below meth c H locs cells slots Q (F0 m pc ls (.null :: .int i :: .ref (xa_a k 4) :: rest)) :=
  ga_aastN hC hw 4 2 rfl rfl hin hdg (fun H1 locs1 h => kk H1 locs1 h)
/-- the length of a row of bytes -/
theorem xr_len (hC : CallFix p m c cc nL s args ga_T own) (hw : ga_w (xa_K k) (xa_W k x) A s H locs) {b n : Nat} {f : Nat → Int32} {v : Int32} (hB : xa_isB k (xa_P x) b n f) (hdg : decode cc pc = .ok (.arraylength, 1)) (hv : nI n = v)
    (kk : W p l e R s m args below meth c H locs cells slots Q (F0 m (pc + 1) ls (.int v :: rest))) : W p l e R s m args below meth c H locs cells slots Q (F0 m pc ls (.ref b :: rest)) := by
  rcases hB with ⟨h1, h2⟩ | ⟨rfl, rfl⟩
  · obtain ⟨q0, hq⟩ := va_pl_get (X := xa_C k x) (f := (xa_P x).2) h1
    rw [h2] at hq
    exact ga_alen hC hw q0 0 hq rfl hv hdg kk
  · exact va_tlen hC.1 hC.2.1 hw.2.2.2.2.2.1.2.1 hw.2.2.1 hv hdg kk
theorem xr_byte (hC : CallFix p m c cc nL s args ga_T own) (hw : ga_w (xa_K k) (xa_W k x) A s H locs) {b n : Nat} {f : Nat → Int32} {i v : Int32} (hB : xa_isB k (xa_P x) b n f) (hin : vp_in i n) (hdg : decode cc pc = .ok (.baload, 1)) (hv : f i.toNatClampNeg = v)
    (kk : W p l e R s m args below meth c H locs cells slots Q (F0 m (pc + 1) ls (.int v :: rest))) : W p l e R s m args below meth c H locs cells slots Q (F0 m pc ls (.int i :: .ref b :: rest)) := by
  rcases hB with ⟨h1, h2⟩ | ⟨rfl, rfl⟩
  · obtain ⟨q0, hq⟩ := va_pl_get (X := xa_C k x) (f := (xa_P x).2) h1
    rw [h2] at hq
    exact ga_bald hC hw q0 0 hq rfl hin hdg (by rw [← hv] at kk; exact kk)
  · exact absurd (vp_in_iff.mp hin) (by omega)
/-- NO_BYTES -/
theorem xg_NO_BYTES (hC : CallFix p m c cc nL s args ga_T own) (hw : ga_w (xa_K k) (xa_W k x) A s H locs) (hl : Cond.fieldLink own idx "NetWires" "NO_BYTES" "[B" ∈ ga_T) (hdg : decode cc pc = .ok (.getstatic idx, 3))
    (kk : W p l e R s m args below meth c H locs cells slots Q (F0 m (pc + 3) ls (.ref (xa_a k 9) :: rest))) : W p l e R s m args below meth c H locs cells slots Q (F0 m pc ls rest) :=
  va_gets hC.1 hC.2.1 hw.2.2.2.2.2.1.1 hw.2.2.1 hC.2.2.2.1 (hC.2.2.2.2 _ hl) (fun _ h => h) hdg kk
theorem xg_NO_BYTES_N (hC : CallFix p m c cc nL s args ga_T "NetWires$Tape") (hw : ga_w (xa_K k) (xa_W k x) A s H locs) (hdg : decode cc pc = .ok (.getstatic 23, 3))
    (kk : W p l e R s m args below meth c H locs cells slots Q (F0 m (pc + 3) ls (.ref (xa_a k 9) :: rest))) : W p l e R s m args below meth c H locs cells slots Q (F0 m pc ls rest) :=
  va_getsN hC.1 hC.2.1 hw.2.2.2.2.2.1.1 hw.2.2.1 hC.2.2.2.1 ((hw.2.2.2.2.2.1.2.2.2.2.1 (.fieldLinkNest "NetWires$Tape" 23 "NetWires" "NO_BYTES" "[B" "NetWires") (by decide +kernel)).use rfl) (fun _ h => h) hdg kk
end XW
end
section
/-! pure words for the agenda: what an event of the pool holds, the array of events and its changes -/
def xa_bit (set ep : Int32) : Int32 := (set >>> (ep &&& 31)) &&& 1
/-- the ints of an entry, and where its bytes lie -/
def xa_v (P : List Nat × (Nat → va_E)) (a : Nat) : Nat → Int32 := fun k => match P.2 a with
  | .inr o => (match o.2.getD k .null with
    | .int z => z
    | _ => 0)
  | _ => 0
def xa_b (P : List Nat × (Nat → va_E)) (a : Nat) : Nat := match P.2 a with
  | .inr o => (match o.2.getD 5 .null with
    | .ref b => b
    | _ => 0)
  | _ => 0
def xa_okE (P : List Nat × (Nat → va_E)) (a : Nat) : Prop := xa_isE P a (xa_v P a) (xa_b P a)
theorem xa_okE_of {P : List Nat × (Nat → va_E)} {a b : Nat} {v : Nat → Int32} (h : xa_isE P a v b) : xa_okE P a ∧ (∀ k, k < 5 → xa_v P a k = v k) ∧ xa_b P a = b := by
  have hv : ∀ k, k < 5 → xa_v P a k = v k := by
    intro k hk
    unfold xa_v
    rw [h.2]
    unfold xa_ev
    match k, hk with
    | 0, _ => rfl
    | 1, _ => rfl
    | 2, _ => rfl
    | 3, _ => rfl
    | 4, _ => rfl
  have hb : xa_b P a = b := by
    unfold xa_b
    rw [h.2]
    rfl
  refine ⟨⟨h.1, ?_⟩, hv, hb⟩
  rw [h.2]
  unfold xa_ev
  rw [hv 0 (by decide), hv 1 (by decide), hv 2 (by decide), hv 3 (by decide), hv 4 (by decide), hb]
/-- the array holds n events -/
def xa_R0 (x : XS) (n : Nat) : Prop := x.1 7 = nI n ∧ n ≤ 232 ∧ ∀ j, j < n → ∃ a, xa_E x j = some a ∧ xa_okE (xa_P x) a
/-- the address at place j -/
def xa_ad (x : XS) (j : Nat) : Nat := (xa_E x j).getD 0
/-- the int i of the event at place j -/
def xa_at (x : XS) (j i : Nat) : Int32 := xa_v (xa_P x) (xa_ad x j) i
theorem xa_R0.get {x : XS} {n j : Nat} (h : xa_R0 x n) (hj : j < n) : xa_E x j = some (xa_ad x j) ∧ xa_okE (xa_P x) (xa_ad x j) := by
  obtain ⟨a, h1, h2⟩ := h.2.2 j hj
  have e : xa_ad x j = a := by unfold xa_ad; rw [h1]; rfl
  rw [e]
  exact ⟨h1, h2⟩
def xa_shift (E : Nat → Option Nat) (n q : Nat) : Nat → Option Nat := fun j => if q < j ∧ j ≤ n then E (j - 1) else E j
theorem xa_shift_n (E : Nat → Option Nat) (n : Nat) : xa_shift E n n = E := by
  funext j; unfold xa_shift; rw [if_neg (by omega)]
theorem xa_shift_lo {E : Nat → Option Nat} {n q j : Nat} (h : j ≤ q) : xa_shift E n q j = E j := by
  unfold xa_shift; rw [if_neg (by omega)]
theorem xa_shift_s {E : Nat → Option Nat} {n q : Nat} {r : Option Nat} (h : q + 1 ≤ n) (hr : E q = r) : va_up (xa_shift E n (q + 1)) (q + 1) r = xa_shift E n q := by
  funext j
  unfold va_up xa_shift
  by_cases h1 : j = q + 1
  · subst h1
    rw [if_pos rfl, if_pos (by omega), ← hr]
    rfl
  · rw [if_neg h1]
    by_cases h2 : q + 1 < j ∧ j ≤ n
    · rw [if_pos h2, if_pos (by omega)]
    · rw [if_neg h2, if_neg (by omega)]
/-- a put in at place q -/
def xa_ins (E : Nat → Option Nat) (n q a : Nat) : Nat → Option Nat := fun j => if j < q then E j else if j = q then some a else if j ≤ n then E (j - 1) else E j
theorem xa_ins_s {E : Nat → Option Nat} {n q a : Nat} (h : q ≤ n) : va_up (xa_shift E n q) q (some a) = xa_ins E n q a := by
  funext j
  unfold va_up xa_shift xa_ins
  by_cases h1 : j = q
  · subst h1; rw [if_pos rfl, if_neg (by omega), if_pos rfl]
  · rw [if_neg h1]
    by_cases h2 : j < q
    · rw [if_pos h2, if_neg (by omega)]
    · rw [if_neg h2, if_neg h1]
      by_cases h3 : j ≤ n
      · rw [if_pos h3, if_pos (by omega)]
      · rw [if_neg h3, if_neg (by omega)]
def xa_pull (E : Nat → Option Nat) (j i : Nat) : Nat → Option Nat := fun t => if j ≤ t ∧ t + 1 < i then E (t + 1) else E t
theorem xa_pull_0 (E : Nat → Option Nat) (j : Nat) : xa_pull E j (j + 1) = E := by
  funext t; unfold xa_pull; rw [if_neg (by omega)]
theorem xa_pull_hi {E : Nat → Option Nat} {j i t : Nat} (h : i ≤ t + 1) : xa_pull E j i t = E t := by
  unfold xa_pull; rw [if_neg (by omega)]
theorem xa_pull_s {E : Nat → Option Nat} {j i : Nat} {r : Option Nat} (h : j < i) (hr : E i = r) : va_up (xa_pull E j i) (i - 1) r = xa_pull E j (i + 1) := by
  funext t
  unfold va_up xa_pull
  by_cases h1 : t = i - 1
  · subst h1
    rw [if_pos rfl, if_pos (by omega), ← hr]
    congr 1
    omega
  · rw [if_neg h1]
    by_cases h2 : j ≤ t ∧ t + 1 < i
    · rw [if_pos h2, if_pos (by omega)]
    · rw [if_neg h2, if_neg (by omega)]
/-- place j taken out -/
def xa_del (E : Nat → Option Nat) (n j : Nat) : Nat → Option Nat := va_up (xa_pull E j n) (n - 1) none
/-- how many messages stand ahead of place j -/
def xa_cnt (x : XS) : Nat → Nat
  | 0 => 0
  | j + 1 => xa_cnt x j + (if xa_at x j 0 = 0 then 1 else 0)
/-- a row more, or one less, of messages -/
def xa_msg (x : XS) (kd d : Int32) : XS := if kd = 0 then xa_sI x 8 (x.1 8 + d) else x
theorem xa_ix {x : XS} {n : Nat} {p0 : Int32} (h0 : xa_R0 x n) (h1 : ¬ p0 < 0) (h2 : p0 < x.1 7) : ∃ j, j < n ∧ p0 = nI j := by
  have hn := h0.2.1
  rw [h0.1] at h2
  obtain ⟨j, hj, e⟩ := nI_of h1
  rw [e] at h2
  exact ⟨j, (nI_ltI hj (by omega)).mp h2, e⟩
theorem xa_nix {n j : Nat} {p0 : Int32} (hn : n ≤ 232) (h : p0 < 0 ∨ nI n ≤ p0) (e : p0 = nI j) (hj : j < n) : False := by
  subst e
  rcases h with h | h
  · exact absurd h (nI_pos (by omega))
  · exact absurd ((nI_leI (by omega) (by omega)).mp h) (by omega)
theorem xa_inj {i j n : Nat} (hn : n ≤ 232) (hi : i < n) (hj : j < n) (h : nI i = nI j) : i = j := (nI_eq (by omega) (by omega)).mp h
theorem xa_R0.shift {x : XS} {n q : Nat} (h : xa_R0 x n) (_ : q ≤ n) : xa_R0 (xa_sE x (xa_shift (xa_E x) n q)) n := by
  refine ⟨h.1, h.2.1, fun j hj => ?_⟩
  show ∃ a, xa_shift (xa_E x) n q j = some a ∧ xa_okE (xa_P x) a
  unfold xa_shift
  by_cases h1 : q < j ∧ j ≤ n
  · rw [if_pos h1]; exact h.2.2 (j - 1) (by omega)
  · rw [if_neg h1]; exact h.2.2 j hj
theorem xa_2048 {t : Nat} (h : t ≤ 2048) : (2048 : Int32) - nI t = nI (2048 - t) := pk_sub (a := 2048) h
theorem xa_room {x : XS} {t n : Nat} (ht : x.1 6 = nI t) (h2 : t ≤ 2048) (hn : n < 4096) : (2048 - x.1 6 < nI n ↔ 2048 < t + n) := by
  rw [ht, xa_2048 h2, nI_ltI (by omega) (by omega)]
  omega
/-- the generator of the draws -/
def xa_lcg (d : Int64) : Int64 := d * 6364136223846793005 + 1442695040888963407
def xa_draw (d : Int64) (m : Int32) : Int32 := ((d.toUInt64 >>> ((33 : Int32).toInt64.toUInt64 &&& Int64.toUInt64 63)).toInt64 - (d.toUInt64 >>> ((33 : Int32).toInt64.toUInt64 &&& Int64.toUInt64 63)).toInt64 / m.toInt64 * m.toInt64).toInt32
theorem xa_nz {m : Int32} (h : 0 < m) : ¬ m.toInt64 = 0 := by
  intro h2
  have h3 := congrArg Int64.toInt h2
  rw [Int32.toInt_toInt64] at h3
  have h4 : (0 : Int) < m.toInt := by have := Int32.lt_iff_toInt_lt.mp h; simpa using this
  have h5 : (0 : Int64).toInt = 0 := rfl
  omega
/-- the row of four facts -/
def xa_mem (F : Nat → Int32) (w : Nat) (a b c d : Int32) : Nat → Int32 := upd (upd (upd (upd F (w * 4) a) (w * 4 + 1) b) (w * 4 + 2) c) (w * 4 + 3) d
theorem xa_rem32 {w : Nat} (h : w < 64) : nI w - nI w / 32 * 32 = nI (w % 32) := pk_rem (a := w) (d := 32) (by omega) (by decide) (by decide)
theorem xa_back {w i : Nat} (hi : i ≤ 32) : nI w - nI i + 32 = nI (w + 32 - i) := by
  have e : nI w - nI i + 32 = nI (w + 32) - nI i := by
    rw [← nI_add w 32]
    show nI w - nI i + nI 32 = nI w + nI 32 - nI i
    simp only [Int32.sub_eq_add_neg, Int32.add_assoc]
    rw [Int32.add_comm (-nI i) (nI 32)]
  rw [e, pk_sub (by omega)]
def xa_par (x : XS) (i j : Int32) : Prop := ¬ (xa_bit (x.1 2) i = 1 ↔ xa_bit (x.1 2) j = 1)
def xa_lose (x : XS) (v : Nat → Int32) : Prop := xa_par x (v 2) (v 1) ∨ xa_bit (x.1 3) (v 1) = 1
/-- what remember() leaves -/
def xa_rmb (x : XS) (ans : Int32) (v : Nat → Int32) (w kp : Nat) : XS := xa_sI (xa_sI (xa_sF (xa_sI x 9 (nI ((w + 1) % 32))) (xa_mem (xa_F x) ((w + 1) % 32) ans (v 3) (v 4) (v 2))) 10 (if kp < 32 then nI (kp + 1) else nI kp)) 11 (x.1 11 + 1)
/-- what letHappen() leaves, before it is remembered, and what it answers -/
def xa_hap (x : XS) (v : Nat → Int32) (b : Nat) (y : XS) (r : Int32) : Prop :=
  (¬ v 0 = 0 ∧ r = v 1 + v 0 ∧ y = xa_sI x 0 (v 3)) ∨ (v 0 = 0 ∧ xa_lose x v ∧ r = v 1 + 16 ∧ y = xa_sI (xa_sI x 0 (v 3)) 5 (x.1 5 + 1)) ∨ (v 0 = 0 ∧ ¬ xa_lose x v ∧ r = v 1 + 0 ∧ y = xa_sB (xa_sI x 0 (v 3)) b)
/-- a new event with its number, put in at place q -/
def xa_add (x : XS) (n a q : Nat) (v : Nat → Int32) (b : Nat) : XS := xa_msg (xa_sI (xa_sE (xa_sP (xa_sI x 1 (x.1 1 + 1)) ((xa_P x).1 ++ [a], va_up (xa_P x).2 a (xa_ev v b))) (xa_ins (xa_E x) n q a)) 7 (nI (n + 1))) (v 0) 1
def xa_five (a b c d e : Int32) : Nat → Int32 := fun k => match k with
  | 0 => a
  | 1 => b
  | 2 => c
  | 3 => d
  | _ => e
/-- a cell that was made behind the world joins its pool -/
theorem xa_absorb {k : xa_k} {x : XS} {A : Nat → Prop} {s : State} {H : Heap} {locs : List Loc} {a : Nat} {e : va_E} (hw : ga_w (xa_K k) (xa_W k x ++ [(a, e)]) A s H locs) : a ∉ (xa_P x).1 ∧ ga_w (xa_K k) (xa_W k (xa_sP x ((xa_P x).1 ++ [a], va_up (xa_P x).2 a e))) A s H locs := by
  have hf : a ∉ (xa_P x).1 := va_pl_fresh2 (X := xa_C k x) hw.2.1
  refine ⟨hf, ?_⟩
  have e1 : xa_W k x ++ [(a, e)] = xa_W k (xa_sP x ((xa_P x).1 ++ [a], va_up (xa_P x).2 a e)) := by
    show (xa_C k x ++ va_pl (xa_P x).1 (xa_P x).2) ++ [(a, e)] = xa_C k x ++ va_pl ((xa_P x).1 ++ [a]) (va_up (xa_P x).2 a e)
    rw [List.append_assoc, va_pl_push hf]
  rw [← e1]
  exact hw
/-- an event of the pool stays one when a cell joins it -/
theorem xa_okE_up {P : List Nat × (Nat → va_E)} {a c : Nat} {e : va_E} (h : xa_okE P c) (hf : a ∉ P.1) : xa_okE (P.1 ++ [a], va_up P.2 a e) c ∧ xa_v (P.1 ++ [a], va_up P.2 a e) c = xa_v P c ∧ xa_b (P.1 ++ [a], va_up P.2 a e) c = xa_b P c := by
  have hne : c ≠ a := fun h2 => hf (h2 ▸ h.1)
  have e1 : (P.1 ++ [a], va_up P.2 a e).2 c = P.2 c := va_up_ne _ _ hne
  have e2 : xa_v (P.1 ++ [a], va_up P.2 a e) c = xa_v P c := by unfold xa_v; rw [e1]
  have e3 : xa_b (P.1 ++ [a], va_up P.2 a e) c = xa_b P c := by unfold xa_b; rw [e1]
  refine ⟨⟨List.mem_append_left _ h.1, ?_⟩, e2, e3⟩
  rw [e2, e3]
  exact e1.trans h.2
theorem xa_R0.up {x : XS} {n a : Nat} {e : va_E} (h : xa_R0 x n) (hf : a ∉ (xa_P x).1) : xa_R0 (xa_sP x ((xa_P x).1 ++ [a], va_up (xa_P x).2 a e)) n ∧ ∀ j, j < n → xa_at (xa_sP x ((xa_P x).1 ++ [a], va_up (xa_P x).2 a e)) j = xa_at x j := by
  refine ⟨⟨h.1, h.2.1, fun j hj => ?_⟩, fun j hj => ?_⟩
  · obtain ⟨c, h1, h2⟩ := h.2.2 j hj
    exact ⟨c, h1, (xa_okE_up h2 hf).1⟩
  · funext i
    exact congrFun (xa_okE_up (h.get hj).2 hf).2.1 i
/-- what takeAt() leaves -/
def xa_take (x : XS) (n j : Nat) : XS := xa_msg (xa_sE (xa_sI x 7 (nI (n - 1))) (xa_del (xa_E x) n j)) (xa_at x j 0) (-1)
theorem xa_m1 {j : Nat} (h : j < 232) : ¬ (-1 : Int32) = nI j := by
  intro h2
  have h3 := congrArg Int32.toInt h2
  rw [nI_toInt (by omega)] at h3
  have h4 : (-1 : Int32).toInt = -1 := rfl
  omega
theorem xa_same10 {x y : XS} {kp : Nat} (h : x = y) (_ : y.1 10 = nI kp) : x = y := h
theorem xa_sI_id {y : XS} {i : Nat} {v : Int32} (h : y.1 i = v) : xa_sI y i v = y := by
  have e : upd y.1 i v = y.1 := by
    funext j
    unfold upd
    by_cases hj : j = i
    · rw [if_pos hj, hj, h]
    · rw [if_neg hj]
  unfold xa_sI
  rw [e]
theorem xa_pred {i : Nat} (h : 0 < i) : nI i - 1 = nI (i - 1) := by
  obtain ⟨t, rfl⟩ : ∃ t, i = t + 1 := ⟨i - 1, by omega⟩
  exact nI_pred t
theorem xa_cnt_0 {x : XS} {i : Nat} (h : ¬ xa_at x i 0 = 0) : xa_cnt x (i + 1) = xa_cnt x i := by
  have e : xa_cnt x (i + 1) = xa_cnt x i + (if xa_at x i 0 = 0 then 1 else 0) := rfl
  rw [e, if_neg h]
  rfl
theorem xa_cnt_1 {x : XS} {i : Nat} (h : xa_at x i 0 = 0) : xa_cnt x (i + 1) = xa_cnt x i + 1 := by
  have e : xa_cnt x (i + 1) = xa_cnt x i + (if xa_at x i 0 = 0 then 1 else 0) := rfl
  rw [e, if_pos h]
theorem xa_del_lo {E : Nat → Option Nat} {n j t : Nat} (h : t < n - 1) : xa_del E n j t = if j ≤ t then E (t + 1) else E t := by
  unfold xa_del va_up xa_pull
  rw [if_neg (by omega)]
  by_cases h1 : j ≤ t
  · rw [if_pos h1, if_pos (by omega)]
  · rw [if_neg h1, if_neg (by omega)]
theorem xa_msg_E (x : XS) (a b : Int32) : xa_E (xa_msg x a b) = xa_E x ∧ xa_P (xa_msg x a b) = xa_P x ∧ (xa_msg x a b).1 7 = x.1 7 := by
  unfold xa_msg
  split
  · exact ⟨rfl, rfl, rfl⟩
  · exact ⟨rfl, rfl, rfl⟩
/-- an event less -/
theorem xa_R0.take {x : XS} {n j : Nat} (h : xa_R0 x n) (hj : j < n) : xa_R0 (xa_take x n j) (n - 1) := by
  have h2 := h.2.1
  obtain ⟨e1, e2, e3⟩ := xa_msg_E (xa_sE (xa_sI x 7 (nI (n - 1))) (xa_del (xa_E x) n j)) (xa_at x j 0) (-1)
  refine ⟨e3, by omega, fun t ht => ?_⟩
  show ∃ a, xa_E (xa_msg _ _ _) t = some a ∧ xa_okE (xa_P (xa_msg _ _ _)) a
  rw [e1, e2]
  show ∃ a, xa_del (xa_E x) n j t = some a ∧ xa_okE (xa_P x) a
  rw [xa_del_lo ht]
  by_cases h1 : j ≤ t
  · rw [if_pos h1]; exact h.2.2 (t + 1) (by omega)
  · rw [if_neg h1]; exact h.2.2 t (by omega)
/-! pure words for what is sent -/
/-- the pool P2 holds what P holds, as it was -/
def xa_ext (P P2 : List Nat × (Nat → va_E)) : Prop := ∀ a, a ∈ P.1 → a ∈ P2.1 ∧ P2.2 a = P.2 a
theorem xa_ext_rf (P : List Nat × (Nat → va_E)) : xa_ext P P := fun _ h => ⟨h, rfl⟩
theorem xa_ext_tr {P P2 P3 : List Nat × (Nat → va_E)} (h : xa_ext P P2) (h2 : xa_ext P2 P3) : xa_ext P P3 := fun a ha => ⟨(h2 a (h a ha).1).1, ((h2 a (h a ha).1).2).trans (h a ha).2⟩
theorem xa_ext_up {P : List Nat × (Nat → va_E)} {a : Nat} {e : va_E} (hf : a ∉ P.1) : xa_ext P (P.1 ++ [a], va_up P.2 a e) := fun _ hc => ⟨List.mem_append_left _ hc, va_up_ne _ _ (fun h => hf (h ▸ hc))⟩
theorem xa_okE_ext {P P2 : List Nat × (Nat → va_E)} {a : Nat} (h : xa_ext P P2) (hE : xa_okE P a) : xa_okE P2 a ∧ xa_v P2 a = xa_v P a ∧ xa_b P2 a = xa_b P a := by
  have e := h a hE.1
  have e2 : xa_v P2 a = xa_v P a := by unfold xa_v; rw [e.2]
  have e3 : xa_b P2 a = xa_b P a := by unfold xa_b; rw [e.2]
  refine ⟨⟨e.1, ?_⟩, e2, e3⟩
  rw [e2, e3]
  exact e.2.trans hE.2
theorem xa_isB_ext {k : xa_k} {P P2 : List Nat × (Nat → va_E)} {b n : Nat} {f : Nat → Int32} (h : xa_ext P P2) (hB : xa_isB k P b n f) : xa_isB k P2 b n f := by
  rcases hB with ⟨h1, h2⟩ | h1
  · exact Or.inl ⟨(h b h1).1, (h b h1).2.trans h2⟩
  · exact Or.inr h1
theorem xa_R0.ext {x : XS} {n : Nat} {P2 : List Nat × (Nat → va_E)} (h : xa_R0 x n) (he : xa_ext (xa_P x) P2) : xa_R0 (xa_sP x P2) n ∧ ∀ j, j < n → xa_at (xa_sP x P2) j = xa_at x j := by
  refine ⟨⟨h.1, h.2.1, fun j hj => ?_⟩, fun j hj => ?_⟩
  · obtain ⟨c, h1, h2⟩ := h.2.2 j hj
    exact ⟨c, h1, (xa_okE_ext he h2).1⟩
  · funext i
    exact congrFun (xa_okE_ext he (h.get hj).2).2.1 i
theorem xa_zero {t : Nat} (h : t ≤ 2048) (h2 : ¬ 0 < nI t) : t = 0 := by
  rcases Nat.eq_zero_or_pos t with h3 | h3
  · exact h3
  · exact absurd (nI_lt h3 (by omega)) h2
/-- the bytes of a long, as the tape takes them -/
def xa_by (e : Int64) (i : Nat) : Int32 := vp_nar .byte ((e.toUInt64 >>> (((8 : Int32) * nI i).toInt64.toUInt64 &&& Int64.toUInt64 63)).toInt64).toInt32.toInt8.toInt32
def xa_fd (T : Nat → Int32) (t : Nat) (e : Int64) (i : Nat) : Nat → Int32 := fun j => if t ≤ j ∧ j < t + i then xa_by e (j - t) else T j
theorem xa_fd_0 (T : Nat → Int32) (t : Nat) (e : Int64) : xa_fd T t e 0 = T := by
  funext j; unfold xa_fd; rw [if_neg (by omega)]
theorem xa_fd_s (T : Nat → Int32) (t : Nat) (e : Int64) (i : Nat) : upd (xa_fd T t e i) (t + i) (xa_by e i) = xa_fd T t e (i + 1) := by
  funext j
  unfold upd xa_fd
  by_cases h1 : j = t + i
  · subst h1
    rw [if_pos rfl, if_pos (by omega), Nat.add_sub_cancel_left]
  · rw [if_neg h1]
    by_cases h2 : t ≤ j ∧ j < t + i
    · rw [if_pos h2, if_pos (by omega)]
    · rw [if_neg h2, if_neg (by omega)]
/-- what launch() does -/
def xa_lau (x : XS) (n i9 j9 : Nat) (fr to late : Int32) (b : Nat) (r : Int32) (u : XS) : Prop :=
  (r = 0 ∧ ¬ x.1 8 < 200 ∧ u = xa_sI x 5 (x.1 5 + 1)) ∨ (r = 1 ∧ x.1 8 < 200 ∧ ∃ a q, a ∉ (xa_P x).1 ∧ q ≤ n ∧ (∀ j, q ≤ j → j < n → x.1 0 + xa_L x (i9 * 16 + j9) + late < xa_at x j 3) ∧ (∀ j, q = j + 1 → ¬ x.1 0 + xa_L x (i9 * 16 + j9) + late < xa_at x j 3) ∧ u = xa_sI (xa_add x n a q (xa_five 0 to fr (x.1 0 + xa_L x (i9 * 16 + j9) + late) (x.1 1)) b) 4 ((xa_add x n a q (xa_five 0 to fr (x.1 0 + xa_L x (i9 * 16 + j9) + late) (x.1 1)) b).1 4 + 1))
theorem xa_pos {t : Nat} (h : 0 < nI t) : 0 < t := by
  rcases Nat.eq_zero_or_pos t with h3 | h3
  · subst h3; exact absurd h (by decide)
  · exact h3
theorem xa_ix2 {n : Nat} {p0 : Int32} (hn : n < 2 ^ 31) (h1 : ¬ p0 < 0) (h2 : p0 < nI n) : ∃ j, j < n ∧ p0 = nI j := by
  obtain ⟨j, hj, e⟩ := nI_of h1
  rw [e] at h2
  exact ⟨j, (nI_ltI hj hn).mp h2, e⟩
theorem xa_1to8 {p0 : Int32} (h1 : ¬ p0 < 1) (h2 : p0 ≤ 8) : ∃ n, n ≤ 8 ∧ 1 ≤ n ∧ p0 = nI n := by
  have h3 : ¬ p0 < 0 := fun h => h1 (Int32.lt_trans h (by decide))
  obtain ⟨j, hj, e⟩ := nI_of h3
  subst e
  exact ⟨j, (nI_leI hj (by decide)).mp h2, Nat.le_of_not_lt (fun h => h1 ((nI_ltI hj (by decide)).mpr h)), rfl⟩
/-- what setTimer() and dropTimer() do -/
def xa_mt (x : XS) (t : Nat) (kd ep : Int32) : Prop := xa_at x t 0 = kd ∧ xa_at x t 1 = ep
def xa_put (k : xa_k) (x : XS) (n : Nat) (kd ep ti : Int32) (u : XS) : Prop := ∃ a q, a ∉ (xa_P x).1 ∧ q ≤ n ∧ (∀ j, q ≤ j → j < n → x.1 0 + ti < xa_at x j 3) ∧ (∀ j, q = j + 1 → ¬ x.1 0 + ti < xa_at x j 3) ∧ u = xa_add x n a q (xa_five kd ep (-1) (x.1 0 + ti) (x.1 1)) (xa_a k 9)
def xa_tim (k : xa_k) (x : XS) (n : Nat) (kd ep ti : Int32) (r : Int32) (u : XS) : Prop :=
  (r = 0 ∧ (∀ t, t < n → ¬ xa_mt x t kd ep) ∧ xa_put k x n kd ep ti u) ∨ (∃ i9, i9 < n ∧ r = 1 ∧ xa_mt x i9 kd ep ∧ (∀ t, t < i9 → ¬ xa_mt x t kd ep) ∧ xa_put k (xa_take x n i9) (n - 1) kd ep ti u)
def xa_drp (x : XS) (n : Nat) (kd ep : Int32) (r : Int32) (u : XS) : Prop :=
  (r = 0 ∧ x = u ∧ ∀ t, t < n → ¬ xa_mt x t kd ep) ∨ (∃ j, j < n ∧ r = 1 ∧ xa_mt x j kd ep ∧ (∀ t, t < j → ¬ xa_mt x t kd ep) ∧ u = xa_take x n j)
theorem xa_tim_b {k : xa_k} {x u : XS} {n : Nat} {kd ep ti r : Int32} (h : xa_tim k x n kd ep ti r u) : r = 0 ∨ r = 1 := by
  rcases h with ⟨h, -⟩ | ⟨_, -, h, -⟩
  · exact Or.inl h
  · exact Or.inr h
theorem xa_drp_b {x u : XS} {n : Nat} {kd ep r : Int32} (h : xa_drp x n kd ep r u) : r = 0 ∨ r = 1 := by
  rcases h with ⟨h, -⟩ | ⟨_, -, h, -⟩
  · exact Or.inl h
  · exact Or.inr h
theorem xa_take_P (x : XS) (n j : Nat) : xa_P (xa_take x n j) = xa_P x := (xa_msg_E (xa_sE (xa_sI x 7 (nI (n - 1))) (xa_del (xa_E x) n j)) (xa_at x j 0) (-1)).2.1
theorem xa_msg_I (x : XS) (a b : Int32) (i : Nat) (h : i ≠ 8) : (xa_msg x a b).1 i = x.1 i := by
  unfold xa_msg
  split
  · show upd x.1 8 _ i = _
    unfold upd
    rw [if_neg h]
  · rfl
theorem xa_take_I (x : XS) (n j : Nat) (i : Nat) (h : i ≠ 8) (h7 : i ≠ 7) : (xa_take x n j).1 i = x.1 i := by
  unfold xa_take
  rw [xa_msg_I _ _ _ _ h]
  show upd x.1 7 _ i = _
  unfold upd
  rw [if_neg h7]
/-- no such message -/
def xa_nom (x : XS) (n : Nat) (k9 : Int32) : Prop := k9 < 0 ∨ x.1 8 ≤ k9 ∨ ∀ t, t < n → xa_at x t 0 = 0 → ¬ k9 = nI (xa_cnt x t)
def xa_isM (x : XS) (n : Nat) (k9 : Int32) (j : Nat) : Prop := j < n ∧ xa_at x j 0 = 0 ∧ k9 = nI (xa_cnt x j)
theorem xa_sw (hi : Nat) (hh : hi < 1000) (x : Int32) : (∃ j, j ≤ hi ∧ x = nI j) ∨ (x.toInt < 0 ∨ (hi : Int) < x.toInt) := by
  rcases Int.lt_or_le x.toInt 0 with h | h
  · exact Or.inr (Or.inl h)
  · rcases Int.lt_or_le (hi : Int) x.toInt with h2 | h2
    · exact Or.inr (Or.inr h2)
    · have h3 : ¬ x < 0 := fun h4 => by have := Int32.lt_iff_toInt_lt.mp h4; rw [Int32.toInt_zero] at this; omega
      obtain ⟨j, hj, e⟩ := nI_of h3
      refine Or.inl ⟨j, ?_, e⟩
      rw [e, nI_toInt hj] at h2
      omega
theorem xa_16 {p0 : Int32} (h1 : ¬ p0 < 0) (h2 : ¬ 15 < p0) : ∃ i, i < 16 ∧ p0 = nI i := by
  obtain ⟨j, hj, e⟩ := nI_of h1
  subst e
  exact ⟨j, Nat.lt_of_le_of_lt (Nat.le_of_not_lt (fun h => h2 ((nI_ltI (by decide) hj).mpr h))) (by decide), rfl⟩
theorem xa_n0 {n : Nat} (hn : n ≤ 232) (h : (0 : Int32) < 0 ∨ nI n ≤ 0) : n = 0 := by
  rcases h with h | h
  · exact absurd h (by decide)
  · rcases Nat.eq_zero_or_pos n with h3 | h3
    · exact h3
    · exact absurd h (nI_nle h3 (by omega))
abbrev xa_addP (x : XS) (n : Nat) (fr to tm : Int32) (b : Nat) (u : XS) : Prop := ∃ a q, a ∉ (xa_P x).1 ∧ q ≤ n ∧ (∀ j, q ≤ j → j < n → tm < xa_at x j 3) ∧ (∀ j, q = j + 1 → ¬ tm < xa_at x j 3) ∧ u = xa_add x n a q (xa_five 0 to fr tm (x.1 1)) b
theorem xa_add_R0 {x : XS} {n a q : Nat} {v : Nat → Int32} {b : Nat} (h : xa_R0 x n) (hn : n < 232) (hf : a ∉ (xa_P x).1) (hq : q ≤ n) : xa_R0 (xa_add x n a q v b) (n + 1) := by
  obtain ⟨e1, e2, e3⟩ := xa_msg_E (xa_sI (xa_sE (xa_sP (xa_sI x 1 (x.1 1 + 1)) ((xa_P x).1 ++ [a], va_up (xa_P x).2 a (xa_ev v b))) (xa_ins (xa_E x) n q a)) 7 (nI (n + 1))) (v 0) 1
  refine ⟨e3, by omega, fun t ht => ?_⟩
  show ∃ c, xa_E (xa_msg _ _ _) t = some c ∧ xa_okE (xa_P (xa_msg _ _ _)) c
  rw [e1, e2]
  show ∃ c, xa_ins (xa_E x) n q a t = some c ∧ xa_okE ((xa_P x).1 ++ [a], va_up (xa_P x).2 a (xa_ev v b)) c
  unfold xa_ins
  by_cases h1 : t < q
  · rw [if_pos h1]
    obtain ⟨c, h3, h4⟩ := h.2.2 t (by omega)
    exact ⟨c, h3, (xa_okE_up h4 hf).1⟩
  · rw [if_neg h1]
    by_cases h2 : t = q
    · rw [if_pos h2]
      exact ⟨a, rfl, (xa_okE_of (v := v) (b := b) ⟨List.mem_append_right _ List.mem_cons_self, va_up_self _ _ _⟩).1⟩
    · rw [if_neg h2, if_pos (by omega)]
      obtain ⟨c, h3, h4⟩ := h.2.2 (t - 1) (by omega)
      exact ⟨c, h3, (xa_okE_up h4 hf).1⟩
theorem xa_add_I (x : XS) (n a q : Nat) (v : Nat → Int32) (b i : Nat) (h1 : i ≠ 1) (h7 : i ≠ 7) (h8 : i ≠ 8) : (xa_add x n a q v b).1 i = x.1 i := by
  unfold xa_add
  rw [xa_msg_I _ _ _ _ h8]
  show upd (upd x.1 1 _) 7 _ i = _
  unfold upd
  rw [if_neg h7, if_neg h1]
theorem xa_add_8 (x : XS) (n a q : Nat) (v : Nat → Int32) (b : Nat) (h : v 0 = 0) : (xa_add x n a q v b).1 8 = x.1 8 + 1 := by
  unfold xa_add xa_msg
  rw [if_pos h]
  rfl
/-- launch() keeps the array in order of its words -/
theorem xa_lau_R0 {x u : XS} {n i9 j9 b : Nat} {fr to late r : Int32} (h : xa_lau x n i9 j9 fr to late b r u) (h0 : xa_R0 x n) (hn : x.1 8 < 200 → n < 232) :
    ∃ n2, ((r = 0 ∧ n2 = n) ∨ (r = 1 ∧ n2 = n + 1)) ∧ xa_R0 u n2 ∧ (∀ i, i ≠ 1 → i ≠ 4 → i ≠ 5 → i ≠ 7 → i ≠ 8 → u.1 i = x.1 i) ∧ u.1 8 = x.1 8 + r ∧ (r = 0 ∨ x.1 8 < 200) := by
  rcases h with ⟨rfl, h1, rfl⟩ | ⟨rfl, h1, a, q, hf, hq, -, -, rfl⟩
  · refine ⟨n, Or.inl ⟨rfl, rfl⟩, h0, fun i _ _ h5 _ _ => ?_, ?_, Or.inl rfl⟩
    · show upd x.1 5 _ i = _
      unfold upd
      rw [if_neg h5]
    · show x.1 8 = x.1 8 + 0
      rw [Int32.add_zero]
  · refine ⟨n + 1, Or.inr ⟨rfl, rfl⟩, (show xa_R0 (xa_add x n a q (xa_five 0 to fr (x.1 0 + xa_L x (i9 * 16 + j9) + late) (x.1 1)) b) (n + 1) from xa_add_R0 h0 (hn h1) hf hq), fun i h1 h4 _ h7 h8 => ?_, ?_, Or.inr h1⟩
    · rw [← xa_add_I x n a q (xa_five 0 to fr (x.1 0 + xa_L x (i9 * 16 + j9) + late) (x.1 1)) b i h1 h7 h8]
      show upd _ 4 _ i = _
      unfold upd
      rw [if_neg h4]
    · exact xa_add_8 x n a q (xa_five 0 to fr (x.1 0 + xa_L x (i9 * 16 + j9) + late) (x.1 1)) b rfl
theorem xa_drw {r d m : Int32} (h : 0 < m) (hp : (r = 0 ∧ ¬ 0 < m) ∨ (r = d ∧ 0 < m)) : r = d := by
  rcases hp with ⟨-, h2⟩ | ⟨h2, -⟩
  · exact absurd h h2
  · exact h2
/-- what launchThroughNoise() does -/
abbrev xa_noi (x : XS) (n i9 j9 sp : Nat) (fr to : Int32) (b : Nat) (r : Int32) (u : XS) : Prop :=
  (xa_draw (xa_lcg (xa_D x)) 1000 < x.1 12 ∧ r = 0 ∧ u = xa_sI (xa_sD x (xa_lcg (xa_D x))) 5 (x.1 5 + 1)) ∨
  (¬ xa_draw (xa_lcg (xa_D x)) 1000 < x.1 12 ∧ ∃ r1 u1, xa_lau (xa_sD x (xa_lcg (xa_lcg (xa_lcg (xa_D x))))) n i9 j9 fr to (xa_draw (xa_lcg (xa_lcg (xa_lcg (xa_D x)))) (nI (sp + 1))) b r1 u1 ∧
    ((¬ xa_draw (xa_lcg (xa_lcg (xa_D x))) 1000 < x.1 13 ∧ r = 0 + r1 ∧ u = u1) ∨ (xa_draw (xa_lcg (xa_lcg (xa_D x))) 1000 < x.1 13 ∧ ∃ n2 r2, ((r1 = 0 ∧ n2 = n) ∨ (r1 = 1 ∧ n2 = n + 1)) ∧ xa_lau (xa_sD u1 (xa_lcg (xa_D u1))) n2 i9 j9 fr to (xa_draw (xa_lcg (xa_D u1)) (nI (sp + 1))) b r2 u ∧ r = 0 + r1 + r2)))
theorem xa_posn (sp : Nat) (h : sp ≤ 1000) : 0 < nI (sp + 1) := nI_lt (a := 0) (Nat.succ_pos sp) (by omega)
theorem xa_second {x u : Int32} {n n1 : Nat} {r : Int32} (hn : x < 200 → n < 232) (hn2 : x + 1 < 200 → n + 1 < 232) (h1 : (r = 0 ∧ n1 = n) ∨ (r = 1 ∧ n1 = n + 1)) (h8 : u = x + r) (h : u < 200) : n1 < 232 := by
  rcases h1 with ⟨rfl, rfl⟩ | ⟨rfl, rfl⟩
  · rw [h8, Int32.add_zero] at h
    exact hn h
  · rw [h8] at h
    exact hn2 h
end
section
set_option maxHeartbeats 4000000 in
set_option maxRecDepth 100000 in
theorem c_NetWires_isWithin (l : Launch) (k : xa_k) (x : XS) (v lo hi : Int32)  (sz : Nat) : Met l y_NetWires_isWithin (Cond.code y_NetWires_isWithin b_NetWires_isWithin 3 (some .boolean) :: ga_T) ({ frames := 0, cells := 0, slots := 0, locals := 0 }) (va_Pc [.int v, .int lo, .int hi] (ga_pre (xa_K k) (xa_W k x) sz)) (va_Qi (fun (r : Int32) (u : XS) => x = u ∧ ((r = 1 ∧ (¬ v < lo ∧ ¬ hi < v)) ∨ (r = 0 ∧ (v < lo ∨ hi < v)))) (ga_post (xa_K k) (xa_W k x) sz (xa_W k)) (va_A (xa_W k x) sz)) 0 0 (va_A (xa_W k x) sz) := by
  refine ga_Met (by decide) (Nat.le_of_ble_eq_true rfl) ?_
  intro p e s m below meth c hC hr hlocks _ hw ls hl
  have hx := hC.1
  have hb := hC.2.1
  have hl : lv_has ls 3 [(0, .int v), (1, .int lo), (2, .int hi)] := hl
  refine lv_iload_n hx hb d_NetWires_isWithin_0 rfl (lv_at hl 0 rfl) ?_
  refine lv_iload_n hx hb d_NetWires_isWithin_1 rfl (lv_at hl 1 rfl) ?_
  refine lv_icmp_lt (tgt := 14) hx hb d_NetWires_isWithin_2 (by decide) (fun c_2 => ?_) (fun c_2 => ?_)
  · refine lv_iconst (v := 0) hx hb d_NetWires_isWithin_14 (by decide) ?_
    exact ga_zret (u := x) hC hr hlocks hw (Or.inl rfl) ⟨rfl, Or.inr ⟨rfl, Or.inl c_2⟩⟩ (Nat.le_of_ble_eq_true rfl) (Nat.le_of_ble_eq_true rfl) d_NetWires_isWithin_15
  · refine lv_iload_n hx hb d_NetWires_isWithin_5 rfl (lv_at hl 0 rfl) ?_
    refine lv_iload_n hx hb d_NetWires_isWithin_6 rfl (lv_at hl 2 rfl) ?_
    refine lv_icmp_gt (tgt := 14) hx hb d_NetWires_isWithin_7 (by decide) (fun c_7 => ?_) (fun c_7 => ?_)
    · refine lv_iconst (v := 0) hx hb d_NetWires_isWithin_14 (by decide) ?_
      exact ga_zret (u := x) hC hr hlocks hw (Or.inl rfl) ⟨rfl, Or.inr ⟨rfl, Or.inr c_7⟩⟩ (Nat.le_of_ble_eq_true rfl) (Nat.le_of_ble_eq_true rfl) d_NetWires_isWithin_15
    · refine lv_iconst (v := 1) hx hb d_NetWires_isWithin_10 (by decide) ?_
      refine lv_goto (tgt := 15) hx hb d_NetWires_isWithin_11 (by decide) ?_
      exact ga_zret (u := x) hC hr hlocks hw (Or.inr rfl) ⟨rfl, Or.inl ⟨rfl, c_2, c_7⟩⟩ (Nat.le_of_ble_eq_true rfl) (Nat.le_of_ble_eq_true rfl) d_NetWires_isWithin_15

set_option maxHeartbeats 4000000 in
set_option maxRecDepth 100000 in
theorem c_NetWires_isIn (l : Launch) (k : xa_k) (x : XS) (set ep : Int32)  (sz : Nat) : Met l y_NetWires_isIn (Cond.code y_NetWires_isIn b_NetWires_isIn 2 (some .boolean) :: ga_T) ({ frames := 0, cells := 0, slots := 0, locals := 0 }) (va_Pc [.int set, .int ep] (ga_pre (xa_K k) (xa_W k x) sz)) (va_Qi (fun (r : Int32) (u : XS) => x = u ∧ ((r = 1 ∧ xa_bit set ep = 1) ∨ (r = 0 ∧ ¬ xa_bit set ep = 1))) (ga_post (xa_K k) (xa_W k x) sz (xa_W k)) (va_A (xa_W k x) sz)) 0 0 (va_A (xa_W k x) sz) := by
  refine ga_Met (by decide) (Nat.le_of_ble_eq_true rfl) ?_
  intro p e s m below meth c hC hr hlocks _ hw ls hl
  have hx := hC.1
  have hb := hC.2.1
  have hl : lv_has ls 2 [(0, .int set), (1, .int ep)] := hl
  refine lv_iload_n hx hb d_NetWires_isIn_0 rfl (lv_at hl 0 rfl) ?_
  refine lv_iload_n hx hb d_NetWires_isIn_1 rfl (lv_at hl 1 rfl) ?_
  refine lv_ishr hx hb d_NetWires_isIn_2 ?_
  refine lv_iconst (v := 1) hx hb d_NetWires_isIn_3 (by decide) ?_
  refine lv_iand hx hb d_NetWires_isIn_4 ?_
  refine lv_iconst (v := 1) hx hb d_NetWires_isIn_5 (by decide) ?_
  refine lv_icmp_ne (tgt := 13) hx hb d_NetWires_isIn_6 (by decide) (fun c_6 => ?_) (fun c_6 => ?_)
  · refine lv_iconst (v := 0) hx hb d_NetWires_isIn_13 (by decide) ?_
    exact ga_zret (u := x) hC hr hlocks hw (Or.inl rfl) ⟨rfl, Or.inr ⟨rfl, c_6⟩⟩ (Nat.le_of_ble_eq_true rfl) (Nat.le_of_ble_eq_true rfl) d_NetWires_isIn_14
  · refine lv_iconst (v := 1) hx hb d_NetWires_isIn_9 (by decide) ?_
    refine lv_goto (tgt := 14) hx hb d_NetWires_isIn_10 (by decide) ?_
    exact ga_zret (u := x) hC hr hlocks hw (Or.inr rfl) ⟨rfl, Or.inl ⟨rfl, c_6⟩⟩ (Nat.le_of_ble_eq_true rfl) (Nat.le_of_ble_eq_true rfl) d_NetWires_isIn_14

set_option maxHeartbeats 4000000 in
set_option maxRecDepth 100000 in
theorem c_NetWires_linkOf (l : Launch) (k : xa_k) (x : XS) (fr to : Int32)  (sz : Nat) : Met l y_NetWires_linkOf (Cond.code y_NetWires_linkOf b_NetWires_linkOf 2 (some .int) :: ga_T) ({ frames := 0, cells := 0, slots := 0, locals := 0 }) (va_Pc [.int fr, .int to] (ga_pre (xa_K k) (xa_W k x) sz)) (va_Qi (fun (r : Int32) (u : XS) => r = fr * 16 + to ∧ x = u) (ga_post (xa_K k) (xa_W k x) sz (xa_W k)) (va_A (xa_W k x) sz)) 0 0 (va_A (xa_W k x) sz) := by
  refine ga_Met (by decide) (Nat.le_of_ble_eq_true rfl) ?_
  intro p e s m below meth c hC hr hlocks _ hw ls hl
  have hx := hC.1
  have hb := hC.2.1
  have hl : lv_has ls 2 [(0, .int fr), (1, .int to)] := hl
  refine lv_iload_n hx hb d_NetWires_linkOf_0 rfl (lv_at hl 0 rfl) ?_
  refine lv_bipush (v := 16) hx hb d_NetWires_linkOf_1 (by decide) ?_
  refine lv_imul hx hb d_NetWires_linkOf_3 ?_
  refine lv_iload_n hx hb d_NetWires_linkOf_4 rfl (lv_at hl 1 rfl) ?_
  refine lv_iadd hx hb d_NetWires_linkOf_5 ?_
  exact ga_iret (u := x) hC hr hlocks hw ⟨rfl, rfl⟩ (Nat.le_of_ble_eq_true rfl) (Nat.le_of_ble_eq_true rfl) d_NetWires_linkOf_6

set_option maxHeartbeats 4000000 in
set_option maxRecDepth 100000 in
theorem c_NetWires_takeNumber (l : Launch) (k : xa_k) (x : XS)   (sz : Nat) : Met l y_NetWires_takeNumber (Cond.code y_NetWires_takeNumber b_NetWires_takeNumber 2 (some .int) :: ga_T) ({ frames := 0, cells := 0, slots := 0, locals := 0 }) (va_Pc [.ref (xa_a k 0)] (ga_pre (xa_K k) (xa_W k x) sz)) (va_Qi (fun (r : Int32) (u : XS) => r = x.1 1 ∧ u = xa_sI x 1 (x.1 1 + 1)) (ga_post (xa_K k) (xa_W k x) sz (xa_W k)) (va_A (xa_W k x) sz)) 0 0 (va_A (xa_W k x) sz) := by
  refine ga_Met (by decide) (Nat.le_of_ble_eq_true rfl) ?_
  intro p e s m below meth c hC hr hlocks _ hw ls hl
  have hx := hC.1
  have hb := hC.2.1
  have hl : lv_has ls 2 [(0, .ref (xa_a k 0))] := hl
  refine lv_aload_n hx hb d_NetWires_takeNumber_0 rfl (lv_at hl 0 rfl) ?_
  refine xg_NetWires_nextNumber (v := x.1 1) hC hw fl_NetWires_51 d_NetWires_takeNumber_1 rfl ?_
  refine lv_istore_n (lv' := [(1, .int (x.1 1)), (0, .ref (xa_a k 0))]) hx hb d_NetWires_takeNumber_4 rfl hl (by decide) rfl (fun ls hl => ?_)
  refine lv_aload_n hx hb d_NetWires_takeNumber_5 rfl (lv_at hl 1 rfl) ?_
  refine lv_dup hx hb d_NetWires_takeNumber_6 rfl ?_
  refine xg_NetWires_nextNumber (v := x.1 1) hC hw fl_NetWires_51 d_NetWires_takeNumber_7 rfl ?_
  refine lv_iconst (v := 1) hx hb d_NetWires_takeNumber_10 (by decide) ?_
  refine lv_iadd hx hb d_NetWires_takeNumber_11 ?_
  refine xp_NetWires_nextNumber hC hw fl_NetWires_51 d_NetWires_takeNumber_12 (fun H locs hw => ?_)
  refine lv_iload_n hx hb d_NetWires_takeNumber_15 rfl (lv_at hl 0 rfl) ?_
  exact ga_iret (u := xa_sI x 1 ((x.1 1) + 1)) hC hr hlocks hw ⟨rfl, rfl⟩ (Nat.le_of_ble_eq_true rfl) (Nat.le_of_ble_eq_true rfl) d_NetWires_takeNumber_16

set_option maxHeartbeats 4000000 in
set_option maxRecDepth 100000 in
theorem c_NetWires_areParted (l : Launch) (k : xa_k) (x : XS) (i9 j9 : Int32)  (sz : Nat) : Met l y_NetWires_areParted (Cond.code y_NetWires_areParted b_NetWires_areParted 3 (some .boolean) :: ga_T) ({ frames := 1, cells := 0, slots := 0, locals := 21 }) (va_Pc [.ref (xa_a k 0), .int i9, .int j9] (ga_pre (xa_K k) (xa_W k x) sz)) (va_Qi (fun (r : Int32) (u : XS) => x = u ∧ ((r = 1 ∧ xa_par x i9 j9) ∨ (r = 0 ∧ ¬ xa_par x i9 j9))) (ga_post (xa_K k) (xa_W k x) sz (xa_W k)) (va_A (xa_W k x) sz)) 0 0 (va_A (xa_W k x) sz) := by
  refine ga_Met (by decide) (Nat.le_of_ble_eq_true rfl) ?_
  intro p e s m below meth c hC hr hlocks _ hw ls hl
  have hx := hC.1
  have hb := hC.2.1
  have hl : lv_has ls 3 [(0, .ref (xa_a k 0)), (1, .int i9), (2, .int j9)] := hl
  refine lv_aload_n hx hb d_NetWires_areParted_0 rfl (lv_at hl 0 rfl) ?_
  refine xg_NetWires_partedSet (v := x.1 2) hC hw fl_NetWires_54 d_NetWires_areParted_1 rfl ?_
  refine lv_iload_n hx hb d_NetWires_areParted_4 rfl (lv_at hl 1 rfl) ?_
  refine ga_Si (As := [.int (x.1 2), .int i9]) (rest := []) hC hw (c_NetWires_isIn l k x (x.1 2) i9 _) m_NetWires_isIn ml_NetWires_219 rfl rfl ⟨Nat.le_of_ble_eq_true rfl, Nat.le_of_ble_eq_true rfl⟩ rfl hl.1 rfl (Nat.le_of_ble_eq_true rfl) d_NetWires_areParted_5 ⟨Nat.le_of_ble_eq_true rfl, Nat.le_of_ble_eq_true rfl⟩ (fun r u H locs hp hw => ?_)
  obtain ⟨rfl, hp⟩ := hp
  rcases hp with ⟨rfl, h_5⟩ | ⟨rfl, h_5⟩
  · refine lv_aload_n hx hb d_NetWires_areParted_8 rfl (lv_at hl 0 rfl) ?_
    refine xg_NetWires_partedSet (v := x.1 2) hC hw fl_NetWires_54 d_NetWires_areParted_9 rfl ?_
    refine lv_iload_n hx hb d_NetWires_areParted_12 rfl (lv_at hl 2 rfl) ?_
    refine ga_Si (As := [.int (x.1 2), .int j9]) (rest := [.int 1]) hC hw (c_NetWires_isIn l k x (x.1 2) j9 _) m_NetWires_isIn ml_NetWires_219 rfl rfl ⟨Nat.le_of_ble_eq_true rfl, Nat.le_of_ble_eq_true rfl⟩ rfl hl.1 rfl (Nat.le_of_ble_eq_true rfl) d_NetWires_areParted_13 ⟨Nat.le_of_ble_eq_true rfl, Nat.le_of_ble_eq_true rfl⟩ (fun r u H locs hp hw => ?_)
    obtain ⟨rfl, hp⟩ := hp
    rcases hp with ⟨rfl, h_13⟩ | ⟨rfl, h_13⟩
    · refine lv_icmp_eq (tgt := 23) hx hb d_NetWires_areParted_16 (by decide) (fun c_16 => ?_) (fun c_16 => ?_)
      · refine lv_iconst (v := 0) hx hb d_NetWires_areParted_23 (by decide) ?_
        exact ga_zret (u := x) hC hr hlocks hw (Or.inl rfl) ⟨rfl, Or.inr ⟨rfl, fun h => h ⟨fun _ => h_13, fun _ => h_5⟩⟩⟩ (Nat.le_of_ble_eq_true rfl) (Nat.le_of_ble_eq_true rfl) d_NetWires_areParted_24
      · exact absurd c_16 (by decide)
    · refine lv_icmp_eq (tgt := 23) hx hb d_NetWires_areParted_16 (by decide) (fun c_16 => ?_) (fun c_16 => ?_)
      · exact absurd c_16 (by decide)
      · refine lv_iconst (v := 1) hx hb d_NetWires_areParted_19 (by decide) ?_
        refine lv_goto (tgt := 24) hx hb d_NetWires_areParted_20 (by decide) ?_
        exact ga_zret (u := x) hC hr hlocks hw (Or.inr rfl) ⟨rfl, Or.inl ⟨rfl, fun h => h_13 (h.mp h_5)⟩⟩ (Nat.le_of_ble_eq_true rfl) (Nat.le_of_ble_eq_true rfl) d_NetWires_areParted_24
  · refine lv_aload_n hx hb d_NetWires_areParted_8 rfl (lv_at hl 0 rfl) ?_
    refine xg_NetWires_partedSet (v := x.1 2) hC hw fl_NetWires_54 d_NetWires_areParted_9 rfl ?_
    refine lv_iload_n hx hb d_NetWires_areParted_12 rfl (lv_at hl 2 rfl) ?_
    refine ga_Si (As := [.int (x.1 2), .int j9]) (rest := [.int 0]) hC hw (c_NetWires_isIn l k x (x.1 2) j9 _) m_NetWires_isIn ml_NetWires_219 rfl rfl ⟨Nat.le_of_ble_eq_true rfl, Nat.le_of_ble_eq_true rfl⟩ rfl hl.1 rfl (Nat.le_of_ble_eq_true rfl) d_NetWires_areParted_13 ⟨Nat.le_of_ble_eq_true rfl, Nat.le_of_ble_eq_true rfl⟩ (fun r u H locs hp hw => ?_)
    obtain ⟨rfl, hp⟩ := hp
    rcases hp with ⟨rfl, h_13⟩ | ⟨rfl, h_13⟩
    · refine lv_icmp_eq (tgt := 23) hx hb d_NetWires_areParted_16 (by decide) (fun c_16 => ?_) (fun c_16 => ?_)
      · exact absurd c_16 (by decide)
      · refine lv_iconst (v := 1) hx hb d_NetWires_areParted_19 (by decide) ?_
        refine lv_goto (tgt := 24) hx hb d_NetWires_areParted_20 (by decide) ?_
        exact ga_zret (u := x) hC hr hlocks hw (Or.inr rfl) ⟨rfl, Or.inl ⟨rfl, fun h => h_5 (h.mpr h_13)⟩⟩ (Nat.le_of_ble_eq_true rfl) (Nat.le_of_ble_eq_true rfl) d_NetWires_areParted_24
    · refine lv_icmp_eq (tgt := 23) hx hb d_NetWires_areParted_16 (by decide) (fun c_16 => ?_) (fun c_16 => ?_)
      · refine lv_iconst (v := 0) hx hb d_NetWires_areParted_23 (by decide) ?_
        exact ga_zret (u := x) hC hr hlocks hw (Or.inl rfl) ⟨rfl, Or.inr ⟨rfl, fun h => h ⟨fun a => absurd a h_5, fun a => absurd a h_13⟩⟩⟩ (Nat.le_of_ble_eq_true rfl) (Nat.le_of_ble_eq_true rfl) d_NetWires_areParted_24
      · exact absurd c_16 (by decide)

set_option maxHeartbeats 4000000 in
set_option maxRecDepth 100000 in
theorem c_NetWires_canMeddle (l : Launch) (k : xa_k) (x : XS) (wh ti : Int32)  (sz : Nat) : Met l y_NetWires_canMeddle (Cond.code y_NetWires_canMeddle b_NetWires_canMeddle 2 (some .boolean) :: ga_T) ({ frames := 1, cells := 0, slots := 0, locals := 22 }) (va_Pc [.int wh, .int ti] (ga_pre (xa_K k) (xa_W k x) sz)) (va_Qi (fun (r : Int32) (u : XS) => x = u ∧ ((r = 1 ∧ ((wh = 2 ∧ ¬ ti < 0 ∧ ¬ 1000 < ti) ∨ ((wh = 0 ∨ wh = 1) ∧ ti = 0))) ∨ (r = 0 ∧ ¬ ((wh = 2 ∧ ¬ ti < 0 ∧ ¬ 1000 < ti) ∨ ((wh = 0 ∨ wh = 1) ∧ ti = 0))))) (ga_post (xa_K k) (xa_W k x) sz (xa_W k)) (va_A (xa_W k x) sz)) 0 0 (va_A (xa_W k x) sz) := by
  refine ga_Met (by decide) (Nat.le_of_ble_eq_true rfl) ?_
  intro p e s m below meth c hC hr hlocks _ hw ls hl
  have hx := hC.1
  have hb := hC.2.1
  have hl : lv_has ls 2 [(0, .int wh), (1, .int ti)] := hl
  refine lv_iload_n hx hb d_NetWires_canMeddle_0 rfl (lv_at hl 0 rfl) ?_
  refine lv_iconst (v := 2) hx hb d_NetWires_canMeddle_1 (by decide) ?_
  refine lv_icmp_ne (tgt := 14) hx hb d_NetWires_canMeddle_2 (by decide) (fun c_2 => ?_) (fun c_2 => ?_)
  · refine lv_iload_n hx hb d_NetWires_canMeddle_14 rfl (lv_at hl 0 rfl) ?_
    refine lv_if_eq (tgt := 23) hx hb d_NetWires_canMeddle_15 (by decide) (fun c_15 => ?_) (fun c_15 => ?_)
    · refine lv_iload_n hx hb d_NetWires_canMeddle_23 rfl (lv_at hl 1 rfl) ?_
      refine lv_if_ne (tgt := 31) hx hb d_NetWires_canMeddle_24 (by decide) (fun c_24 => ?_) (fun c_24 => ?_)
      · refine lv_iconst (v := 0) hx hb d_NetWires_canMeddle_31 (by decide) ?_
        exact ga_zret (u := x) hC hr hlocks hw (Or.inl rfl) ⟨rfl, Or.inr ⟨rfl, fun h => h.elim (fun h => c_2 h.1) (fun h => c_24 h.2)⟩⟩ (Nat.le_of_ble_eq_true rfl) (Nat.le_of_ble_eq_true rfl) d_NetWires_canMeddle_32
      · refine lv_iconst (v := 1) hx hb d_NetWires_canMeddle_27 (by decide) ?_
        refine lv_goto (tgt := 32) hx hb d_NetWires_canMeddle_28 (by decide) ?_
        exact ga_zret (u := x) hC hr hlocks hw (Or.inr rfl) ⟨rfl, Or.inl ⟨rfl, Or.inr ⟨Or.inl c_15, c_24⟩⟩⟩ (Nat.le_of_ble_eq_true rfl) (Nat.le_of_ble_eq_true rfl) d_NetWires_canMeddle_32
    · refine lv_iload_n hx hb d_NetWires_canMeddle_18 rfl (lv_at hl 0 rfl) ?_
      refine lv_iconst (v := 1) hx hb d_NetWires_canMeddle_19 (by decide) ?_
      refine lv_icmp_ne (tgt := 31) hx hb d_NetWires_canMeddle_20 (by decide) (fun c_20 => ?_) (fun c_20 => ?_)
      · refine lv_iconst (v := 0) hx hb d_NetWires_canMeddle_31 (by decide) ?_
        exact ga_zret (u := x) hC hr hlocks hw (Or.inl rfl) ⟨rfl, Or.inr ⟨rfl, fun h => h.elim (fun h => c_2 h.1) (fun h => h.1.elim c_15 c_20)⟩⟩ (Nat.le_of_ble_eq_true rfl) (Nat.le_of_ble_eq_true rfl) d_NetWires_canMeddle_32
      · refine lv_iload_n hx hb d_NetWires_canMeddle_23 rfl (lv_at hl 1 rfl) ?_
        refine lv_if_ne (tgt := 31) hx hb d_NetWires_canMeddle_24 (by decide) (fun c_24 => ?_) (fun c_24 => ?_)
        · refine lv_iconst (v := 0) hx hb d_NetWires_canMeddle_31 (by decide) ?_
          exact ga_zret (u := x) hC hr hlocks hw (Or.inl rfl) ⟨rfl, Or.inr ⟨rfl, fun h => h.elim (fun h => c_2 h.1) (fun h => c_24 h.2)⟩⟩ (Nat.le_of_ble_eq_true rfl) (Nat.le_of_ble_eq_true rfl) d_NetWires_canMeddle_32
        · refine lv_iconst (v := 1) hx hb d_NetWires_canMeddle_27 (by decide) ?_
          refine lv_goto (tgt := 32) hx hb d_NetWires_canMeddle_28 (by decide) ?_
          exact ga_zret (u := x) hC hr hlocks hw (Or.inr rfl) ⟨rfl, Or.inl ⟨rfl, Or.inr ⟨Or.inr c_20, c_24⟩⟩⟩ (Nat.le_of_ble_eq_true rfl) (Nat.le_of_ble_eq_true rfl) d_NetWires_canMeddle_32
  · refine lv_iload_n hx hb d_NetWires_canMeddle_5 rfl (lv_at hl 1 rfl) ?_
    refine lv_iconst (v := 0) hx hb d_NetWires_canMeddle_6 (by decide) ?_
    refine lv_sipush (v := 1000) hx hb d_NetWires_canMeddle_7 (by decide) ?_
    refine ga_Si (As := [.int ti, .int 0, .int 1000]) (rest := []) hC hw (c_NetWires_isWithin l k x ti 0 1000 _) m_NetWires_isWithin ml_NetWires_140 rfl rfl ⟨Nat.le_of_ble_eq_true rfl, Nat.le_of_ble_eq_true rfl⟩ rfl hl.1 rfl (Nat.le_of_ble_eq_true rfl) d_NetWires_canMeddle_10 ⟨Nat.le_of_ble_eq_true rfl, Nat.le_of_ble_eq_true rfl⟩ (fun r u H locs hp hw => ?_)
    obtain ⟨rfl, hp⟩ := hp
    rcases hp with ⟨rfl, ⟨h_10, g_10⟩⟩ | ⟨rfl, h_10⟩
    · exact ga_zret (u := x) hC hr hlocks hw (Or.inr rfl) ⟨rfl, Or.inl ⟨rfl, Or.inl ⟨c_2, h_10, g_10⟩⟩⟩ (Nat.le_of_ble_eq_true rfl) (Nat.le_of_ble_eq_true rfl) d_NetWires_canMeddle_13
    · exact ga_zret (u := x) hC hr hlocks hw (Or.inl rfl) ⟨rfl, Or.inr ⟨rfl, fun h => h.elim (fun h => h_10.elim h.2.1 h.2.2) (fun h => by rw [c_2] at h; exact absurd h.1 (by decide))⟩⟩ (Nat.le_of_ble_eq_true rfl) (Nat.le_of_ble_eq_true rfl) d_NetWires_canMeddle_13

set_option maxHeartbeats 4000000 in
set_option maxRecDepth 100000 in
theorem c_Tape_hasRoomFor (l : Launch) (k : xa_k) (x : XS) (n : Int32)  (sz : Nat) : Met l y_Tape_hasRoomFor (Cond.code y_Tape_hasRoomFor b_Tape_hasRoomFor 2 (some .boolean) :: ga_T) ({ frames := 0, cells := 0, slots := 0, locals := 0 }) (va_Pc [.ref (xa_a k 1), .int n] (ga_pre (xa_K k) (xa_W k x) sz)) (va_Qi (fun (r : Int32) (u : XS) => x = u ∧ ((r = 1 ∧ ¬ 2048 - x.1 6 < n) ∨ (r = 0 ∧ 2048 - x.1 6 < n))) (ga_post (xa_K k) (xa_W k x) sz (xa_W k)) (va_A (xa_W k x) sz)) 0 0 (va_A (xa_W k x) sz) := by
  refine ga_Met (by decide) (Nat.le_of_ble_eq_true rfl) ?_
  intro p e s m below meth c hC hr hlocks _ hw ls hl
  have hx := hC.1
  have hb := hC.2.1
  have hl : lv_has ls 2 [(0, .ref (xa_a k 1)), (1, .int n)] := hl
  refine lv_iload_n hx hb d_Tape_hasRoomFor_0 rfl (lv_at hl 1 rfl) ?_
  refine lv_sipush (v := 2048) hx hb d_Tape_hasRoomFor_1 (by decide) ?_
  refine lv_aload_n hx hb d_Tape_hasRoomFor_4 rfl (lv_at hl 0 rfl) ?_
  refine xg_Tape_length (v := x.1 6) hC hw fl_Tape_15 d_Tape_hasRoomFor_5 rfl ?_
  refine lv_isub hx hb d_Tape_hasRoomFor_8 ?_
  refine lv_icmp_gt (tgt := 16) hx hb d_Tape_hasRoomFor_9 (by decide) (fun c_9 => ?_) (fun c_9 => ?_)
  · refine lv_iconst (v := 0) hx hb d_Tape_hasRoomFor_16 (by decide) ?_
    exact ga_zret (u := x) hC hr hlocks hw (Or.inl rfl) ⟨rfl, Or.inr ⟨rfl, c_9⟩⟩ (Nat.le_of_ble_eq_true rfl) (Nat.le_of_ble_eq_true rfl) d_Tape_hasRoomFor_17
  · refine lv_iconst (v := 1) hx hb d_Tape_hasRoomFor_12 (by decide) ?_
    refine lv_goto (tgt := 17) hx hb d_Tape_hasRoomFor_13 (by decide) ?_
    exact ga_zret (u := x) hC hr hlocks hw (Or.inr rfl) ⟨rfl, Or.inl ⟨rfl, c_9⟩⟩ (Nat.le_of_ble_eq_true rfl) (Nat.le_of_ble_eq_true rfl) d_Tape_hasRoomFor_17

set_option maxHeartbeats 4000000 in
set_option maxRecDepth 100000 in
theorem c_Tape_append (l : Launch) (k : xa_k) (x : XS) (v : Int32) (t : Nat) (ht : x.1 6 = nI t) (ht2 : t < 2048) (sz : Nat) : Met l y_Tape_append (Cond.code y_Tape_append b_Tape_append 2 none :: ga_T) ({ frames := 1, cells := 0, slots := 0, locals := 21 }) (va_Pc [.ref (xa_a k 1), .int v] (ga_pre (xa_K k) (xa_W k x) sz)) (va_Qv (fun (u : XS) => u = xa_sI (xa_sT x (upd (xa_T x) t (vp_nar .byte v))) 6 (nI (t + 1))) (ga_post (xa_K k) (xa_W k x) sz (xa_W k)) (va_A (xa_W k x) sz)) 0 0 (va_A (xa_W k x) sz) := by
  refine ga_Met (by decide) (Nat.le_of_ble_eq_true rfl) ?_
  intro p e s m below meth c hC hr hlocks _ hw ls hl
  have hx := hC.1
  have hb := hC.2.1
  have hl : lv_has ls 2 [(0, .ref (xa_a k 1)), (1, .int v)] := hl
  refine lv_aload_n hx hb d_Tape_append_0 rfl (lv_at hl 0 rfl) ?_
  refine lv_iconst (v := 1) hx hb d_Tape_append_1 (by decide) ?_
  refine ga_Vi (As := [.int 1]) (rest := []) hC hw (c_Tape_hasRoomFor l k x 1 _) m_Tape_hasRoomFor ml_Tape_19 (ga_recv hw (q0 := 1) rfl rfl) rfl rfl ⟨Nat.le_of_ble_eq_true rfl, Nat.le_of_ble_eq_true rfl⟩ rfl hl.1 rfl (Nat.le_of_ble_eq_true rfl) d_Tape_append_2 ⟨Nat.le_of_ble_eq_true rfl, Nat.le_of_ble_eq_true rfl⟩ (fun r u H locs hp hw => ?_)
  obtain ⟨rfl, hp⟩ := hp
  rcases hp with ⟨rfl, h_2⟩ | ⟨rfl, h_2⟩
  · refine lv_if_eq (tgt := 28) hx hb d_Tape_append_5 (by decide) (fun c_5 => ?_) (fun c_5 => ?_)
    · exact absurd c_5 (by decide)
    · refine lv_aload_n hx hb d_Tape_append_8 rfl (lv_at hl 0 rfl) ?_
      refine xg_Tape_bytes hC hw fl_Tape_9 d_Tape_append_9 ?_
      refine lv_aload_n hx hb d_Tape_append_12 rfl (lv_at hl 0 rfl) ?_
      refine xg_Tape_length (v := x.1 6) hC hw fl_Tape_15 d_Tape_append_13 rfl ?_
      refine ga_asi (v := nI t) (ht) ?_
      refine lv_iload_n hx hb d_Tape_append_16 rfl (lv_at hl 1 rfl) ?_
      refine xr_tape hC hw (vp_in_nI ht2 (by decide)) d_Tape_append_17 (fun H locs hw => ?_)
      refine lv_aload_n hx hb d_Tape_append_18 rfl (lv_at hl 0 rfl) ?_
      refine lv_dup hx hb d_Tape_append_19 rfl ?_
      refine xg_Tape_length (v := x.1 6) hC hw fl_Tape_15 d_Tape_append_20 rfl ?_
      refine ga_asi (v := nI t) (ht) ?_
      refine lv_iconst (v := 1) hx hb d_Tape_append_23 (by decide) ?_
      refine lv_iadd hx hb d_Tape_append_24 ?_
      refine ga_asi (v := nI (t + 1)) (nI_1 t) ?_
      refine xp_Tape_length hC hw fl_Tape_15 d_Tape_append_25 (fun H locs hw => ?_)
      exact ga_vret (u := xa_sI (xa_sT x (upd (xa_T x) (nI t).toNatClampNeg (vp_nar .byte v))) 6 (nI (t + 1))) hC hr hlocks hw (by rw [nI_clamp (by omega)]) (Nat.le_of_ble_eq_true rfl) (Nat.le_of_ble_eq_true rfl) d_Tape_append_28
  · refine lv_if_eq (tgt := 28) hx hb d_Tape_append_5 (by decide) (fun c_5 => ?_) (fun c_5 => ?_)
    · exact absurd ((xa_room (n := 1) ht (Nat.le_of_lt ht2) (by decide)).mp h_2) (by omega)
    · exact absurd c_5 (by decide)

set_option maxHeartbeats 4000000 in
set_option maxRecDepth 100000 in
theorem c_Noise_isOn (l : Launch) (k : xa_k) (x : XS)   (sz : Nat) : Met l y_Noise_isOn (Cond.code y_Noise_isOn b_Noise_isOn 1 (some .boolean) :: ga_T) ({ frames := 0, cells := 0, slots := 0, locals := 0 }) (va_Pc [.ref (xa_a k 7)] (ga_pre (xa_K k) (xa_W k x) sz)) (va_Qi (fun (r : Int32) (u : XS) => x = u ∧ ((r = 1 ∧ ¬ (x.1 12 = 0 ∧ x.1 13 = 0 ∧ x.1 14 = 0)) ∨ (r = 0 ∧ (x.1 12 = 0 ∧ x.1 13 = 0 ∧ x.1 14 = 0)))) (ga_post (xa_K k) (xa_W k x) sz (xa_W k)) (va_A (xa_W k x) sz)) 0 0 (va_A (xa_W k x) sz) := by
  refine ga_Met (by decide) (Nat.le_of_ble_eq_true rfl) ?_
  intro p e s m below meth c hC hr hlocks _ hw ls hl
  have hx := hC.1
  have hb := hC.2.1
  have hl : lv_has ls 1 [(0, .ref (xa_a k 7))] := hl
  refine lv_aload_n hx hb d_Noise_isOn_0 rfl (lv_at hl 0 rfl) ?_
  refine xg_Noise_loss (v := x.1 12) hC hw fl_Noise_7 d_Noise_isOn_1 rfl ?_
  refine lv_if_ne (tgt := 21) hx hb d_Noise_isOn_4 (by decide) (fun c_4 => ?_) (fun c_4 => ?_)
  · refine lv_iconst (v := 1) hx hb d_Noise_isOn_21 (by decide) ?_
    refine lv_goto (tgt := 26) hx hb d_Noise_isOn_22 (by decide) ?_
    exact ga_zret (u := x) hC hr hlocks hw (Or.inr rfl) ⟨rfl, Or.inl ⟨rfl, by simp [c_4]⟩⟩ (Nat.le_of_ble_eq_true rfl) (Nat.le_of_ble_eq_true rfl) d_Noise_isOn_26
  · refine lv_aload_n hx hb d_Noise_isOn_7 rfl (lv_at hl 0 rfl) ?_
    refine xg_Noise_twice (v := x.1 13) hC hw fl_Noise_13 d_Noise_isOn_8 rfl ?_
    refine lv_if_ne (tgt := 21) hx hb d_Noise_isOn_11 (by decide) (fun c_11 => ?_) (fun c_11 => ?_)
    · refine lv_iconst (v := 1) hx hb d_Noise_isOn_21 (by decide) ?_
      refine lv_goto (tgt := 26) hx hb d_Noise_isOn_22 (by decide) ?_
      exact ga_zret (u := x) hC hr hlocks hw (Or.inr rfl) ⟨rfl, Or.inl ⟨rfl, by simp [c_4, c_11]⟩⟩ (Nat.le_of_ble_eq_true rfl) (Nat.le_of_ble_eq_true rfl) d_Noise_isOn_26
    · refine lv_aload_n hx hb d_Noise_isOn_14 rfl (lv_at hl 0 rfl) ?_
      refine xg_Noise_spread (v := x.1 14) hC hw fl_Noise_16 d_Noise_isOn_15 rfl ?_
      refine lv_if_eq (tgt := 25) hx hb d_Noise_isOn_18 (by decide) (fun c_18 => ?_) (fun c_18 => ?_)
      · refine lv_iconst (v := 0) hx hb d_Noise_isOn_25 (by decide) ?_
        exact ga_zret (u := x) hC hr hlocks hw (Or.inl rfl) ⟨rfl, Or.inr ⟨rfl, by simp [c_4, c_11, c_18]⟩⟩ (Nat.le_of_ble_eq_true rfl) (Nat.le_of_ble_eq_true rfl) d_Noise_isOn_26
      · refine lv_iconst (v := 1) hx hb d_Noise_isOn_21 (by decide) ?_
        refine lv_goto (tgt := 26) hx hb d_Noise_isOn_22 (by decide) ?_
        exact ga_zret (u := x) hC hr hlocks hw (Or.inr rfl) ⟨rfl, Or.inl ⟨rfl, by simp [c_4, c_11, c_18]⟩⟩ (Nat.le_of_ble_eq_true rfl) (Nat.le_of_ble_eq_true rfl) d_Noise_isOn_26

set_option maxHeartbeats 4000000 in
set_option maxRecDepth 100000 in
theorem c_Noise_set (l : Launch) (k : xa_k) (x : XS) (a b c9 : Int32) (d : Int64)  (sz : Nat) : Met l y_Noise_set (Cond.code y_Noise_set b_Noise_set 6 none :: ga_T) ({ frames := 0, cells := 0, slots := 0, locals := 0 }) (va_Pc [.ref (xa_a k 7), .int a, .int b, .int c9, .long d] (ga_pre (xa_K k) (xa_W k x) sz)) (va_Qv (fun (u : XS) => u = xa_sD (xa_sI (xa_sI (xa_sI x 12 a) 13 b) 14 c9) d) (ga_post (xa_K k) (xa_W k x) sz (xa_W k)) (va_A (xa_W k x) sz)) 0 0 (va_A (xa_W k x) sz) := by
  refine ga_Met (by decide) (Nat.le_of_ble_eq_true rfl) ?_
  intro p e s m below meth c hC hr hlocks _ hw ls hl
  have hx := hC.1
  have hb := hC.2.1
  have hl : lv_has ls 6 [(0, .ref (xa_a k 7)), (1, .int a), (2, .int b), (3, .int c9), (4, .long d)] := hl
  refine lv_aload_n hx hb d_Noise_set_0 rfl (lv_at hl 0 rfl) ?_
  refine lv_iload_n hx hb d_Noise_set_1 rfl (lv_at hl 1 rfl) ?_
  refine xp_Noise_loss hC hw fl_Noise_7 d_Noise_set_2 (fun H locs hw => ?_)
  refine lv_aload_n hx hb d_Noise_set_5 rfl (lv_at hl 0 rfl) ?_
  refine lv_iload_n hx hb d_Noise_set_6 rfl (lv_at hl 2 rfl) ?_
  refine xp_Noise_twice hC hw fl_Noise_13 d_Noise_set_7 (fun H locs hw => ?_)
  refine lv_aload_n hx hb d_Noise_set_10 rfl (lv_at hl 0 rfl) ?_
  refine lv_iload_n hx hb d_Noise_set_11 rfl (lv_at hl 3 rfl) ?_
  refine xp_Noise_spread hC hw fl_Noise_16 d_Noise_set_12 (fun H locs hw => ?_)
  refine lv_aload_n hx hb d_Noise_set_15 rfl (lv_at hl 0 rfl) ?_
  refine lv_lload hx hb d_Noise_set_16 (lv_at hl 4 rfl) ?_
  refine xp_Noise_draw hC hw fl_Noise_19 d_Noise_set_18 (fun H locs hw => ?_)
  exact ga_vret (u := xa_sD (xa_sI (xa_sI (xa_sI x 12 a) 13 b) 14 c9) d) hC hr hlocks hw rfl (Nat.le_of_ble_eq_true rfl) (Nat.le_of_ble_eq_true rfl) d_Noise_set_21

set_option maxHeartbeats 4000000 in
set_option maxRecDepth 100000 in
theorem c_Noise_drawBelow (l : Launch) (k : xa_k) (x : XS) (m9 : Int32)  (sz : Nat) : Met l y_Noise_drawBelow (Cond.code y_Noise_drawBelow b_Noise_drawBelow 2 (some .int) :: ga_T) ({ frames := 0, cells := 0, slots := 0, locals := 0 }) (va_Pc [.ref (xa_a k 7), .int m9] (ga_pre (xa_K k) (xa_W k x) sz)) (va_Qi (fun (r : Int32) (u : XS) => u = xa_sD x (xa_lcg (xa_D x)) ∧ ((r = 0 ∧ ¬ 0 < m9) ∨ (r = xa_draw (xa_lcg (xa_D x)) m9 ∧ 0 < m9))) (ga_post (xa_K k) (xa_W k x) sz (xa_W k)) (va_A (xa_W k x) sz)) 0 0 (va_A (xa_W k x) sz) := by
  refine ga_Met (by decide) (Nat.le_of_ble_eq_true rfl) ?_
  intro p e s m below meth c hC hr hlocks _ hw ls hl
  have hx := hC.1
  have hb := hC.2.1
  have hl : lv_has ls 2 [(0, .ref (xa_a k 7)), (1, .int m9)] := hl
  refine lv_aload_n hx hb d_Noise_drawBelow_0 rfl (lv_at hl 0 rfl) ?_
  refine lv_aload_n hx hb d_Noise_drawBelow_1 rfl (lv_at hl 0 rfl) ?_
  refine xg_Noise_draw (v := xa_D x) hC hw fl_Noise_19 d_Noise_drawBelow_2 rfl ?_
  refine lv_ldc2 (v := 6364136223846793005) hx hb hC.2.2.2.1 (hC.2.2.2.2 _ kc_Noise_23) d_Noise_drawBelow_5 ?_
  refine lv_lmul hx hb d_Noise_drawBelow_8 ?_
  refine lv_ldc2 (v := 1442695040888963407) hx hb hC.2.2.2.1 (hC.2.2.2.2 _ kc_Noise_25) d_Noise_drawBelow_9 ?_
  refine lv_ladd hx hb d_Noise_drawBelow_12 ?_
  refine xp_Noise_draw hC hw fl_Noise_19 d_Noise_drawBelow_13 (fun H locs hw => ?_)
  refine lv_iload_n hx hb d_Noise_drawBelow_16 rfl (lv_at hl 1 rfl) ?_
  refine lv_if_gt (tgt := 22) hx hb d_Noise_drawBelow_17 (by decide) (fun c_17 => ?_) (fun c_17 => ?_)
  · refine lv_aload_n hx hb d_Noise_drawBelow_22 rfl (lv_at hl 0 rfl) ?_
    refine xg_Noise_draw (v := ((xa_D x) * 6364136223846793005) + 1442695040888963407) hC hw fl_Noise_19 d_Noise_drawBelow_23 rfl ?_
    refine lv_bipush (v := 33) hx hb d_Noise_drawBelow_26 (by decide) ?_
    refine lv_lushr hx hb d_Noise_drawBelow_28 rfl ?_
    refine lv_iload_n hx hb d_Noise_drawBelow_29 rfl (lv_at hl 1 rfl) ?_
    refine lv_i2l hx hb d_Noise_drawBelow_30 rfl ?_
    refine lv_lrem hx hb d_Noise_drawBelow_31 (xa_nz c_17) ?_
    refine lv_l2i hx hb d_Noise_drawBelow_32 rfl ?_
    exact ga_iret (u := xa_sD x (((xa_D x) * 6364136223846793005) + 1442695040888963407)) hC hr hlocks hw ⟨rfl, Or.inr ⟨rfl, c_17⟩⟩ (Nat.le_of_ble_eq_true rfl) (Nat.le_of_ble_eq_true rfl) d_Noise_drawBelow_33
  · refine lv_iconst (v := 0) hx hb d_Noise_drawBelow_20 (by decide) ?_
    exact ga_iret (u := xa_sD x (((xa_D x) * 6364136223846793005) + 1442695040888963407)) hC hr hlocks hw ⟨rfl, Or.inl ⟨rfl, c_17⟩⟩ (Nat.le_of_ble_eq_true rfl) (Nat.le_of_ble_eq_true rfl) d_Noise_drawBelow_21

set_option maxHeartbeats 4000000 in
set_option maxRecDepth 100000 in
theorem c_History_remember (l : Launch) (k : xa_k) (x : XS) (ans : Int32) (a w kp : Nat) (v : Nat → Int32) (b : Nat) (hE : xa_isE (xa_P x) a v b) (hw9 : x.1 9 = nI w) (hw2 : w < 32) (hk9 : x.1 10 = nI kp) (hk2 : kp ≤ 32) (sz : Nat) : Met l y_History_remember (Cond.code y_History_remember b_History_remember 4 none :: ga_T) ({ frames := 0, cells := 0, slots := 0, locals := 0 }) (va_Pc [.ref (xa_a k 5), .int ans, .ref a] (ga_pre (xa_K k) (xa_W k x) sz)) (va_Qv (fun (u : XS) => u = xa_rmb x ans v w kp) (ga_post (xa_K k) (xa_W k x) sz (xa_W k)) (va_A (xa_W k x) sz)) 0 0 (va_A (xa_W k x) sz) := by
  refine ga_Met (by decide) (Nat.le_of_ble_eq_true rfl) ?_
  intro p e s m below meth c hC hr hlocks _ hw ls hl
  have hx := hC.1
  have hb := hC.2.1
  have hl : lv_has ls 4 [(0, .ref (xa_a k 5)), (1, .int ans), (2, .ref a)] := hl
  have hW : (w + 1) % 32 < 32 := Nat.mod_lt _ (by decide)
  have hin : ∀ d, d < 4 → vp_in (nI ((w + 1) % 32 * 4 + d)) 128 := fun d hd => vp_in_nI (by omega) (by decide)
  have hcl0 : (nI ((w + 1) % 32 * 4)).toNatClampNeg = (w + 1) % 32 * 4 := nI_clamp (by omega)
  have hcl : ∀ d, d < 4 → (nI ((w + 1) % 32 * 4 + d)).toNatClampNeg = (w + 1) % 32 * 4 + d := fun d hd => nI_clamp (by omega)
  refine lv_aload_n hx hb d_History_remember_0 rfl (lv_at hl 0 rfl) ?_
  refine lv_aload_n hx hb d_History_remember_1 rfl (lv_at hl 0 rfl) ?_
  refine xg_History_newest (v := x.1 9) hC hw fl_History_15 d_History_remember_2 rfl ?_
  refine ga_asi (v := nI w) (hw9) ?_
  refine lv_iconst (v := 1) hx hb d_History_remember_5 (by decide) ?_
  refine lv_iadd hx hb d_History_remember_6 ?_
  refine ga_asi (v := nI (w + 1)) (nI_1 w) ?_
  refine lv_bipush (v := 32) hx hb d_History_remember_7 (by decide) ?_
  refine lv_irem hx hb d_History_remember_9 (by decide) ?_
  refine ga_asi (v := nI ((w + 1) % 32)) (xa_rem32 (by omega)) ?_
  refine xp_History_newest hC hw fl_History_15 d_History_remember_10 (fun H locs hw => ?_)
  refine lv_aload_n hx hb d_History_remember_13 rfl (lv_at hl 0 rfl) ?_
  refine xg_History_newest (v := nI ((w + 1) % 32)) hC hw fl_History_15 d_History_remember_14 rfl ?_
  refine lv_iconst (v := 4) hx hb d_History_remember_17 (by decide) ?_
  refine lv_imul hx hb d_History_remember_18 ?_
  refine ga_asi (v := nI ((w + 1) % 32 * 4)) (pk_mul _ 4) ?_
  refine lv_istore_n (lv' := [(3, .int (nI ((w + 1) % 32 * 4))), (0, .ref (xa_a k 5)), (1, .int ans), (2, .ref a)]) hx hb d_History_remember_19 rfl hl (by decide) rfl (fun ls hl => ?_)
  refine lv_aload_n hx hb d_History_remember_20 rfl (lv_at hl 1 rfl) ?_
  refine xg_History_facts hC hw fl_History_9 d_History_remember_21 ?_
  refine lv_iload_n hx hb d_History_remember_24 rfl (lv_at hl 0 rfl) ?_
  refine lv_iload_n hx hb d_History_remember_25 rfl (lv_at hl 2 rfl) ?_
  refine xs_facts hC hw (hin 0 (by decide)) d_History_remember_26 (fun H locs hw => ?_)
  refine lv_aload_n hx hb d_History_remember_27 rfl (lv_at hl 1 rfl) ?_
  refine xg_History_facts hC hw fl_History_9 d_History_remember_28 ?_
  refine lv_iload_n hx hb d_History_remember_31 rfl (lv_at hl 0 rfl) ?_
  refine lv_iconst (v := 1) hx hb d_History_remember_32 (by decide) ?_
  refine lv_iadd hx hb d_History_remember_33 ?_
  refine ga_asi (v := nI ((w + 1) % 32 * 4 + 1)) (nI_add _ 1) ?_
  refine lv_aload_n hx hb d_History_remember_34 rfl (lv_at hl 3 rfl) ?_
  refine xe_time hC hw hE fl_History_25 d_History_remember_35 ?_
  refine xs_facts hC hw (hin 1 (by decide)) d_History_remember_38 (fun H locs hw => ?_)
  refine lv_aload_n hx hb d_History_remember_39 rfl (lv_at hl 1 rfl) ?_
  refine xg_History_facts hC hw fl_History_9 d_History_remember_40 ?_
  refine lv_iload_n hx hb d_History_remember_43 rfl (lv_at hl 0 rfl) ?_
  refine lv_iconst (v := 2) hx hb d_History_remember_44 (by decide) ?_
  refine lv_iadd hx hb d_History_remember_45 ?_
  refine ga_asi (v := nI ((w + 1) % 32 * 4 + 2)) (nI_add _ 2) ?_
  refine lv_aload_n hx hb d_History_remember_46 rfl (lv_at hl 3 rfl) ?_
  refine xe_number hC hw hE fl_History_30 d_History_remember_47 ?_
  refine xs_facts hC hw (hin 2 (by decide)) d_History_remember_50 (fun H locs hw => ?_)
  refine lv_aload_n hx hb d_History_remember_51 rfl (lv_at hl 1 rfl) ?_
  refine xg_History_facts hC hw fl_History_9 d_History_remember_52 ?_
  refine lv_iload_n hx hb d_History_remember_55 rfl (lv_at hl 0 rfl) ?_
  refine lv_iconst (v := 3) hx hb d_History_remember_56 (by decide) ?_
  refine lv_iadd hx hb d_History_remember_57 ?_
  refine ga_asi (v := nI ((w + 1) % 32 * 4 + 3)) (nI_add _ 3) ?_
  refine lv_aload_n hx hb d_History_remember_58 rfl (lv_at hl 3 rfl) ?_
  refine xe_from hC hw hE fl_History_33 d_History_remember_59 ?_
  refine xs_facts hC hw (hin 3 (by decide)) d_History_remember_62 (fun H locs hw => ?_)
  refine lv_aload_n hx hb d_History_remember_63 rfl (lv_at hl 1 rfl) ?_
  refine xg_History_kept (v := x.1 10) hC hw fl_History_19 d_History_remember_64 rfl ?_
  refine ga_asi (v := nI kp) (hk9) ?_
  refine lv_bipush (v := 32) hx hb d_History_remember_67 (by decide) ?_
  refine lv_icmp_ge (tgt := 82) hx hb d_History_remember_69 (by decide) (fun c_69 => ?_) (fun c_69 => ?_)
  · refine lv_aload_n hx hb d_History_remember_82 rfl (lv_at hl 1 rfl) ?_
    refine lv_dup hx hb d_History_remember_83 rfl ?_
    refine xg_History_total (v := x.1 11) hC hw fl_History_22 d_History_remember_84 rfl ?_
    refine lv_iconst (v := 1) hx hb d_History_remember_87 (by decide) ?_
    refine lv_iadd hx hb d_History_remember_88 ?_
    refine xp_History_total hC hw fl_History_22 d_History_remember_89 (fun H locs hw => ?_)
    exact ga_vret (u := xa_sI (xa_sF (xa_sF (xa_sF (xa_sF (xa_sI x 9 (nI ((w + 1) % 32))) (upd (xa_F x) (nI ((w + 1) % 32 * 4)).toNatClampNeg ans)) (upd (upd (xa_F x) (nI ((w + 1) % 32 * 4)).toNatClampNeg ans) (nI ((w + 1) % 32 * 4 + 1)).toNatClampNeg (v 3))) (upd (upd (upd (xa_F x) (nI ((w + 1) % 32 * 4)).toNatClampNeg ans) (nI ((w + 1) % 32 * 4 + 1)).toNatClampNeg (v 3)) (nI ((w + 1) % 32 * 4 + 2)).toNatClampNeg (v 4))) (upd (upd (upd (upd (xa_F x) (nI ((w + 1) % 32 * 4)).toNatClampNeg ans) (nI ((w + 1) % 32 * 4 + 1)).toNatClampNeg (v 3)) (nI ((w + 1) % 32 * 4 + 2)).toNatClampNeg (v 4)) (nI ((w + 1) % 32 * 4 + 3)).toNatClampNeg (v 2))) 11 ((x.1 11) + 1)) hC hr hlocks hw (by unfold xa_rmb xa_mem; rw [if_neg (fun h => absurd (nI_lt h (by decide)) (Int32.not_lt.mpr c_69)), xa_sI_id (y := xa_sF (xa_sI x 9 (nI ((w + 1) % 32))) _) (i := 10) (v := nI kp) hk9, hcl0, hcl 1 (by decide), hcl 2 (by decide), hcl 3 (by decide)] <;> rfl) (Nat.le_of_ble_eq_true rfl) (Nat.le_of_ble_eq_true rfl) d_History_remember_92
  · refine lv_aload_n hx hb d_History_remember_72 rfl (lv_at hl 1 rfl) ?_
    refine lv_dup hx hb d_History_remember_73 rfl ?_
    refine xg_History_kept (v := x.1 10) hC hw fl_History_19 d_History_remember_74 rfl ?_
    refine ga_asi (v := nI kp) (hk9) ?_
    refine lv_iconst (v := 1) hx hb d_History_remember_77 (by decide) ?_
    refine lv_iadd hx hb d_History_remember_78 ?_
    refine ga_asi (v := nI (kp + 1)) (nI_1 kp) ?_
    refine xp_History_kept hC hw fl_History_19 d_History_remember_79 (fun H locs hw => ?_)
    refine lv_aload_n hx hb d_History_remember_82 rfl (lv_at hl 1 rfl) ?_
    refine lv_dup hx hb d_History_remember_83 rfl ?_
    refine xg_History_total (v := x.1 11) hC hw fl_History_22 d_History_remember_84 rfl ?_
    refine lv_iconst (v := 1) hx hb d_History_remember_87 (by decide) ?_
    refine lv_iadd hx hb d_History_remember_88 ?_
    refine xp_History_total hC hw fl_History_22 d_History_remember_89 (fun H locs hw => ?_)
    exact ga_vret (u := xa_sI (xa_sI (xa_sF (xa_sF (xa_sF (xa_sF (xa_sI x 9 (nI ((w + 1) % 32))) (upd (xa_F x) (nI ((w + 1) % 32 * 4)).toNatClampNeg ans)) (upd (upd (xa_F x) (nI ((w + 1) % 32 * 4)).toNatClampNeg ans) (nI ((w + 1) % 32 * 4 + 1)).toNatClampNeg (v 3))) (upd (upd (upd (xa_F x) (nI ((w + 1) % 32 * 4)).toNatClampNeg ans) (nI ((w + 1) % 32 * 4 + 1)).toNatClampNeg (v 3)) (nI ((w + 1) % 32 * 4 + 2)).toNatClampNeg (v 4))) (upd (upd (upd (upd (xa_F x) (nI ((w + 1) % 32 * 4)).toNatClampNeg ans) (nI ((w + 1) % 32 * 4 + 1)).toNatClampNeg (v 3)) (nI ((w + 1) % 32 * 4 + 2)).toNatClampNeg (v 4)) (nI ((w + 1) % 32 * 4 + 3)).toNatClampNeg (v 2))) 10 (nI (kp + 1))) 11 ((x.1 11) + 1)) hC hr hlocks hw (by unfold xa_rmb xa_mem; rw [if_pos ((nI_ltI (by omega) (by decide)).mp (Int32.not_le.mp c_69)), hcl0, hcl 1 (by decide), hcl 2 (by decide), hcl 3 (by decide)] <;> rfl) (Nat.le_of_ble_eq_true rfl) (Nat.le_of_ble_eq_true rfl) d_History_remember_92

set_option maxHeartbeats 4000000 in
set_option maxRecDepth 100000 in
theorem c_NetWires_receive (l : Launch) (k : xa_k) (x : XS) (a : Nat) (v : Nat → Int32) (b : Nat) (hE : xa_isE (xa_P x) a v b) (sz : Nat) : Met l y_NetWires_receive (Cond.code y_NetWires_receive b_NetWires_receive 2 (some .int) :: ga_T) ({ frames := 2, cells := 0, slots := 0, locals := 43 }) (va_Pc [.ref (xa_a k 0), .ref a] (ga_pre (xa_K k) (xa_W k x) sz)) (va_Qi (fun (r : Int32) (u : XS) => (r = 16 ∧ u = xa_sI x 5 (x.1 5 + 1) ∧ xa_lose x v) ∨ (r = 0 ∧ u = xa_sB x b ∧ ¬ xa_lose x v)) (ga_post (xa_K k) (xa_W k x) sz (xa_W k)) (va_A (xa_W k x) sz)) 0 0 (va_A (xa_W k x) sz) := by
  refine ga_Met (by decide) (Nat.le_of_ble_eq_true rfl) ?_
  intro p e s m below meth c hC hr hlocks _ hw ls hl
  have hx := hC.1
  have hb := hC.2.1
  have hl : lv_has ls 2 [(0, .ref (xa_a k 0)), (1, .ref a)] := hl
  refine lv_aload_n hx hb d_NetWires_receive_0 rfl (lv_at hl 0 rfl) ?_
  refine lv_aload_n hx hb d_NetWires_receive_1 rfl (lv_at hl 1 rfl) ?_
  refine xe_from hC hw hE fl_NetWires_175 d_NetWires_receive_2 ?_
  refine lv_aload_n hx hb d_NetWires_receive_5 rfl (lv_at hl 1 rfl) ?_
  refine xe_endpoint hC hw hE fl_NetWires_178 d_NetWires_receive_6 ?_
  refine ga_Vi (As := [.int (v 2), .int (v 1)]) (rest := []) hC hw (c_NetWires_areParted l k x (v 2) (v 1) _) m_NetWires_areParted ml_NetWires_104 (ga_recv hw (q0 := 0) rfl rfl) rfl rfl ⟨Nat.le_of_ble_eq_true rfl, Nat.le_of_ble_eq_true rfl⟩ rfl hl.1 rfl (Nat.le_of_ble_eq_true rfl) d_NetWires_receive_9 ⟨Nat.le_of_ble_eq_true rfl, Nat.le_of_ble_eq_true rfl⟩ (fun r u H locs hp hw => ?_)
  obtain ⟨rfl, hp⟩ := hp
  rcases hp with ⟨rfl, h_9⟩ | ⟨rfl, h_9⟩
  · refine lv_if_ne (tgt := 29) hx hb d_NetWires_receive_12 (by decide) (fun c_12 => ?_) (fun c_12 => ?_)
    · refine lv_aload_n hx hb d_NetWires_receive_29 rfl (lv_at hl 0 rfl) ?_
      refine lv_dup hx hb d_NetWires_receive_30 rfl ?_
      refine xg_NetWires_lost (v := x.1 5) hC hw fl_NetWires_63 d_NetWires_receive_31 rfl ?_
      refine lv_iconst (v := 1) hx hb d_NetWires_receive_34 (by decide) ?_
      refine lv_iadd hx hb d_NetWires_receive_35 ?_
      refine xp_NetWires_lost hC hw fl_NetWires_63 d_NetWires_receive_36 (fun H locs hw => ?_)
      refine lv_bipush (v := 16) hx hb d_NetWires_receive_39 (by decide) ?_
      exact ga_iret (u := xa_sI x 5 ((x.1 5) + 1)) hC hr hlocks hw (Or.inl ⟨rfl, rfl, Or.inl h_9⟩) (Nat.le_of_ble_eq_true rfl) (Nat.le_of_ble_eq_true rfl) d_NetWires_receive_41
    · exact absurd c_12 (by decide)
  · refine lv_if_ne (tgt := 29) hx hb d_NetWires_receive_12 (by decide) (fun c_12 => ?_) (fun c_12 => ?_)
    · exact absurd c_12 (by decide)
    · refine lv_aload_n hx hb d_NetWires_receive_15 rfl (lv_at hl 0 rfl) ?_
      refine xg_NetWires_downSet (v := x.1 3) hC hw fl_NetWires_57 d_NetWires_receive_16 rfl ?_
      refine lv_aload_n hx hb d_NetWires_receive_19 rfl (lv_at hl 1 rfl) ?_
      refine xe_endpoint hC hw hE fl_NetWires_178 d_NetWires_receive_20 ?_
      refine ga_Si (As := [.int (x.1 3), .int (v 1)]) (rest := []) hC hw (c_NetWires_isIn l k x (x.1 3) (v 1) _) m_NetWires_isIn ml_NetWires_219 rfl rfl ⟨Nat.le_of_ble_eq_true rfl, Nat.le_of_ble_eq_true rfl⟩ rfl hl.1 rfl (Nat.le_of_ble_eq_true rfl) d_NetWires_receive_23 ⟨Nat.le_of_ble_eq_true rfl, Nat.le_of_ble_eq_true rfl⟩ (fun r u H locs hp hw => ?_)
      obtain ⟨rfl, hp⟩ := hp
      rcases hp with ⟨rfl, h_23⟩ | ⟨rfl, h_23⟩
      · refine lv_if_eq (tgt := 42) hx hb d_NetWires_receive_26 (by decide) (fun c_26 => ?_) (fun c_26 => ?_)
        · exact absurd c_26 (by decide)
        · refine lv_aload_n hx hb d_NetWires_receive_29 rfl (lv_at hl 0 rfl) ?_
          refine lv_dup hx hb d_NetWires_receive_30 rfl ?_
          refine xg_NetWires_lost (v := x.1 5) hC hw fl_NetWires_63 d_NetWires_receive_31 rfl ?_
          refine lv_iconst (v := 1) hx hb d_NetWires_receive_34 (by decide) ?_
          refine lv_iadd hx hb d_NetWires_receive_35 ?_
          refine xp_NetWires_lost hC hw fl_NetWires_63 d_NetWires_receive_36 (fun H locs hw => ?_)
          refine lv_bipush (v := 16) hx hb d_NetWires_receive_39 (by decide) ?_
          exact ga_iret (u := xa_sI x 5 ((x.1 5) + 1)) hC hr hlocks hw (Or.inl ⟨rfl, rfl, Or.inr h_23⟩) (Nat.le_of_ble_eq_true rfl) (Nat.le_of_ble_eq_true rfl) d_NetWires_receive_41
      · refine lv_if_eq (tgt := 42) hx hb d_NetWires_receive_26 (by decide) (fun c_26 => ?_) (fun c_26 => ?_)
        · refine lv_aload_n hx hb d_NetWires_receive_42 rfl (lv_at hl 0 rfl) ?_
          refine lv_aload_n hx hb d_NetWires_receive_43 rfl (lv_at hl 1 rfl) ?_
          refine xe_bytes hC hw hE fl_NetWires_181 d_NetWires_receive_44 ?_
          refine xp_NetWires_arrivedBytes hC hw fl_NetWires_70 d_NetWires_receive_47 (fun H locs hw => ?_)
          refine lv_iconst (v := 0) hx hb d_NetWires_receive_50 (by decide) ?_
          exact ga_iret (u := xa_sB x b) hC hr hlocks hw (Or.inr ⟨rfl, rfl, fun h => h.elim h_9 h_23⟩) (Nat.le_of_ble_eq_true rfl) (Nat.le_of_ble_eq_true rfl) d_NetWires_receive_51
        · exact absurd c_26 (by decide)

set_option maxHeartbeats 4000000 in
set_option maxRecDepth 100000 in
theorem c_NetWires_letHappen (l : Launch) (k : xa_k) (x : XS) (a w kp : Nat) (v : Nat → Int32) (b : Nat) (hE : xa_isE (xa_P x) a v b) (hw9 : x.1 9 = nI w) (hw2 : w < 32) (hk9 : x.1 10 = nI kp) (hk2 : kp ≤ 32) (sz : Nat) : Met l y_NetWires_letHappen (Cond.code y_NetWires_letHappen b_NetWires_letHappen 4 (some .int) :: ga_T) ({ frames := 3, cells := 0, slots := 0, locals := 64 }) (va_Pc [.ref (xa_a k 0), .ref a] (ga_pre (xa_K k) (xa_W k x) sz)) (va_Qi (fun (r : Int32) (u : XS) => ∃ y, xa_hap x v b y r ∧ u = xa_rmb y r v w kp) (ga_post (xa_K k) (xa_W k x) sz (xa_W k)) (va_A (xa_W k x) sz)) 0 0 (va_A (xa_W k x) sz) := by
  refine ga_Met (by decide) (Nat.le_of_ble_eq_true rfl) ?_
  intro p e s m below meth c hC hr hlocks _ hw ls hl
  have hx := hC.1
  have hb := hC.2.1
  have hl : lv_has ls 4 [(0, .ref (xa_a k 0)), (1, .ref a)] := hl
  refine lv_aload_n hx hb d_NetWires_letHappen_0 rfl (lv_at hl 0 rfl) ?_
  refine lv_aload_n hx hb d_NetWires_letHappen_1 rfl (lv_at hl 1 rfl) ?_
  refine xe_time hC hw hE fl_NetWires_148 d_NetWires_letHappen_2 ?_
  refine xp_NetWires_now hC hw fl_NetWires_47 d_NetWires_letHappen_5 (fun H locs hw => ?_)
  refine lv_aload_n hx hb d_NetWires_letHappen_8 rfl (lv_at hl 1 rfl) ?_
  refine xe_kind hC hw hE fl_NetWires_245 d_NetWires_letHappen_9 ?_
  refine lv_istore_n (lv' := [(2, .int (v 0)), (0, .ref (xa_a k 0)), (1, .ref a)]) hx hb d_NetWires_letHappen_12 rfl hl (by decide) rfl (fun ls hl => ?_)
  refine lv_iload_n hx hb d_NetWires_letHappen_13 rfl (lv_at hl 0 rfl) ?_
  refine lv_if_ne (tgt := 23) hx hb d_NetWires_letHappen_14 (by decide) (fun c_14 => ?_) (fun c_14 => ?_)
  · refine lv_aload_n hx hb d_NetWires_letHappen_23 rfl (lv_at hl 2 rfl) ?_
    refine xe_endpoint hC hw hE fl_NetWires_178 d_NetWires_letHappen_24 ?_
    refine lv_iload_n hx hb d_NetWires_letHappen_27 rfl (lv_at hl 0 rfl) ?_
    refine lv_iadd hx hb d_NetWires_letHappen_28 ?_
    refine lv_istore_n (lv' := [(3, .int ((v 1) + (v 0))), (2, .int (v 0)), (0, .ref (xa_a k 0)), (1, .ref a)]) hx hb d_NetWires_letHappen_29 rfl hl (by decide) rfl (fun ls hl => ?_)
    refine lv_aload_n hx hb d_NetWires_letHappen_30 rfl (lv_at hl 2 rfl) ?_
    refine xg_NetWires_history hC hw fl_NetWires_26 d_NetWires_letHappen_31 ?_
    refine lv_iload_n hx hb d_NetWires_letHappen_34 rfl (lv_at hl 0 rfl) ?_
    refine lv_aload_n hx hb d_NetWires_letHappen_35 rfl (lv_at hl 3 rfl) ?_
    refine ga_Vv (As := [.int ((v 1) + (v 0)), .ref a]) (rest := []) hC hw (c_History_remember l k (xa_sI x 0 (v 3)) ((v 1) + (v 0)) a w kp v b hE hw9 hw2 hk9 hk2 _) m_History_remember ml_NetWires_251 (ga_recv hw (q0 := 5) rfl rfl) rfl rfl ⟨Nat.le_of_ble_eq_true rfl, Nat.le_of_ble_eq_true rfl⟩ rfl hl.1 rfl (Nat.le_of_ble_eq_true rfl) d_NetWires_letHappen_36 ⟨Nat.le_of_ble_eq_true rfl, Nat.le_of_ble_eq_true rfl⟩ (fun u H locs hp hw => ?_)
    subst hp
    refine lv_iload_n hx hb d_NetWires_letHappen_39 rfl (lv_at hl 0 rfl) ?_
    exact ga_iret (u := xa_rmb (xa_sI x 0 (v 3)) ((v 1) + (v 0)) v w kp) hC hr hlocks hw ⟨_, Or.inl ⟨c_14, rfl, rfl⟩, rfl⟩ (Nat.le_of_ble_eq_true rfl) (Nat.le_of_ble_eq_true rfl) d_NetWires_letHappen_40
  · refine lv_aload_n hx hb d_NetWires_letHappen_17 rfl (lv_at hl 1 rfl) ?_
    refine lv_aload_n hx hb d_NetWires_letHappen_18 rfl (lv_at hl 2 rfl) ?_
    refine ga_Vi (As := [.ref a]) (rest := []) hC hw (c_NetWires_receive l k (xa_sI x 0 (v 3)) a v b hE _) m_NetWires_receive ml_NetWires_248 (ga_recv hw (q0 := 0) rfl rfl) rfl rfl ⟨Nat.le_of_ble_eq_true rfl, Nat.le_of_ble_eq_true rfl⟩ rfl hl.1 rfl (Nat.le_of_ble_eq_true rfl) d_NetWires_letHappen_19 ⟨Nat.le_of_ble_eq_true rfl, Nat.le_of_ble_eq_true rfl⟩ (fun r u H locs hp hw => ?_)
    rcases hp with ⟨rfl, rfl, h_19⟩ | ⟨rfl, rfl, h_19⟩
    · refine lv_istore_n (lv' := [(2, .int 16), (0, .ref (xa_a k 0)), (1, .ref a)]) hx hb d_NetWires_letHappen_22 rfl hl (by decide) rfl (fun ls hl => ?_)
      refine lv_aload_n hx hb d_NetWires_letHappen_23 rfl (lv_at hl 2 rfl) ?_
      refine xe_endpoint hC hw hE fl_NetWires_178 d_NetWires_letHappen_24 ?_
      refine lv_iload_n hx hb d_NetWires_letHappen_27 rfl (lv_at hl 0 rfl) ?_
      refine lv_iadd hx hb d_NetWires_letHappen_28 ?_
      refine lv_istore_n (lv' := [(3, .int ((v 1) + 16)), (2, .int 16), (0, .ref (xa_a k 0)), (1, .ref a)]) hx hb d_NetWires_letHappen_29 rfl hl (by decide) rfl (fun ls hl => ?_)
      refine lv_aload_n hx hb d_NetWires_letHappen_30 rfl (lv_at hl 2 rfl) ?_
      refine xg_NetWires_history hC hw fl_NetWires_26 d_NetWires_letHappen_31 ?_
      refine lv_iload_n hx hb d_NetWires_letHappen_34 rfl (lv_at hl 0 rfl) ?_
      refine lv_aload_n hx hb d_NetWires_letHappen_35 rfl (lv_at hl 3 rfl) ?_
      refine ga_Vv (As := [.int ((v 1) + 16), .ref a]) (rest := []) hC hw (c_History_remember l k (xa_sI (xa_sI x 0 (v 3)) 5 ((x.1 5) + 1)) ((v 1) + 16) a w kp v b hE hw9 hw2 hk9 hk2 _) m_History_remember ml_NetWires_251 (ga_recv hw (q0 := 5) rfl rfl) rfl rfl ⟨Nat.le_of_ble_eq_true rfl, Nat.le_of_ble_eq_true rfl⟩ rfl hl.1 rfl (Nat.le_of_ble_eq_true rfl) d_NetWires_letHappen_36 ⟨Nat.le_of_ble_eq_true rfl, Nat.le_of_ble_eq_true rfl⟩ (fun u H locs hp hw => ?_)
      subst hp
      refine lv_iload_n hx hb d_NetWires_letHappen_39 rfl (lv_at hl 0 rfl) ?_
      exact ga_iret (u := xa_rmb (xa_sI (xa_sI x 0 (v 3)) 5 ((x.1 5) + 1)) ((v 1) + 16) v w kp) hC hr hlocks hw ⟨_, Or.inr (Or.inl ⟨c_14, h_19, rfl, rfl⟩), rfl⟩ (Nat.le_of_ble_eq_true rfl) (Nat.le_of_ble_eq_true rfl) d_NetWires_letHappen_40
    · refine lv_istore_n (lv' := [(2, .int 0), (0, .ref (xa_a k 0)), (1, .ref a)]) hx hb d_NetWires_letHappen_22 rfl hl (by decide) rfl (fun ls hl => ?_)
      refine lv_aload_n hx hb d_NetWires_letHappen_23 rfl (lv_at hl 2 rfl) ?_
      refine xe_endpoint hC hw hE fl_NetWires_178 d_NetWires_letHappen_24 ?_
      refine lv_iload_n hx hb d_NetWires_letHappen_27 rfl (lv_at hl 0 rfl) ?_
      refine lv_iadd hx hb d_NetWires_letHappen_28 ?_
      refine lv_istore_n (lv' := [(3, .int ((v 1) + 0)), (2, .int 0), (0, .ref (xa_a k 0)), (1, .ref a)]) hx hb d_NetWires_letHappen_29 rfl hl (by decide) rfl (fun ls hl => ?_)
      refine lv_aload_n hx hb d_NetWires_letHappen_30 rfl (lv_at hl 2 rfl) ?_
      refine xg_NetWires_history hC hw fl_NetWires_26 d_NetWires_letHappen_31 ?_
      refine lv_iload_n hx hb d_NetWires_letHappen_34 rfl (lv_at hl 0 rfl) ?_
      refine lv_aload_n hx hb d_NetWires_letHappen_35 rfl (lv_at hl 3 rfl) ?_
      refine ga_Vv (As := [.int ((v 1) + 0), .ref a]) (rest := []) hC hw (c_History_remember l k (xa_sB (xa_sI x 0 (v 3)) b) ((v 1) + 0) a w kp v b hE hw9 hw2 hk9 hk2 _) m_History_remember ml_NetWires_251 (ga_recv hw (q0 := 5) rfl rfl) rfl rfl ⟨Nat.le_of_ble_eq_true rfl, Nat.le_of_ble_eq_true rfl⟩ rfl hl.1 rfl (Nat.le_of_ble_eq_true rfl) d_NetWires_letHappen_36 ⟨Nat.le_of_ble_eq_true rfl, Nat.le_of_ble_eq_true rfl⟩ (fun u H locs hp hw => ?_)
      subst hp
      refine lv_iload_n hx hb d_NetWires_letHappen_39 rfl (lv_at hl 0 rfl) ?_
      exact ga_iret (u := xa_rmb (xa_sB (xa_sI x 0 (v 3)) b) ((v 1) + 0) v w kp) hC hr hlocks hw ⟨_, Or.inr (Or.inr ⟨c_14, h_19, rfl, rfl⟩), rfl⟩ (Nat.le_of_ble_eq_true rfl) (Nat.le_of_ble_eq_true rfl) d_NetWires_letHappen_40
set_option maxHeartbeats 4000000 in
set_option maxRecDepth 100000 in
theorem c_NetWires_demandEndpoint (l : Launch) (k : xa_k) (hst : l.stackTraces = false) (x : XS) (n9 : Int32)  (sz : Nat) : vx_Met l y_NetWires_demandEndpoint (Cond.code y_NetWires_demandEndpoint b_NetWires_demandEndpoint 1 none :: ga_T) ({ frames := 6, cells := 1, slots := 6, locals := 82 }) (va_Pc [.int n9] (ga_pre (xa_K k) (xa_W k x) sz)) (va_Qv (fun (u : XS) => x = u ∧ (¬ n9 < 0 ∧ ¬ 15 < n9)) (ga_post (xa_K k) (xa_W k x) sz (xa_W k)) (va_A (xa_W k x) sz)) (ga_XC (xa_K k) (xa_W k x) sz (xa_W k) (fun E u => E = ga_IOB ∧ x = u ∧ (n9 < 0 ∨ 15 < n9))) 1 6 (va_A (xa_W k x) sz) := by
  refine ga_MetX (by decide) (Nat.le_of_ble_eq_true rfl) ?_
  intro p e s m below meth c hC hr hlocks hT hw ls hl
  have hx := hC.1
  have hb := hC.2.1
  have hl : lv_has ls 1 [(0, .int n9)] := hl
  refine lv_iload_n hx hb d_NetWires_demandEndpoint_0 rfl (lv_at hl 0 rfl) ?_
  refine lv_iconst (v := 0) hx hb d_NetWires_demandEndpoint_1 (by decide) ?_
  refine lv_bipush (v := 15) hx hb d_NetWires_demandEndpoint_2 (by decide) ?_
  refine ga_Si (As := [.int n9, .int 0, .int 15]) (rest := []) hC hw (c_NetWires_isWithin l k x n9 0 15 _) m_NetWires_isWithin ml_NetWires_140 rfl rfl ⟨Nat.le_of_ble_eq_true rfl, Nat.le_of_ble_eq_true rfl⟩ rfl hl.1 rfl (Nat.le_of_ble_eq_true rfl) d_NetWires_demandEndpoint_4 ⟨Nat.le_of_ble_eq_true rfl, Nat.le_of_ble_eq_true rfl⟩ (fun r u H locs hp hw => ?_)
  obtain ⟨rfl, hp⟩ := hp
  rcases hp with ⟨rfl, ⟨h_4, g_4⟩⟩ | ⟨rfl, h_4⟩
  · refine lv_if_ne (tgt := 20) hx hb d_NetWires_demandEndpoint_7 (by decide) (fun c_7 => ?_) (fun c_7 => ?_)
    · exact vx_ret (ga_vret (u := x) hC hr hlocks hw ⟨rfl, h_4, g_4⟩ (Nat.le_of_ble_eq_true rfl) (Nat.le_of_ble_eq_true rfl) d_NetWires_demandEndpoint_20)
    · exact absurd c_7 (by decide)
  · refine lv_if_ne (tgt := 20) hx hb d_NetWires_demandEndpoint_7 (by decide) (fun c_7 => ?_) (fun c_7 => ?_)
    · exact absurd c_7 (by decide)
    · exact ga_thIOB (u := x) hst hC hT hlocks hw hl.1 (is := 212) (tx := "no such endpoint") (by decide +kernel) ⟨rfl, rfl, h_4⟩ d_NetWires_demandEndpoint_10 d_NetWires_demandEndpoint_13 d_NetWires_demandEndpoint_14 d_NetWires_demandEndpoint_16 d_NetWires_demandEndpoint_19 (Nat.le_of_ble_eq_true rfl) (Nat.le_of_ble_eq_true rfl) (Nat.le_of_ble_eq_true rfl) (Nat.le_of_ble_eq_true rfl) (Nat.le_of_ble_eq_true rfl) (Nat.le_of_ble_eq_true rfl)

set_option maxHeartbeats 4000000 in
set_option maxRecDepth 100000 in
theorem c_NetWires_demandTicks (l : Launch) (k : xa_k) (hst : l.stackTraces = false) (x : XS) (n9 most : Int32)  (sz : Nat) : vx_Met l y_NetWires_demandTicks (Cond.code y_NetWires_demandTicks b_NetWires_demandTicks 2 none :: ga_T) ({ frames := 6, cells := 1, slots := 6, locals := 82 }) (va_Pc [.int n9, .int most] (ga_pre (xa_K k) (xa_W k x) sz)) (va_Qv (fun (u : XS) => x = u ∧ (¬ n9 < 0 ∧ ¬ most < n9)) (ga_post (xa_K k) (xa_W k x) sz (xa_W k)) (va_A (xa_W k x) sz)) (ga_XC (xa_K k) (xa_W k x) sz (xa_W k) (fun E u => E = ga_IAE ∧ x = u ∧ (n9 < 0 ∨ most < n9))) 1 6 (va_A (xa_W k x) sz) := by
  refine ga_MetX (by decide) (Nat.le_of_ble_eq_true rfl) ?_
  intro p e s m below meth c hC hr hlocks hT hw ls hl
  have hx := hC.1
  have hb := hC.2.1
  have hl : lv_has ls 2 [(0, .int n9), (1, .int most)] := hl
  refine lv_iload_n hx hb d_NetWires_demandTicks_0 rfl (lv_at hl 0 rfl) ?_
  refine lv_iconst (v := 0) hx hb d_NetWires_demandTicks_1 (by decide) ?_
  refine lv_iload_n hx hb d_NetWires_demandTicks_2 rfl (lv_at hl 1 rfl) ?_
  refine ga_Si (As := [.int n9, .int 0, .int most]) (rest := []) hC hw (c_NetWires_isWithin l k x n9 0 most _) m_NetWires_isWithin ml_NetWires_140 rfl rfl ⟨Nat.le_of_ble_eq_true rfl, Nat.le_of_ble_eq_true rfl⟩ rfl hl.1 rfl (Nat.le_of_ble_eq_true rfl) d_NetWires_demandTicks_3 ⟨Nat.le_of_ble_eq_true rfl, Nat.le_of_ble_eq_true rfl⟩ (fun r u H locs hp hw => ?_)
  obtain ⟨rfl, hp⟩ := hp
  rcases hp with ⟨rfl, ⟨h_3, g_3⟩⟩ | ⟨rfl, h_3⟩
  · refine lv_if_ne (tgt := 19) hx hb d_NetWires_demandTicks_6 (by decide) (fun c_6 => ?_) (fun c_6 => ?_)
    · exact vx_ret (ga_vret (u := x) hC hr hlocks hw ⟨rfl, h_3, g_3⟩ (Nat.le_of_ble_eq_true rfl) (Nat.le_of_ble_eq_true rfl) d_NetWires_demandTicks_19)
    · exact absurd c_6 (by decide)
  · refine lv_if_ne (tgt := 19) hx hb d_NetWires_demandTicks_6 (by decide) (fun c_6 => ?_) (fun c_6 => ?_)
    · exact absurd c_6 (by decide)
    · exact ga_thIAE (u := x) hst hC hT hlocks hw hl.1 (is := 214) (tx := "no such ticks") (by decide +kernel) ⟨rfl, rfl, h_3⟩ d_NetWires_demandTicks_9 d_NetWires_demandTicks_12 d_NetWires_demandTicks_13 d_NetWires_demandTicks_15 d_NetWires_demandTicks_18 (Nat.le_of_ble_eq_true rfl) (Nat.le_of_ble_eq_true rfl) (Nat.le_of_ble_eq_true rfl) (Nat.le_of_ble_eq_true rfl) (Nat.le_of_ble_eq_true rfl) (Nat.le_of_ble_eq_true rfl)

set_option maxHeartbeats 4000000 in
set_option maxRecDepth 100000 in
theorem c_NetWires_demandSet (l : Launch) (k : xa_k) (hst : l.stackTraces = false) (x : XS) (n9 : Int32)  (sz : Nat) : vx_Met l y_NetWires_demandSet (Cond.code y_NetWires_demandSet b_NetWires_demandSet 1 none :: ga_T) ({ frames := 6, cells := 1, slots := 6, locals := 82 }) (va_Pc [.int n9] (ga_pre (xa_K k) (xa_W k x) sz)) (va_Qv (fun (u : XS) => x = u ∧ (¬ n9 < 0 ∧ ¬ 65535 < n9)) (ga_post (xa_K k) (xa_W k x) sz (xa_W k)) (va_A (xa_W k x) sz)) (ga_XC (xa_K k) (xa_W k x) sz (xa_W k) (fun E u => E = ga_IAE ∧ x = u ∧ (n9 < 0 ∨ 65535 < n9))) 1 6 (va_A (xa_W k x) sz) := by
  refine ga_MetX (by decide) (Nat.le_of_ble_eq_true rfl) ?_
  intro p e s m below meth c hC hr hlocks hT hw ls hl
  have hx := hC.1
  have hb := hC.2.1
  have hl : lv_has ls 1 [(0, .int n9)] := hl
  refine lv_iload_n hx hb d_NetWires_demandSet_0 rfl (lv_at hl 0 rfl) ?_
  refine lv_iconst (v := 0) hx hb d_NetWires_demandSet_1 (by decide) ?_
  refine lv_ldc (v := 65535) hx hb hC.2.2.2.1 (hC.2.2.2.2 _ kc_NetWires_216) d_NetWires_demandSet_2 ?_
  refine ga_Si (As := [.int n9, .int 0, .int 65535]) (rest := []) hC hw (c_NetWires_isWithin l k x n9 0 65535 _) m_NetWires_isWithin ml_NetWires_140 rfl rfl ⟨Nat.le_of_ble_eq_true rfl, Nat.le_of_ble_eq_true rfl⟩ rfl hl.1 rfl (Nat.le_of_ble_eq_true rfl) d_NetWires_demandSet_4 ⟨Nat.le_of_ble_eq_true rfl, Nat.le_of_ble_eq_true rfl⟩ (fun r u H locs hp hw => ?_)
  obtain ⟨rfl, hp⟩ := hp
  rcases hp with ⟨rfl, ⟨h_4, g_4⟩⟩ | ⟨rfl, h_4⟩
  · refine lv_if_ne (tgt := 20) hx hb d_NetWires_demandSet_7 (by decide) (fun c_7 => ?_) (fun c_7 => ?_)
    · exact vx_ret (ga_vret (u := x) hC hr hlocks hw ⟨rfl, h_4, g_4⟩ (Nat.le_of_ble_eq_true rfl) (Nat.le_of_ble_eq_true rfl) d_NetWires_demandSet_20)
    · exact absurd c_7 (by decide)
  · refine lv_if_ne (tgt := 20) hx hb d_NetWires_demandSet_7 (by decide) (fun c_7 => ?_) (fun c_7 => ?_)
    · exact absurd c_7 (by decide)
    · exact ga_thIAE (u := x) hst hC hT hlocks hw hl.1 (is := 217) (tx := "no such set of endpoints") (by decide +kernel) ⟨rfl, rfl, h_4⟩ d_NetWires_demandSet_10 d_NetWires_demandSet_13 d_NetWires_demandSet_14 d_NetWires_demandSet_16 d_NetWires_demandSet_19 (Nat.le_of_ble_eq_true rfl) (Nat.le_of_ble_eq_true rfl) (Nat.le_of_ble_eq_true rfl) (Nat.le_of_ble_eq_true rfl) (Nat.le_of_ble_eq_true rfl) (Nat.le_of_ble_eq_true rfl)
end
section
set_option maxHeartbeats 4000000 in
set_option maxRecDepth 100000 in
theorem c_Agenda_at (l : Launch) (k : xa_k) (x : XS) (p0 : Int32) (n : Nat) (h0 : xa_R0 x n) (sz : Nat) : Met l y_Agenda_at (Cond.code y_Agenda_at b_Agenda_at 2 (some (.object "NetWires$Event")) :: ga_T) ({ frames := 0, cells := 0, slots := 0, locals := 0 }) (va_Pc [.ref (xa_a k 3), .int p0] (ga_pre (xa_K k) (xa_W k x) sz)) (va_Qq (fun (r : Option Nat) (u : XS) => x = u ∧ ((r = none ∧ (p0 < 0 ∨ nI n ≤ p0)) ∨ (∃ j, j < n ∧ p0 = nI j ∧ r = some (xa_ad x j)))) (ga_post (xa_K k) (xa_W k x) sz (xa_W k)) (va_A (xa_W k x) sz)) 0 0 (va_A (xa_W k x) sz) := by
  refine ga_Met (by decide) (Nat.le_of_ble_eq_true rfl) ?_
  intro p e s m below meth c hC hr hlocks _ hw ls hl
  have hx := hC.1
  have hb := hC.2.1
  have hl : lv_has ls 2 [(0, .ref (xa_a k 3)), (1, .int p0)] := hl
  refine lv_iload_n hx hb d_Agenda_at_0 rfl (lv_at hl 1 rfl) ?_
  refine lv_if_lt (tgt := 12) hx hb d_Agenda_at_1 (by decide) (fun c_1 => ?_) (fun c_1 => ?_)
  · refine lv_null hx hb d_Agenda_at_12 ?_
    exact ga_qret (v := none) (u := x) hC hr (Or.inl ⟨_, rfl⟩) hlocks hw ⟨rfl, Or.inl ⟨rfl, Or.inl c_1⟩⟩ (Nat.le_of_ble_eq_true rfl) (Nat.le_of_ble_eq_true rfl) d_Agenda_at_13
  · refine lv_iload_n hx hb d_Agenda_at_4 rfl (lv_at hl 1 rfl) ?_
    refine lv_aload_n hx hb d_Agenda_at_5 rfl (lv_at hl 0 rfl) ?_
    refine xg_Agenda_size (v := x.1 7) hC hw fl_Agenda_17 d_Agenda_at_6 rfl ?_
    refine lv_icmp_lt (tgt := 14) hx hb d_Agenda_at_9 (by decide) (fun c_9 => ?_) (fun c_9 => ?_)
    · obtain ⟨j, hj, ej⟩ := xa_ix h0 c_1 c_9
      refine lv_aload_n hx hb d_Agenda_at_14 rfl (lv_at hl 0 rfl) ?_
      refine xg_Agenda_events hC hw fl_Agenda_11 d_Agenda_at_15 ?_
      refine lv_iload_n hx hb d_Agenda_at_18 rfl (lv_at hl 1 rfl) ?_
      refine xr_events (r := some (xa_ad x j)) hC hw (by rw [ej]; exact vp_in_nI (Nat.lt_of_lt_of_le hj h0.2.1) (by decide)) d_Agenda_at_19 (by rw [ej, nI_clamp (by have := h0.2.1; omega)]; exact (h0.get hj).1) ?_
      exact ga_qret (v := (some ((xa_ad x j)))) (u := x) hC hr (Or.inl ⟨_, rfl⟩) hlocks hw ⟨rfl, Or.inr ⟨j, hj, ej, rfl⟩⟩ (Nat.le_of_ble_eq_true rfl) (Nat.le_of_ble_eq_true rfl) d_Agenda_at_20
    · refine lv_null hx hb d_Agenda_at_12 ?_
      exact ga_qret (v := none) (u := x) hC hr (Or.inl ⟨_, rfl⟩) hlocks hw ⟨rfl, Or.inl ⟨rfl, Or.inr (by rw [← h0.1]; exact Int32.not_lt.mp c_9)⟩⟩ (Nat.le_of_ble_eq_true rfl) (Nat.le_of_ble_eq_true rfl) d_Agenda_at_13

set_option maxHeartbeats 4000000 in
set_option maxRecDepth 100000 in
theorem c_Agenda_isAfter (l : Launch) (k : xa_k) (x : XS) (pl tm : Int32) (n : Nat) (h0 : xa_R0 x n) (sz : Nat) : Met l y_Agenda_isAfter (Cond.code y_Agenda_isAfter b_Agenda_isAfter 4 (some .boolean) :: ga_T) ({ frames := 1, cells := 0, slots := 0, locals := 21 }) (va_Pc [.ref (xa_a k 3), .int pl, .int tm] (ga_pre (xa_K k) (xa_W k x) sz)) (va_Qi (fun (r : Int32) (u : XS) => x = u ∧ ((r = 1 ∧ ∃ j, j < n ∧ pl = nI j ∧ tm < xa_at x j 3) ∨ (r = 0 ∧ ∀ j, j < n → pl = nI j → ¬ tm < xa_at x j 3))) (ga_post (xa_K k) (xa_W k x) sz (xa_W k)) (va_A (xa_W k x) sz)) 0 0 (va_A (xa_W k x) sz) := by
  refine ga_Met (by decide) (Nat.le_of_ble_eq_true rfl) ?_
  intro p e s m below meth c hC hr hlocks _ hw ls hl
  have hx := hC.1
  have hb := hC.2.1
  have hl : lv_has ls 4 [(0, .ref (xa_a k 3)), (1, .int pl), (2, .int tm)] := hl
  refine lv_aload_n hx hb d_Agenda_isAfter_0 rfl (lv_at hl 0 rfl) ?_
  refine lv_iload_n hx hb d_Agenda_isAfter_1 rfl (lv_at hl 1 rfl) ?_
  refine ga_Vq (As := [.int pl]) (rest := []) hC hw (c_Agenda_at l k x pl n h0 _) m_Agenda_at ml_Agenda_34 (ga_recv hw (q0 := 3) rfl rfl) rfl rfl ⟨Nat.le_of_ble_eq_true rfl, Nat.le_of_ble_eq_true rfl⟩ rfl hl.1 rfl (Nat.le_of_ble_eq_true rfl) d_Agenda_isAfter_2 ⟨Nat.le_of_ble_eq_true rfl, Nat.le_of_ble_eq_true rfl⟩ (fun r u H locs hp hw => ?_)
  obtain ⟨rfl, hp⟩ := hp
  rcases hp with ⟨rfl, h_2⟩ | ⟨j_2, hj_2, ej_2, rfl⟩
  · refine lv_astore_nN (lv' := [(3, .null), (0, .ref (xa_a k 3)), (1, .int pl), (2, .int tm)]) hx hb d_Agenda_isAfter_5 rfl hl (by decide) rfl (fun ls hl => ?_)
    refine lv_aload_nN hx hb d_Agenda_isAfter_6 rfl (lv_at hl 0 rfl) ?_
    refine lv_ifnullN (tgt := 22) hx hb d_Agenda_isAfter_7 (by decide) ?_
    refine lv_iconst (v := 0) hx hb d_Agenda_isAfter_22 (by decide) ?_
    exact ga_zret (u := x) hC hr hlocks hw (Or.inl rfl) ⟨rfl, Or.inr ⟨rfl, fun j hj ej => absurd (xa_nix h0.2.1 h_2 ej hj) id⟩⟩ (Nat.le_of_ble_eq_true rfl) (Nat.le_of_ble_eq_true rfl) d_Agenda_isAfter_23
  · refine lv_astore_n (lv' := [(3, .ref (xa_ad x j_2)), (0, .ref (xa_a k 3)), (1, .int pl), (2, .int tm)]) hx hb d_Agenda_isAfter_5 rfl hl (by decide) rfl (fun ls hl => ?_)
    refine lv_aload_n hx hb d_Agenda_isAfter_6 rfl (lv_at hl 0 rfl) ?_
    refine lv_ifnull hx hb d_Agenda_isAfter_7 ?_
    refine lv_aload_n hx hb d_Agenda_isAfter_10 rfl (lv_at hl 0 rfl) ?_
    refine xe_time hC hw (h0.get hj_2).2 fl_Agenda_24 d_Agenda_isAfter_11 ?_
    refine lv_iload_n hx hb d_Agenda_isAfter_14 rfl (lv_at hl 3 rfl) ?_
    refine lv_icmp_le (tgt := 22) hx hb d_Agenda_isAfter_15 (by decide) (fun c_15 => ?_) (fun c_15 => ?_)
    · refine lv_iconst (v := 0) hx hb d_Agenda_isAfter_22 (by decide) ?_
      exact ga_zret (u := x) hC hr hlocks hw (Or.inl rfl) ⟨rfl, Or.inr ⟨rfl, fun j hj ej => by rw [xa_inj h0.2.1 hj hj_2 (ej.symm.trans ej_2)]; exact Int32.not_lt.mpr c_15⟩⟩ (Nat.le_of_ble_eq_true rfl) (Nat.le_of_ble_eq_true rfl) d_Agenda_isAfter_23
    · refine lv_iconst (v := 1) hx hb d_Agenda_isAfter_18 (by decide) ?_
      refine lv_goto (tgt := 23) hx hb d_Agenda_isAfter_19 (by decide) ?_
      exact ga_zret (u := x) hC hr hlocks hw (Or.inr rfl) ⟨rfl, Or.inl ⟨rfl, j_2, hj_2, ej_2, Int32.not_le.mp c_15⟩⟩ (Nat.le_of_ble_eq_true rfl) (Nat.le_of_ble_eq_true rfl) d_Agenda_isAfter_23
set_option maxHeartbeats 4000000 in
set_option maxRecDepth 100000 in
theorem lp_Agenda_insert {p : Program} {l : Launch} {e : Env} {s : State} {m : MethodId} {args : Array Value} {below : List Frame} {meth : Method} {c : Code} {Q : State → Prop} {A : Nat → Prop} {k : xa_k} {x : XS} {a n b : Nat} {v : Nat → Int32} (hC : CallFix p m c b_Agenda_insert 3 s args ga_T "NetWires$Agenda") (h0 : xa_R0 x n) (hE : xa_isE (xa_P x) a v b) (hn2 : n < 232)
    (kx : ∀ (q : Nat) (H : Heap) (locs : List Loc) (ls : Array Slot), q ≤ n → (∀ j, q ≤ j → j < n → v 3 < xa_at x j 3) → (∀ j, q = j + 1 → ¬ v 3 < xa_at x j 3) → ga_w (xa_K k) (xa_W k (xa_sE x (xa_shift (xa_E x) n q))) A s H locs → lv_has ls 3 [(2, .int (nI q)), (0, .ref (xa_a k 3)), (1, .ref a)] → W p l e ({ frames := 2, cells := 0, slots := 0, locals := 44 }) s m args below meth c H locs 0 0 Q (F0 m 54 ls [])) :
    ∀ (q : Nat) (H : Heap) (locs : List Loc) (ls : Array Slot), q ≤ n → (∀ j, q ≤ j → j < n → v 3 < xa_at x j 3) → ga_w (xa_K k) (xa_W k (xa_sE x (xa_shift (xa_E x) n q))) A s H locs → lv_has ls 3 [(2, .int (nI q)), (0, .ref (xa_a k 3)), (1, .ref a)] → W p l e ({ frames := 2, cells := 0, slots := 0, locals := 44 }) s m args below meth c H locs 0 0 Q (F0 m 16 ls []) := by
  have hx := hC.1
  have hb := hC.2.1
  have hn := h0.2.1
  intro q
  induction q with
  | zero =>
    intro H locs ls hq hi hw hl
    refine lv_iload_n hx hb d_Agenda_insert_16 rfl (lv_at hl 0 rfl) ?_
    refine lv_if_le (tgt := 54) hx hb d_Agenda_insert_17 (by decide) (fun c_17 => ?_) (fun c_17 => ?_)
    · exact kx 0 H locs ls (Nat.zero_le n) hi (fun j h => absurd h (by omega)) hw hl
    · exact absurd (Int32.le_refl 0) c_17
  | succ q ih =>
    intro H locs ls hq hi hw hl
    have hq1 : q < n := hq
    have hR0 : xa_R0 (xa_sE x (xa_shift (xa_E x) n (q + 1))) n := xa_R0.shift h0 hq
    have hat : xa_at (xa_sE x (xa_shift (xa_E x) n (q + 1))) q 3 = xa_at x q 3 := by unfold xa_at xa_ad; exact congrArg (fun z => xa_v (xa_P x) (Option.getD z 0) 3) (xa_shift_lo (Nat.le_succ q))
    have hup : va_up (xa_shift (xa_E x) n (q + 1)) (nI (q + 1)).toNatClampNeg (some (xa_ad x q)) = xa_shift (xa_E x) n q := by rw [nI_clamp (by omega)]; exact xa_shift_s hq (h0.get hq1).1
    have hin : ∀ i, i ≤ q + 1 → vp_in (nI i) 232 := fun i h => vp_in_nI (by omega) (by decide)
    refine lv_iload_n hx hb d_Agenda_insert_16 rfl (lv_at hl 0 rfl) ?_
    refine lv_if_le (tgt := 54) hx hb d_Agenda_insert_17 (by decide) (fun c_17 => ?_) (fun c_17 => ?_)
    · exact absurd c_17 (nI_nle (by omega) (by omega))
    · refine lv_aload_n hx hb d_Agenda_insert_20 rfl (lv_at hl 1 rfl) ?_
      refine lv_iload_n hx hb d_Agenda_insert_21 rfl (lv_at hl 0 rfl) ?_
      refine lv_iconst (v := 1) hx hb d_Agenda_insert_22 (by decide) ?_
      refine lv_isub hx hb d_Agenda_insert_23 ?_
      refine ga_asi (v := nI q) (nI_pred q) ?_
      refine lv_aload_n hx hb d_Agenda_insert_24 rfl (lv_at hl 2 rfl) ?_
      refine xe_time hC hw hE fl_Agenda_24 d_Agenda_insert_25 ?_
      refine ga_Vi (As := [.int (nI q), .int (v 3)]) (rest := []) hC hw (c_Agenda_isAfter l k (xa_sE x (xa_shift (xa_E x) n (q + 1))) (nI q) (v 3) n hR0 _) m_Agenda_isAfter ml_Agenda_27 (ga_recv hw (q0 := 3) rfl rfl) rfl rfl ⟨Nat.le_of_ble_eq_true rfl, Nat.le_of_ble_eq_true rfl⟩ rfl hl.1 rfl (Nat.le_of_ble_eq_true rfl) d_Agenda_insert_28 ⟨Nat.le_of_ble_eq_true rfl, Nat.le_of_ble_eq_true rfl⟩ (fun r u H locs hp hw => ?_)
      obtain ⟨rfl, hp⟩ := hp
      rcases hp with ⟨rfl, h_28⟩ | ⟨rfl, h_28⟩
      · refine lv_if_eq (tgt := 54) hx hb d_Agenda_insert_31 (by decide) (fun c_31 => ?_) (fun c_31 => ?_)
        · exact absurd c_31 (by decide)
        · refine lv_aload_n hx hb d_Agenda_insert_34 rfl (lv_at hl 1 rfl) ?_
          refine xg_Agenda_events hC hw fl_Agenda_11 d_Agenda_insert_35 ?_
          refine lv_iload_n hx hb d_Agenda_insert_38 rfl (lv_at hl 0 rfl) ?_
          refine lv_aload_n hx hb d_Agenda_insert_39 rfl (lv_at hl 1 rfl) ?_
          refine xg_Agenda_events hC hw fl_Agenda_11 d_Agenda_insert_40 ?_
          refine lv_iload_n hx hb d_Agenda_insert_43 rfl (lv_at hl 0 rfl) ?_
          refine lv_iconst (v := 1) hx hb d_Agenda_insert_44 (by decide) ?_
          refine lv_isub hx hb d_Agenda_insert_45 ?_
          refine ga_asi (v := nI q) (nI_pred q) ?_
          refine xr_events (r := some (xa_ad x q)) hC hw (hin q (Nat.le_succ q)) d_Agenda_insert_46 (by rw [nI_clamp (by omega)]; exact (xa_shift_lo (Nat.le_succ q)).trans (h0.get hq1).1) ?_
          refine xs_events hC hw (h0.get hq1).2 (hin (q + 1) (Nat.le_refl _)) d_Agenda_insert_47 (fun H locs hw => ?_)
          refine lv_iinc (v := nI q) (lv' := [(2, .int (nI q)), (0, .ref (xa_a k 3)), (1, .ref a)]) hx hb d_Agenda_insert_48 hl (k := 0) rfl (pk_m1 q) (by decide) rfl (fun ls hl => ?_)
          refine lv_goto (tgt := 16) hx hb d_Agenda_insert_51 (by decide) ?_
          refine ih H locs ls (by omega) ?_ (by rw [← hup]; exact hw) hl
          intro j h1 h2
          rcases Nat.lt_or_ge q j with h3 | h3
          · exact hi j h3 h2
          · have e : j = q := by omega
            subst e
            obtain ⟨i, hi1, ei, h4⟩ := h_28
            rw [← xa_inj hn hq1 hi1 ei, hat] at h4
            exact h4
      · refine lv_if_eq (tgt := 54) hx hb d_Agenda_insert_31 (by decide) (fun c_31 => ?_) (fun c_31 => ?_)
        · exact kx (q + 1) H locs ls hq hi (fun j hj => by have e : j = q := by omega
                                                           subst e; exact fun h => h_28 j hq1 rfl (by rw [hat]; exact h)) hw hl
        · exact absurd c_31 (by decide)
set_option maxHeartbeats 4000000 in
set_option maxRecDepth 100000 in
theorem c_Agenda_insert (l : Launch) (k : xa_k) (x : XS) (a n : Nat) (v : Nat → Int32) (b : Nat) (h0 : xa_R0 x n) (hE : xa_isE (xa_P x) a v b) (hn : n < 232) (sz : Nat) : Met l y_Agenda_insert (Cond.code y_Agenda_insert b_Agenda_insert 3 none :: ga_T) ({ frames := 2, cells := 0, slots := 0, locals := 44 }) (va_Pc [.ref (xa_a k 3), .ref a] (ga_pre (xa_K k) (xa_W k x) sz)) (va_Qv (fun (u : XS) => ∃ q, q ≤ n ∧ (∀ j, q ≤ j → j < n → v 3 < xa_at x j 3) ∧ (∀ j, q = j + 1 → ¬ v 3 < xa_at x j 3) ∧ u = xa_msg (xa_sI (xa_sE x (xa_ins (xa_E x) n q a)) 7 (nI (n + 1))) (v 0) 1) (ga_post (xa_K k) (xa_W k x) sz (xa_W k)) (va_A (xa_W k x) sz)) 0 0 (va_A (xa_W k x) sz) := by
  refine ga_Met (by decide) (Nat.le_of_ble_eq_true rfl) ?_
  intro p e s m below meth c hC hr hlocks _ hw ls hl
  have hx := hC.1
  have hb := hC.2.1
  have hl : lv_has ls 3 [(0, .ref (xa_a k 3)), (1, .ref a)] := hl
  refine lv_aload_n hx hb d_Agenda_insert_0 rfl (lv_at hl 0 rfl) ?_
  refine xg_Agenda_size (v := x.1 7) hC hw fl_Agenda_17 d_Agenda_insert_1 rfl ?_
  refine ga_asi (v := nI n) (h0.1) ?_
  refine lv_sipush (v := 232) hx hb d_Agenda_insert_4 (by decide) ?_
  refine lv_icmp_lt (tgt := 11) hx hb d_Agenda_insert_7 (by decide) (fun c_7 => ?_) (fun c_7 => ?_)
  · refine lv_aload_n hx hb d_Agenda_insert_11 rfl (lv_at hl 0 rfl) ?_
    refine xg_Agenda_size (v := x.1 7) hC hw fl_Agenda_17 d_Agenda_insert_12 rfl ?_
    refine ga_asi (v := nI n) (h0.1) ?_
    refine lv_istore_n (lv' := [(2, .int (nI n)), (0, .ref (xa_a k 3)), (1, .ref a)]) hx hb d_Agenda_insert_15 rfl hl (by decide) rfl (fun ls hl => ?_)
    have hw : ga_w (xa_K k) (xa_W k (xa_sE x (xa_shift (xa_E x) n n))) (va_A (xa_W k x) sz) s s.heap [] := by rw [xa_shift_n]; exact hw
    have hl : lv_has ls 3 [(2, .int (nI n)), (0, .ref (xa_a k 3)), (1, .ref a)] := hl
    refine lp_Agenda_insert hC h0 hE hn (fun q H locs ls hq hi hj hw hl => ?_) n s.heap [] ls (Nat.le_refl n) (fun j h1 h2 => absurd h1 (by omega)) hw hl
    have hin : vp_in (nI q) 232 := vp_in_nI (by omega) (by decide)
    refine lv_aload_n hx hb d_Agenda_insert_54 rfl (lv_at hl 1 rfl) ?_
    refine xg_Agenda_events hC hw fl_Agenda_11 d_Agenda_insert_55 ?_
    refine lv_iload_n hx hb d_Agenda_insert_58 rfl (lv_at hl 0 rfl) ?_
    refine lv_aload_n hx hb d_Agenda_insert_59 rfl (lv_at hl 2 rfl) ?_
    refine xs_events hC hw hE hin d_Agenda_insert_60 (fun H locs hw => ?_)
    refine lv_aload_n hx hb d_Agenda_insert_61 rfl (lv_at hl 1 rfl) ?_
    refine lv_dup hx hb d_Agenda_insert_62 rfl ?_
    refine xg_Agenda_size (v := (xa_sE x (xa_shift (xa_E x) n q)).1 7) hC hw fl_Agenda_17 d_Agenda_insert_63 rfl ?_
    refine ga_asi (v := nI n) (h0.1) ?_
    refine lv_iconst (v := 1) hx hb d_Agenda_insert_66 (by decide) ?_
    refine lv_iadd hx hb d_Agenda_insert_67 ?_
    refine ga_asi (v := nI (n + 1)) (nI_1 n) ?_
    refine xp_Agenda_size hC hw fl_Agenda_17 d_Agenda_insert_68 (fun H locs hw => ?_)
    refine lv_aload_n hx hb d_Agenda_insert_71 rfl (lv_at hl 2 rfl) ?_
    refine xe_kind hC hw hE fl_Agenda_31 d_Agenda_insert_72 ?_
    refine lv_if_ne (tgt := 88) hx hb d_Agenda_insert_75 (by decide) (fun c_75 => ?_) (fun c_75 => ?_)
    · exact ga_vret (u := xa_sI (xa_sE (xa_sE x (xa_shift (xa_E x) n q)) (va_up (xa_E (xa_sE x (xa_shift (xa_E x) n q))) (nI q).toNatClampNeg (some a))) 7 (nI (n + 1))) hC hr hlocks hw ⟨q, hq, hi, hj, by unfold xa_msg; rw [if_neg c_75, ← xa_ins_s hq]; rw [nI_clamp (by omega)]; rfl⟩ (Nat.le_of_ble_eq_true rfl) (Nat.le_of_ble_eq_true rfl) d_Agenda_insert_88
    · refine lv_aload_n hx hb d_Agenda_insert_78 rfl (lv_at hl 1 rfl) ?_
      refine lv_dup hx hb d_Agenda_insert_79 rfl ?_
      refine xg_Agenda_messages (v := (xa_sE x (xa_shift (xa_E x) n q)).1 8) hC hw fl_Agenda_21 d_Agenda_insert_80 rfl ?_
      refine lv_iconst (v := 1) hx hb d_Agenda_insert_83 (by decide) ?_
      refine lv_iadd hx hb d_Agenda_insert_84 ?_
      refine xp_Agenda_messages hC hw fl_Agenda_21 d_Agenda_insert_85 (fun H locs hw => ?_)
      exact ga_vret (u := xa_sI (xa_sI (xa_sE (xa_sE x (xa_shift (xa_E x) n q)) (va_up (xa_E (xa_sE x (xa_shift (xa_E x) n q))) (nI q).toNatClampNeg (some a))) 7 (nI (n + 1))) 8 (((xa_sE x (xa_shift (xa_E x) n q)).1 8) + 1)) hC hr hlocks hw ⟨q, hq, hi, hj, by unfold xa_msg; rw [if_pos c_75, ← xa_ins_s hq]; rw [nI_clamp (by omega)]; rfl⟩ (Nat.le_of_ble_eq_true rfl) (Nat.le_of_ble_eq_true rfl) d_Agenda_insert_88
  · exact absurd (nI_lt hn (by decide)) c_7
set_option maxHeartbeats 4000000 in
set_option maxRecDepth 100000 in
theorem lp_Agenda_takeAt {p : Program} {l : Launch} {e : Env} {s : State} {m : MethodId} {args : Array Value} {below : List Frame} {meth : Method} {c : Code} {Q : State → Prop} {A : Nat → Prop} {k : xa_k} {x : XS} {n j : Nat} (hC : CallFix p m c b_Agenda_takeAt 4 s args ga_T "NetWires$Agenda") (h0 : xa_R0 x n) (hj : j < n)
    (kx : ∀ (H : Heap) (locs : List Loc) (ls : Array Slot), ga_w (xa_K k) (xa_W k (xa_sE x (xa_pull (xa_E x) j n))) A s H locs → lv_has ls 4 [(3, .int (nI n)), (2, .ref (xa_ad x j)), (0, .ref (xa_a k 3)), (1, .int (nI j))] → W p l e ({ frames := 1, cells := 0, slots := 0, locals := 21 }) s m args below meth c H locs 0 0 Q (F0 m 44 ls [])) :
    ∀ (d i : Nat) (H : Heap) (locs : List Loc) (ls : Array Slot), d + i = n → j < i → ga_w (xa_K k) (xa_W k (xa_sE x (xa_pull (xa_E x) j i))) A s H locs → lv_has ls 4 [(3, .int (nI i)), (2, .ref (xa_ad x j)), (0, .ref (xa_a k 3)), (1, .int (nI j))] → W p l e ({ frames := 1, cells := 0, slots := 0, locals := 21 }) s m args below meth c H locs 0 0 Q (F0 m 16 ls []) := by
  have hx := hC.1
  have hb := hC.2.1
  have hn := h0.2.1
  intro d
  induction d with
  | zero =>
    intro i H locs ls hd hi hw hl
    have e : i = n := by omega
    subst e
    refine lv_iload_n hx hb d_Agenda_takeAt_16 rfl (lv_at hl 0 rfl) ?_
    refine lv_aload_n hx hb d_Agenda_takeAt_17 rfl (lv_at hl 2 rfl) ?_
    refine xg_Agenda_size (v := (xa_sE x (xa_pull (xa_E x) j i)).1 7) hC hw fl_Agenda_17 d_Agenda_takeAt_18 rfl ?_
    refine ga_asi (v := nI i) (h0.1) ?_
    refine lv_icmp_ge (tgt := 44) hx hb d_Agenda_takeAt_21 (by decide) (fun c_21 => ?_) (fun c_21 => ?_)
    · exact kx H locs ls hw hl
    · exact absurd (Int32.le_refl _) c_21
  | succ d ih =>
    intro i H locs ls hd hi hw hl
    have hin : ∀ t, t < n → vp_in (nI t) 232 := fun t h => vp_in_nI (by omega) (by decide)
    have hsub : nI i - 1 = nI (i - 1) := xa_pred (by omega)
    have hi2 : i < n := by omega
    have hup : va_up (xa_pull (xa_E x) j i) (nI (i - 1)).toNatClampNeg (some (xa_ad x i)) = xa_pull (xa_E x) j (i + 1) := by rw [nI_clamp (by omega)]; exact xa_pull_s hi (h0.get hi2).1
    refine lv_iload_n hx hb d_Agenda_takeAt_16 rfl (lv_at hl 0 rfl) ?_
    refine lv_aload_n hx hb d_Agenda_takeAt_17 rfl (lv_at hl 2 rfl) ?_
    refine xg_Agenda_size (v := (xa_sE x (xa_pull (xa_E x) j i)).1 7) hC hw fl_Agenda_17 d_Agenda_takeAt_18 rfl ?_
    refine ga_asi (v := nI n) (h0.1) ?_
    refine lv_icmp_ge (tgt := 44) hx hb d_Agenda_takeAt_21 (by decide) (fun c_21 => ?_) (fun c_21 => ?_)
    · exact absurd c_21 (nI_ge hi2 (by omega))
    · refine lv_aload_n hx hb d_Agenda_takeAt_24 rfl (lv_at hl 2 rfl) ?_
      refine xg_Agenda_events hC hw fl_Agenda_11 d_Agenda_takeAt_25 ?_
      refine lv_iload_n hx hb d_Agenda_takeAt_28 rfl (lv_at hl 0 rfl) ?_
      refine lv_iconst (v := 1) hx hb d_Agenda_takeAt_29 (by decide) ?_
      refine lv_isub hx hb d_Agenda_takeAt_30 ?_
      refine ga_asi (v := nI (i - 1)) (hsub) ?_
      refine lv_aload_n hx hb d_Agenda_takeAt_31 rfl (lv_at hl 2 rfl) ?_
      refine xg_Agenda_events hC hw fl_Agenda_11 d_Agenda_takeAt_32 ?_
      refine lv_iload_n hx hb d_Agenda_takeAt_35 rfl (lv_at hl 0 rfl) ?_
      refine xr_events (r := some (xa_ad x i)) hC hw (hin i hi2) d_Agenda_takeAt_36 (by rw [nI_clamp (by omega)]; exact (xa_pull_hi (Nat.le_succ i)).trans (h0.get hi2).1) ?_
      refine xs_events hC hw (h0.get hi2).2 (hin (i - 1) (by omega)) d_Agenda_takeAt_37 (fun H locs hw => ?_)
      refine lv_iinc (v := nI (i + 1)) (lv' := [(3, .int (nI (i + 1))), (2, .ref (xa_ad x j)), (0, .ref (xa_a k 3)), (1, .int (nI j))]) hx hb d_Agenda_takeAt_38 hl (k := 0) rfl (nI_1 i) (by decide) rfl (fun ls hl => ?_)
      refine lv_goto (tgt := 16) hx hb d_Agenda_takeAt_41 (by decide) ?_
      exact ih (i + 1) H locs ls (by omega) (by omega) (by rw [← hup]; exact hw) hl
set_option maxHeartbeats 4000000 in
set_option maxRecDepth 100000 in
theorem c_Agenda_takeAt (l : Launch) (k : xa_k) (x : XS) (p0 : Int32) (n : Nat) (h0 : xa_R0 x n) (sz : Nat) : Met l y_Agenda_takeAt (Cond.code y_Agenda_takeAt b_Agenda_takeAt 4 (some (.object "NetWires$Event")) :: ga_T) ({ frames := 1, cells := 0, slots := 0, locals := 21 }) (va_Pc [.ref (xa_a k 3), .int p0] (ga_pre (xa_K k) (xa_W k x) sz)) (va_Qq (fun (r : Option Nat) (u : XS) => (r = none ∧ x = u ∧ (p0 < 0 ∨ nI n ≤ p0)) ∨ (∃ j, j < n ∧ p0 = nI j ∧ r = some (xa_ad x j) ∧ u = xa_take x n j)) (ga_post (xa_K k) (xa_W k x) sz (xa_W k)) (va_A (xa_W k x) sz)) 0 0 (va_A (xa_W k x) sz) := by
  refine ga_Met (by decide) (Nat.le_of_ble_eq_true rfl) ?_
  intro p e s m below meth c hC hr hlocks _ hw ls hl
  have hx := hC.1
  have hb := hC.2.1
  have hl : lv_has ls 4 [(0, .ref (xa_a k 3)), (1, .int p0)] := hl
  refine lv_aload_n hx hb d_Agenda_takeAt_0 rfl (lv_at hl 0 rfl) ?_
  refine lv_iload_n hx hb d_Agenda_takeAt_1 rfl (lv_at hl 1 rfl) ?_
  refine ga_Vq (As := [.int p0]) (rest := []) hC hw (c_Agenda_at l k x p0 n h0 _) m_Agenda_at ml_Agenda_34 (ga_recv hw (q0 := 3) rfl rfl) rfl rfl ⟨Nat.le_of_ble_eq_true rfl, Nat.le_of_ble_eq_true rfl⟩ rfl hl.1 rfl (Nat.le_of_ble_eq_true rfl) d_Agenda_takeAt_2 ⟨Nat.le_of_ble_eq_true rfl, Nat.le_of_ble_eq_true rfl⟩ (fun r u H locs hp hw => ?_)
  obtain ⟨rfl, hp⟩ := hp
  rcases hp with ⟨rfl, h_2⟩ | ⟨j_2, hj_2, ej_2, rfl⟩
  · refine lv_astore_nN (lv' := [(2, .null), (0, .ref (xa_a k 3)), (1, .int p0)]) hx hb d_Agenda_takeAt_5 rfl hl (by decide) rfl (fun ls hl => ?_)
    refine lv_aload_nN hx hb d_Agenda_takeAt_6 rfl (lv_at hl 0 rfl) ?_
    refine lv_ifnonnullN hx hb d_Agenda_takeAt_7 ?_
    refine lv_null hx hb d_Agenda_takeAt_10 ?_
    exact ga_qret (v := none) (u := x) hC hr (Or.inl ⟨_, rfl⟩) hlocks hw (Or.inl ⟨rfl, rfl, h_2⟩) (Nat.le_of_ble_eq_true rfl) (Nat.le_of_ble_eq_true rfl) d_Agenda_takeAt_11
  · refine lv_astore_n (lv' := [(2, .ref (xa_ad x j_2)), (0, .ref (xa_a k 3)), (1, .int p0)]) hx hb d_Agenda_takeAt_5 rfl hl (by decide) rfl (fun ls hl => ?_)
    refine lv_aload_n hx hb d_Agenda_takeAt_6 rfl (lv_at hl 0 rfl) ?_
    refine lv_ifnonnull (tgt := 12) hx hb d_Agenda_takeAt_7 (by decide) ?_
    refine lv_iload_n hx hb d_Agenda_takeAt_12 rfl (lv_at hl 2 rfl) ?_
    refine lv_iconst (v := 1) hx hb d_Agenda_takeAt_13 (by decide) ?_
    refine lv_iadd hx hb d_Agenda_takeAt_14 ?_
    refine ga_asi (v := nI (j_2 + 1)) ((by rw [ej_2]; exact nI_1 j_2)) ?_
    refine lv_istore_n (lv' := [(3, .int (nI (j_2 + 1))), (2, .ref (xa_ad x j_2)), (0, .ref (xa_a k 3)), (1, .int p0)]) hx hb d_Agenda_takeAt_15 rfl hl (by decide) rfl (fun ls hl => ?_)
    subst ej_2
    have hw : ga_w (xa_K k) (xa_W k (xa_sE x (xa_pull (xa_E x) j_2 (j_2 + 1)))) (va_A (xa_W k x) sz) s H locs := by rw [xa_pull_0]; exact hw
    refine lp_Agenda_takeAt hC h0 hj_2 (fun H locs ls hw hl => ?_) (n - (j_2 + 1)) (j_2 + 1) H locs ls (by omega) (by omega) hw hl
    have hn := h0.2.1
    have hs1 : nI n - 1 = nI (n - 1) := xa_pred (by omega)
    have hin : vp_in (nI (n - 1)) 232 := vp_in_nI (by omega) (by decide)
    refine lv_aload_n hx hb d_Agenda_takeAt_44 rfl (lv_at hl 2 rfl) ?_
    refine lv_dup hx hb d_Agenda_takeAt_45 rfl ?_
    refine xg_Agenda_size (v := (xa_sE x (xa_pull (xa_E x) j_2 n)).1 7) hC hw fl_Agenda_17 d_Agenda_takeAt_46 rfl ?_
    refine ga_asi (v := nI n) (h0.1) ?_
    refine lv_iconst (v := 1) hx hb d_Agenda_takeAt_49 (by decide) ?_
    refine lv_isub hx hb d_Agenda_takeAt_50 ?_
    refine ga_asi (v := nI (n - 1)) (hs1) ?_
    refine xp_Agenda_size hC hw fl_Agenda_17 d_Agenda_takeAt_51 (fun H locs hw => ?_)
    refine lv_aload_n hx hb d_Agenda_takeAt_54 rfl (lv_at hl 2 rfl) ?_
    refine xg_Agenda_events hC hw fl_Agenda_11 d_Agenda_takeAt_55 ?_
    refine lv_aload_n hx hb d_Agenda_takeAt_58 rfl (lv_at hl 2 rfl) ?_
    refine xg_Agenda_size (v := nI (n - 1)) hC hw fl_Agenda_17 d_Agenda_takeAt_59 rfl ?_
    refine lv_null hx hb d_Agenda_takeAt_62 ?_
    refine xs_eventsN hC hw hin d_Agenda_takeAt_63 (fun H locs hw => ?_)
    refine lv_aload_n hx hb d_Agenda_takeAt_64 rfl (lv_at hl 1 rfl) ?_
    refine xe_kind hC hw (h0.get hj_2).2 fl_Agenda_31 d_Agenda_takeAt_65 ?_
    refine lv_if_ne (tgt := 81) hx hb d_Agenda_takeAt_68 (by decide) (fun c_68 => ?_) (fun c_68 => ?_)
    · refine lv_aload_n hx hb d_Agenda_takeAt_81 rfl (lv_at hl 1 rfl) ?_
      exact ga_qret (v := (some (xa_ad x j_2))) (u := xa_sE (xa_sI (xa_sE x (xa_pull (xa_E x) j_2 n)) 7 (nI (n - 1))) (va_up (xa_E (xa_sE x (xa_pull (xa_E x) j_2 n))) (nI (n - 1)).toNatClampNeg none)) hC hr (Or.inl ⟨_, rfl⟩) hlocks hw (Or.inr ⟨j_2, hj_2, rfl, rfl, by unfold xa_take xa_msg xa_del; rw [if_neg (show ¬ xa_at x j_2 0 = 0 from c_68), nI_clamp (by omega)] <;> rfl⟩) (Nat.le_of_ble_eq_true rfl) (Nat.le_of_ble_eq_true rfl) d_Agenda_takeAt_82
    · refine lv_aload_n hx hb d_Agenda_takeAt_71 rfl (lv_at hl 2 rfl) ?_
      refine lv_dup hx hb d_Agenda_takeAt_72 rfl ?_
      refine xg_Agenda_messages (v := (xa_sE x (xa_pull (xa_E x) j_2 n)).1 8) hC hw fl_Agenda_21 d_Agenda_takeAt_73 rfl ?_
      refine lv_iconst (v := 1) hx hb d_Agenda_takeAt_76 (by decide) ?_
      refine lv_isub hx hb d_Agenda_takeAt_77 ?_
      refine ga_asi (v := (xa_sE x (xa_pull (xa_E x) j_2 n)).1 8 + (-1)) (Int32.sub_eq_add_neg _ _) ?_
      refine xp_Agenda_messages hC hw fl_Agenda_21 d_Agenda_takeAt_78 (fun H locs hw => ?_)
      refine lv_aload_n hx hb d_Agenda_takeAt_81 rfl (lv_at hl 1 rfl) ?_
      exact ga_qret (v := (some (xa_ad x j_2))) (u := xa_sI (xa_sE (xa_sI (xa_sE x (xa_pull (xa_E x) j_2 n)) 7 (nI (n - 1))) (va_up (xa_E (xa_sE x (xa_pull (xa_E x) j_2 n))) (nI (n - 1)).toNatClampNeg none)) 8 ((xa_sE x (xa_pull (xa_E x) j_2 n)).1 8 + (-1))) hC hr (Or.inl ⟨_, rfl⟩) hlocks hw (Or.inr ⟨j_2, hj_2, rfl, rfl, by unfold xa_take xa_msg xa_del; rw [if_pos (show xa_at x j_2 0 = 0 from c_68), nI_clamp (by omega)] <;> rfl⟩) (Nat.le_of_ble_eq_true rfl) (Nat.le_of_ble_eq_true rfl) d_Agenda_takeAt_82
set_option maxHeartbeats 4000000 in
set_option maxRecDepth 100000 in
theorem lp_Agenda_placeOfTimer {p : Program} {l : Launch} {e : Env} {s : State} {m : MethodId} {args : Array Value} {below : List Frame} {meth : Method} {c : Code} {k : xa_k} {x : XS} {n sz : Nat} {kd ep : Int32} (hC : CallFix p m c b_Agenda_placeOfTimer 5 s args ga_T "NetWires$Agenda") (hr : meth.sig.returnType = some .int) (hlocks : meth.locks = false) (h0 : xa_R0 x n) :
    ∀ (d i : Nat) (H : Heap) (locs : List Loc) (ls : Array Slot), d + i = n → (∀ t, t < i → ¬ (xa_at x t 0 = kd ∧ xa_at x t 1 = ep)) → ga_w (xa_K k) (xa_W k x) (va_A (xa_W k x) sz) s H locs → lv_has ls 5 [(3, .int (nI i)), (0, .ref (xa_a k 3)), (1, .int kd), (2, .int ep)] → W p l e ({ frames := 1, cells := 0, slots := 0, locals := 21 }) s m args below meth c H locs 0 0 (MQ below (va_Qi (fun (r : Int32) (u : XS) => x = u ∧ ((r = -1 ∧ ∀ t, t < n → ¬ (xa_at x t 0 = kd ∧ xa_at x t 1 = ep)) ∨ (∃ j, j < n ∧ r = nI j ∧ (xa_at x j 0 = kd ∧ xa_at x j 1 = ep) ∧ ∀ t, t < j → ¬ (xa_at x t 0 = kd ∧ xa_at x t 1 = ep)))) (ga_post (xa_K k) (xa_W k x) sz (xa_W k)) (va_A (xa_W k x) sz)) args s 0 0 (va_A (xa_W k x) sz)) (F0 m 2 ls []) := by
  have hx := hC.1
  have hb := hC.2.1
  have hn := h0.2.1
  intro d
  induction d with
  | zero =>
    intro i H locs ls hd hi hw hl
    have e : i = n := by omega
    subst e
    refine lv_iload_n hx hb d_Agenda_placeOfTimer_2 rfl (lv_at hl 0 rfl) ?_
    refine lv_aload_n hx hb d_Agenda_placeOfTimer_3 rfl (lv_at hl 1 rfl) ?_
    refine xg_Agenda_size (v := x.1 7) hC hw fl_Agenda_17 d_Agenda_placeOfTimer_4 rfl ?_
    refine ga_asi (v := nI i) (h0.1) ?_
    refine lv_icmp_ge (tgt := 48) hx hb d_Agenda_placeOfTimer_7 (by decide) (fun c_7 => ?_) (fun c_7 => ?_)
    · refine lv_iconst (v := (-1)) hx hb d_Agenda_placeOfTimer_48 (by decide) ?_
      exact ga_iret (u := x) hC hr hlocks hw ⟨rfl, Or.inl ⟨rfl, hi⟩⟩ (Nat.le_of_ble_eq_true rfl) (Nat.le_of_ble_eq_true rfl) d_Agenda_placeOfTimer_49
    · exact absurd (Int32.le_refl _) c_7
  | succ d ih =>
    intro i H locs ls hd hi hw hl
    have hi2 : i < n := by omega
    refine lv_iload_n hx hb d_Agenda_placeOfTimer_2 rfl (lv_at hl 0 rfl) ?_
    refine lv_aload_n hx hb d_Agenda_placeOfTimer_3 rfl (lv_at hl 1 rfl) ?_
    refine xg_Agenda_size (v := x.1 7) hC hw fl_Agenda_17 d_Agenda_placeOfTimer_4 rfl ?_
    refine ga_asi (v := nI n) (h0.1) ?_
    refine lv_icmp_ge (tgt := 48) hx hb d_Agenda_placeOfTimer_7 (by decide) (fun c_7 => ?_) (fun c_7 => ?_)
    · exact absurd c_7 (nI_ge hi2 (by omega))
    · refine lv_aload_n hx hb d_Agenda_placeOfTimer_10 rfl (lv_at hl 1 rfl) ?_
      refine lv_iload_n hx hb d_Agenda_placeOfTimer_11 rfl (lv_at hl 0 rfl) ?_
      refine ga_Vq (As := [.int (nI i)]) (rest := []) hC hw (c_Agenda_at l k x (nI i) n h0 _) m_Agenda_at ml_Agenda_34 (ga_recv hw (q0 := 3) rfl rfl) rfl rfl ⟨Nat.le_of_ble_eq_true rfl, Nat.le_of_ble_eq_true rfl⟩ rfl hl.1 rfl (Nat.le_of_ble_eq_true rfl) d_Agenda_placeOfTimer_12 ⟨Nat.le_of_ble_eq_true rfl, Nat.le_of_ble_eq_true rfl⟩ (fun r u H locs hp hw => ?_)
      obtain ⟨rfl, hp⟩ := hp
      rcases hp with ⟨rfl, h_12⟩ | ⟨j_12, hj_12, ej_12, rfl⟩
      · refine lv_astoreN (lv' := [(4, .null), (3, .int (nI i)), (0, .ref (xa_a k 3)), (1, .int kd), (2, .int ep)]) hx hb d_Agenda_placeOfTimer_15 hl (by decide) rfl (fun ls hl => ?_)
        refine lv_aloadN hx hb d_Agenda_placeOfTimer_17 (lv_at hl 0 rfl) ?_
        refine lv_ifnullN (tgt := 42) hx hb d_Agenda_placeOfTimer_19 (by decide) ?_
        refine lv_iinc (v := nI (i + 1)) (lv' := [(3, .int (nI (i + 1))), (4, .null), (0, .ref (xa_a k 3)), (1, .int kd), (2, .int ep)]) hx hb d_Agenda_placeOfTimer_42 hl (k := 1) rfl (nI_1 i) (by decide) rfl (fun ls hl => ?_)
        refine lv_goto (tgt := 2) hx hb d_Agenda_placeOfTimer_45 (by decide) ?_
        exact absurd (xa_nix hn h_12 rfl hi2) id
      · refine lv_astore (lv' := [(4, .ref (xa_ad x j_12)), (3, .int (nI i)), (0, .ref (xa_a k 3)), (1, .int kd), (2, .int ep)]) hx hb d_Agenda_placeOfTimer_15 hl (by decide) rfl (fun ls hl => ?_)
        refine lv_aload hx hb d_Agenda_placeOfTimer_17 (lv_at hl 0 rfl) ?_
        refine lv_ifnull hx hb d_Agenda_placeOfTimer_19 ?_
        refine lv_aload hx hb d_Agenda_placeOfTimer_22 (lv_at hl 0 rfl) ?_
        refine xe_kind hC hw (h0.get hj_12).2 fl_Agenda_31 d_Agenda_placeOfTimer_24 ?_
        refine lv_iload_n hx hb d_Agenda_placeOfTimer_27 rfl (lv_at hl 3 rfl) ?_
        refine lv_icmp_ne (tgt := 42) hx hb d_Agenda_placeOfTimer_28 (by decide) (fun c_28 => ?_) (fun c_28 => ?_)
        · refine lv_iinc (v := nI (i + 1)) (lv' := [(3, .int (nI (i + 1))), (4, .ref (xa_ad x j_12)), (0, .ref (xa_a k 3)), (1, .int kd), (2, .int ep)]) hx hb d_Agenda_placeOfTimer_42 hl (k := 1) rfl (nI_1 i) (by decide) rfl (fun ls hl => ?_)
          refine lv_goto (tgt := 2) hx hb d_Agenda_placeOfTimer_45 (by decide) ?_
          refine ih (i + 1) H locs ls (by omega) ?_ hw (lv_sub hl [0, 2, 3, 4] rfl)
          intro t ht h4
          rcases Nat.lt_or_ge t i with h3 | h3
          · exact hi t h3 h4
          · have e : t = i := by omega
            subst e
            rw [xa_inj hn hi2 hj_12 ej_12] at h4
            exact c_28 h4.1
        · refine lv_aload hx hb d_Agenda_placeOfTimer_31 (lv_at hl 0 rfl) ?_
          refine xe_endpoint hC hw (h0.get hj_12).2 fl_Agenda_38 d_Agenda_placeOfTimer_33 ?_
          refine lv_iload_n hx hb d_Agenda_placeOfTimer_36 rfl (lv_at hl 4 rfl) ?_
          refine lv_icmp_ne (tgt := 42) hx hb d_Agenda_placeOfTimer_37 (by decide) (fun c_37 => ?_) (fun c_37 => ?_)
          · refine lv_iinc (v := nI (i + 1)) (lv' := [(3, .int (nI (i + 1))), (4, .ref (xa_ad x j_12)), (0, .ref (xa_a k 3)), (1, .int kd), (2, .int ep)]) hx hb d_Agenda_placeOfTimer_42 hl (k := 1) rfl (nI_1 i) (by decide) rfl (fun ls hl => ?_)
            refine lv_goto (tgt := 2) hx hb d_Agenda_placeOfTimer_45 (by decide) ?_
            refine ih (i + 1) H locs ls (by omega) ?_ hw (lv_sub hl [0, 2, 3, 4] rfl)
            intro t ht h4
            rcases Nat.lt_or_ge t i with h3 | h3
            · exact hi t h3 h4
            · have e : t = i := by omega
              subst e
              rw [xa_inj hn hi2 hj_12 ej_12] at h4
              exact c_37 h4.2
          · refine lv_iload_n hx hb d_Agenda_placeOfTimer_40 rfl (lv_at hl 1 rfl) ?_
            exact ga_iret (u := x) hC hr hlocks hw ⟨rfl, Or.inr ⟨i, hi2, rfl, by rw [xa_inj hn hi2 hj_12 ej_12]; exact ⟨c_28, c_37⟩, hi⟩⟩ (Nat.le_of_ble_eq_true rfl) (Nat.le_of_ble_eq_true rfl) d_Agenda_placeOfTimer_41
set_option maxHeartbeats 4000000 in
set_option maxRecDepth 100000 in
theorem c_Agenda_placeOfTimer (l : Launch) (k : xa_k) (x : XS) (kd ep : Int32) (n : Nat) (h0 : xa_R0 x n) (sz : Nat) : Met l y_Agenda_placeOfTimer (Cond.code y_Agenda_placeOfTimer b_Agenda_placeOfTimer 5 (some .int) :: ga_T) ({ frames := 1, cells := 0, slots := 0, locals := 21 }) (va_Pc [.ref (xa_a k 3), .int kd, .int ep] (ga_pre (xa_K k) (xa_W k x) sz)) (va_Qi (fun (r : Int32) (u : XS) => x = u ∧ ((r = -1 ∧ ∀ t, t < n → ¬ (xa_at x t 0 = kd ∧ xa_at x t 1 = ep)) ∨ (∃ j, j < n ∧ r = nI j ∧ (xa_at x j 0 = kd ∧ xa_at x j 1 = ep) ∧ ∀ t, t < j → ¬ (xa_at x t 0 = kd ∧ xa_at x t 1 = ep)))) (ga_post (xa_K k) (xa_W k x) sz (xa_W k)) (va_A (xa_W k x) sz)) 0 0 (va_A (xa_W k x) sz) := by
  refine ga_Met (by decide) (Nat.le_of_ble_eq_true rfl) ?_
  intro p e s m below meth c hC hr hlocks _ hw ls hl
  have hx := hC.1
  have hb := hC.2.1
  have hl : lv_has ls 5 [(0, .ref (xa_a k 3)), (1, .int kd), (2, .int ep)] := hl
  refine lv_iconst (v := 0) hx hb d_Agenda_placeOfTimer_0 (by decide) ?_
  refine lv_istore_n (lv' := [(3, .int 0), (0, .ref (xa_a k 3)), (1, .int kd), (2, .int ep)]) hx hb d_Agenda_placeOfTimer_1 rfl hl (by decide) rfl (fun ls hl => ?_)
  exact lp_Agenda_placeOfTimer hC hr hlocks h0 n 0 s.heap [] ls (Nat.add_zero n) (fun t h => absurd h (Nat.not_lt_zero t)) hw hl
set_option maxHeartbeats 4000000 in
set_option maxRecDepth 100000 in
theorem lp_Agenda_placeOfMessage {p : Program} {l : Launch} {e : Env} {s : State} {m : MethodId} {args : Array Value} {below : List Frame} {meth : Method} {c : Code} {k : xa_k} {x : XS} {n sz : Nat} {k0 : Int32} (hC : CallFix p m c b_Agenda_placeOfMessage 5 s args ga_T "NetWires$Agenda") (hr : meth.sig.returnType = some .int) (hlocks : meth.locks = false) (h0 : xa_R0 x n) :
    ∀ (d i : Nat) (H : Heap) (locs : List Loc) (ls : Array Slot), d + i = n → (∀ t, t < i → xa_at x t 0 = 0 → ¬ k0 = nI (xa_cnt x t)) → ga_w (xa_K k) (xa_W k x) (va_A (xa_W k x) sz) s H locs → lv_has ls 5 [(3, .int (nI i)), (2, .int (nI (xa_cnt x i))), (0, .ref (xa_a k 3)), (1, .int k0)] → W p l e ({ frames := 1, cells := 0, slots := 0, locals := 21 }) s m args below meth c H locs 0 0 (MQ below (va_Qi (fun (r : Int32) (u : XS) => x = u ∧ ((r = -1 ∧ (k0 < 0 ∨ x.1 8 ≤ k0 ∨ ∀ t, t < n → xa_at x t 0 = 0 → ¬ k0 = nI (xa_cnt x t))) ∨ (∃ j, j < n ∧ r = nI j ∧ xa_at x j 0 = 0 ∧ k0 = nI (xa_cnt x j)))) (ga_post (xa_K k) (xa_W k x) sz (xa_W k)) (va_A (xa_W k x) sz)) args s 0 0 (va_A (xa_W k x) sz)) (F0 m 18 ls []) := by
  have hx := hC.1
  have hb := hC.2.1
  have hn := h0.2.1
  intro d
  induction d with
  | zero =>
    intro i H locs ls hd hi hw hl
    have e : i = n := by omega
    subst e
    refine lv_iload_n hx hb d_Agenda_placeOfMessage_18 rfl (lv_at hl 0 rfl) ?_
    refine lv_aload_n hx hb d_Agenda_placeOfMessage_19 rfl (lv_at hl 2 rfl) ?_
    refine xg_Agenda_size (v := x.1 7) hC hw fl_Agenda_17 d_Agenda_placeOfMessage_20 rfl ?_
    refine ga_asi (v := nI i) (h0.1) ?_
    refine lv_icmp_ge (tgt := 62) hx hb d_Agenda_placeOfMessage_23 (by decide) (fun c_23 => ?_) (fun c_23 => ?_)
    · refine lv_iconst (v := (-1)) hx hb d_Agenda_placeOfMessage_62 (by decide) ?_
      exact ga_iret (u := x) hC hr hlocks hw ⟨rfl, Or.inl ⟨rfl, Or.inr (Or.inr hi)⟩⟩ (Nat.le_of_ble_eq_true rfl) (Nat.le_of_ble_eq_true rfl) d_Agenda_placeOfMessage_63
    · exact absurd (Int32.le_refl _) c_23
  | succ d ih =>
    intro i H locs ls hd hi hw hl
    have hi2 : i < n := by omega
    refine lv_iload_n hx hb d_Agenda_placeOfMessage_18 rfl (lv_at hl 0 rfl) ?_
    refine lv_aload_n hx hb d_Agenda_placeOfMessage_19 rfl (lv_at hl 2 rfl) ?_
    refine xg_Agenda_size (v := x.1 7) hC hw fl_Agenda_17 d_Agenda_placeOfMessage_20 rfl ?_
    refine ga_asi (v := nI n) (h0.1) ?_
    refine lv_icmp_ge (tgt := 62) hx hb d_Agenda_placeOfMessage_23 (by decide) (fun c_23 => ?_) (fun c_23 => ?_)
    · exact absurd c_23 (nI_ge hi2 (by omega))
    · refine lv_aload_n hx hb d_Agenda_placeOfMessage_26 rfl (lv_at hl 2 rfl) ?_
      refine lv_iload_n hx hb d_Agenda_placeOfMessage_27 rfl (lv_at hl 0 rfl) ?_
      refine ga_Vq (As := [.int (nI i)]) (rest := []) hC hw (c_Agenda_at l k x (nI i) n h0 _) m_Agenda_at ml_Agenda_34 (ga_recv hw (q0 := 3) rfl rfl) rfl rfl ⟨Nat.le_of_ble_eq_true rfl, Nat.le_of_ble_eq_true rfl⟩ rfl hl.1 rfl (Nat.le_of_ble_eq_true rfl) d_Agenda_placeOfMessage_28 ⟨Nat.le_of_ble_eq_true rfl, Nat.le_of_ble_eq_true rfl⟩ (fun r u H locs hp hw => ?_)
      obtain ⟨rfl, hp⟩ := hp
      rcases hp with ⟨rfl, h_28⟩ | ⟨j_28, hj_28, ej_28, rfl⟩
      · refine lv_astoreN (lv' := [(4, .null), (3, .int (nI i)), (2, .int (nI (xa_cnt x i))), (0, .ref (xa_a k 3)), (1, .int k0)]) hx hb d_Agenda_placeOfMessage_31 hl (by decide) rfl (fun ls hl => ?_)
        refine lv_aloadN hx hb d_Agenda_placeOfMessage_33 (lv_at hl 0 rfl) ?_
        refine lv_ifnullN (tgt := 56) hx hb d_Agenda_placeOfMessage_35 (by decide) ?_
        refine lv_iinc (v := nI (i + 1)) (lv' := [(3, .int (nI (i + 1))), (4, .null), (2, .int (nI (xa_cnt x i))), (0, .ref (xa_a k 3)), (1, .int k0)]) hx hb d_Agenda_placeOfMessage_56 hl (k := 1) rfl (nI_1 i) (by decide) rfl (fun ls hl => ?_)
        refine lv_goto (tgt := 18) hx hb d_Agenda_placeOfMessage_59 (by decide) ?_
        exact absurd (xa_nix hn h_28 rfl hi2) id
      · refine lv_astore (lv' := [(4, .ref (xa_ad x j_28)), (3, .int (nI i)), (2, .int (nI (xa_cnt x i))), (0, .ref (xa_a k 3)), (1, .int k0)]) hx hb d_Agenda_placeOfMessage_31 hl (by decide) rfl (fun ls hl => ?_)
        refine lv_aload hx hb d_Agenda_placeOfMessage_33 (lv_at hl 0 rfl) ?_
        refine lv_ifnull hx hb d_Agenda_placeOfMessage_35 ?_
        refine lv_aload hx hb d_Agenda_placeOfMessage_38 (lv_at hl 0 rfl) ?_
        refine xe_kind hC hw (h0.get hj_28).2 fl_Agenda_31 d_Agenda_placeOfMessage_40 ?_
        refine lv_if_ne (tgt := 56) hx hb d_Agenda_placeOfMessage_43 (by decide) (fun c_43 => ?_) (fun c_43 => ?_)
        · refine lv_iinc (v := nI (i + 1)) (lv' := [(3, .int (nI (i + 1))), (4, .ref (xa_ad x j_28)), (2, .int (nI (xa_cnt x i))), (0, .ref (xa_a k 3)), (1, .int k0)]) hx hb d_Agenda_placeOfMessage_56 hl (k := 1) rfl (nI_1 i) (by decide) rfl (fun ls hl => ?_)
          refine lv_goto (tgt := 18) hx hb d_Agenda_placeOfMessage_59 (by decide) ?_
          have ji := xa_inj hn hi2 hj_28 ej_28
          have e : xa_cnt x (i + 1) = xa_cnt x i := xa_cnt_0 (by rw [ji]; exact c_43)
          refine ih (i + 1) H locs ls (by omega) ?_ hw (by rw [e]; exact (lv_sub hl [0, 2, 3, 4] rfl))
          intro t ht h4 h5
          rcases Nat.lt_or_ge t i with h3 | h3
          · exact hi t h3 h4 h5
          · have e2 : t = i := by omega
            rw [e2, ji] at h4
            rw [e2] at h5
            exact c_43 h4
        · refine lv_iload_n hx hb d_Agenda_placeOfMessage_46 rfl (lv_at hl 2 rfl) ?_
          refine lv_iload_n hx hb d_Agenda_placeOfMessage_47 rfl (lv_at hl 4 rfl) ?_
          refine lv_icmp_ne (tgt := 53) hx hb d_Agenda_placeOfMessage_48 (by decide) (fun c_48 => ?_) (fun c_48 => ?_)
          · refine lv_iinc (v := nI (xa_cnt x i + 1)) (lv' := [(2, .int (nI (xa_cnt x i + 1))), (4, .ref (xa_ad x j_28)), (3, .int (nI i)), (0, .ref (xa_a k 3)), (1, .int k0)]) hx hb d_Agenda_placeOfMessage_53 hl (k := 2) rfl (nI_1 _) (by decide) rfl (fun ls hl => ?_)
            refine lv_iinc (v := nI (i + 1)) (lv' := [(3, .int (nI (i + 1))), (2, .int (nI (xa_cnt x i + 1))), (4, .ref (xa_ad x j_28)), (0, .ref (xa_a k 3)), (1, .int k0)]) hx hb d_Agenda_placeOfMessage_56 hl (k := 2) rfl (nI_1 i) (by decide) rfl (fun ls hl => ?_)
            refine lv_goto (tgt := 18) hx hb d_Agenda_placeOfMessage_59 (by decide) ?_
            have ji := xa_inj hn hi2 hj_28 ej_28
            have e : xa_cnt x (i + 1) = xa_cnt x i + 1 := xa_cnt_1 (by rw [ji]; exact c_43)
            refine ih (i + 1) H locs ls (by omega) ?_ hw (by rw [e]; exact (lv_sub hl [0, 1, 3, 4] rfl))
            intro t ht h4 h5
            rcases Nat.lt_or_ge t i with h3 | h3
            · exact hi t h3 h4 h5
            · have e2 : t = i := by omega
              rw [e2, ji] at h4
              rw [e2] at h5
              exact c_48 (h5.symm)
          · refine lv_iload_n hx hb d_Agenda_placeOfMessage_51 rfl (lv_at hl 1 rfl) ?_
            exact ga_iret (u := x) hC hr hlocks hw ⟨rfl, Or.inr ⟨i, hi2, rfl, by rw [xa_inj hn hi2 hj_28 ej_28]; exact c_43, c_48.symm⟩⟩ (Nat.le_of_ble_eq_true rfl) (Nat.le_of_ble_eq_true rfl) d_Agenda_placeOfMessage_52
set_option maxHeartbeats 4000000 in
set_option maxRecDepth 100000 in
theorem c_Agenda_placeOfMessage (l : Launch) (k : xa_k) (x : XS) (k0 : Int32) (n : Nat) (h0 : xa_R0 x n) (sz : Nat) : Met l y_Agenda_placeOfMessage (Cond.code y_Agenda_placeOfMessage b_Agenda_placeOfMessage 5 (some .int) :: ga_T) ({ frames := 1, cells := 0, slots := 0, locals := 21 }) (va_Pc [.ref (xa_a k 3), .int k0] (ga_pre (xa_K k) (xa_W k x) sz)) (va_Qi (fun (r : Int32) (u : XS) => x = u ∧ ((r = -1 ∧ (k0 < 0 ∨ x.1 8 ≤ k0 ∨ ∀ t, t < n → xa_at x t 0 = 0 → ¬ k0 = nI (xa_cnt x t))) ∨ (∃ j, j < n ∧ r = nI j ∧ xa_at x j 0 = 0 ∧ k0 = nI (xa_cnt x j)))) (ga_post (xa_K k) (xa_W k x) sz (xa_W k)) (va_A (xa_W k x) sz)) 0 0 (va_A (xa_W k x) sz) := by
  refine ga_Met (by decide) (Nat.le_of_ble_eq_true rfl) ?_
  intro p e s m below meth c hC hr hlocks _ hw ls hl
  have hx := hC.1
  have hb := hC.2.1
  have hl : lv_has ls 5 [(0, .ref (xa_a k 3)), (1, .int k0)] := hl
  refine lv_iload_n hx hb d_Agenda_placeOfMessage_0 rfl (lv_at hl 1 rfl) ?_
  refine lv_if_lt (tgt := 12) hx hb d_Agenda_placeOfMessage_1 (by decide) (fun c_1 => ?_) (fun c_1 => ?_)
  · refine lv_iconst (v := (-1)) hx hb d_Agenda_placeOfMessage_12 (by decide) ?_
    exact ga_iret (u := x) hC hr hlocks hw ⟨rfl, Or.inl ⟨rfl, Or.inl c_1⟩⟩ (Nat.le_of_ble_eq_true rfl) (Nat.le_of_ble_eq_true rfl) d_Agenda_placeOfMessage_13
  · refine lv_iload_n hx hb d_Agenda_placeOfMessage_4 rfl (lv_at hl 1 rfl) ?_
    refine lv_aload_n hx hb d_Agenda_placeOfMessage_5 rfl (lv_at hl 0 rfl) ?_
    refine xg_Agenda_messages (v := x.1 8) hC hw fl_Agenda_21 d_Agenda_placeOfMessage_6 rfl ?_
    refine lv_icmp_lt (tgt := 14) hx hb d_Agenda_placeOfMessage_9 (by decide) (fun c_9 => ?_) (fun c_9 => ?_)
    · refine lv_iconst (v := 0) hx hb d_Agenda_placeOfMessage_14 (by decide) ?_
      refine lv_istore_n (lv' := [(2, .int 0), (0, .ref (xa_a k 3)), (1, .int k0)]) hx hb d_Agenda_placeOfMessage_15 rfl hl (by decide) rfl (fun ls hl => ?_)
      refine lv_iconst (v := 0) hx hb d_Agenda_placeOfMessage_16 (by decide) ?_
      refine lv_istore_n (lv' := [(3, .int 0), (2, .int 0), (0, .ref (xa_a k 3)), (1, .int k0)]) hx hb d_Agenda_placeOfMessage_17 rfl hl (by decide) rfl (fun ls hl => ?_)
      exact lp_Agenda_placeOfMessage hC hr hlocks h0 n 0 s.heap [] ls (Nat.add_zero n) (fun t h => absurd h (Nat.not_lt_zero t)) hw hl
    · refine lv_iconst (v := (-1)) hx hb d_Agenda_placeOfMessage_12 (by decide) ?_
      exact ga_iret (u := x) hC hr hlocks hw ⟨rfl, Or.inl ⟨rfl, Or.inr (Or.inl (Int32.not_lt.mp c_9))⟩⟩ (Nat.le_of_ble_eq_true rfl) (Nat.le_of_ble_eq_true rfl) d_Agenda_placeOfMessage_13
end
section
set_option maxHeartbeats 4000000 in
set_option maxRecDepth 100000 in
/-- Event(..): its six fields are written -/
theorem c_Event_init (l : Launch) (k : xa_k) (a b : Nat) (kd ep fr tm nb : Int32) (sz : Nat) : Met l y_Event_init (Cond.code y_Event_init b_Event_init 7 none :: ga_T) ({ frames := 1, cells := 0, slots := 0, locals := 12 }) (va_Pc [.ref a, .int kd, .int ep, .int fr, .int tm, .int nb, .ref b] (ga_pre (xa_K k) [(a, .inr (5, [.int 0, .int 0, .int 0, .int 0, .int 0, .null]))] sz)) (va_Qv (fun (_ : Unit) => True) (ga_post (xa_K k) [(a, .inr (5, [.int 0, .int 0, .int 0, .int 0, .int 0, .null]))] sz (fun _ => [(a, xa_ev (xa_five kd ep fr tm nb) b)])) (va_A [(a, .inr (5, [.int 0, .int 0, .int 0, .int 0, .int 0, .null]))] sz)) 0 0 (va_A [(a, .inr (5, [.int 0, .int 0, .int 0, .int 0, .int 0, .null]))] sz) := by
  refine ga_Met (by decide) (Nat.le_of_ble_eq_true rfl) ?_
  intro p e s m below meth c hC hr hlocks hin hw ls hl
  have hx := hC.1
  have hb := hC.2.1
  have hl : lv_has ls 7 [(0, .ref a), (1, .int kd), (2, .int ep), (3, .int fr), (4, .int tm), (5, .int nb), (6, .ref b)] := hl
  refine lv_aload_n hx hb d_Event_init_0 rfl (lv_at hl 0 rfl) ?_
  refine W.objInit hx hb hC.2.2.2.1 (hC.2.2.2.2 _ ml_Event_1) (hC.2.2.2.2 _ in_objectInit) (hC.2.2.2.2 _ co_objectInit) rfl (by rw [hC.2.2.1]; exact hl.1) rfl d_Event_init_1 (Nat.le_of_ble_eq_true rfl) (Nat.le_of_ble_eq_true rfl) ?_
  refine W.eq (g2 := F0 m 4 ls []) rfl ?_
  refine lv_aload_n hx hb d_Event_init_4 rfl (lv_at hl 0 rfl) ?_
  refine lv_iload_n hx hb d_Event_init_5 rfl (lv_at hl 1 rfl) ?_
  refine ga_putF (ty := .int) hC hin hw cl_Event 0 rfl 0 (by decide) fl_Event_7 rfl rfl (by decide +kernel) rfl rfl (Nat.le_of_ble_eq_true rfl) d_Event_init_6 (fun H locs hw => ?_)
  have hw : ga_w (xa_K k) [(a, .inr (5, [.int kd, .int 0, .int 0, .int 0, .int 0, .null]))] (va_A [(a, .inr (5, [.int 0, .int 0, .int 0, .int 0, .int 0, .null]))] sz) s H locs := hw
  refine lv_aload_n hx hb d_Event_init_9 rfl (lv_at hl 0 rfl) ?_
  refine lv_iload_n hx hb d_Event_init_10 rfl (lv_at hl 2 rfl) ?_
  refine ga_putF (ty := .int) hC hin hw cl_Event 0 rfl 1 (by decide) fl_Event_13 rfl rfl (by decide +kernel) rfl rfl (Nat.le_of_ble_eq_true rfl) d_Event_init_11 (fun H locs hw => ?_)
  have hw : ga_w (xa_K k) [(a, .inr (5, [.int kd, .int ep, .int 0, .int 0, .int 0, .null]))] (va_A [(a, .inr (5, [.int 0, .int 0, .int 0, .int 0, .int 0, .null]))] sz) s H locs := hw
  refine lv_aload_n hx hb d_Event_init_14 rfl (lv_at hl 0 rfl) ?_
  refine lv_iload_n hx hb d_Event_init_15 rfl (lv_at hl 3 rfl) ?_
  refine ga_putF (ty := .int) hC hin hw cl_Event 0 rfl 2 (by decide) fl_Event_16 rfl rfl (by decide +kernel) rfl rfl (Nat.le_of_ble_eq_true rfl) d_Event_init_16 (fun H locs hw => ?_)
  have hw : ga_w (xa_K k) [(a, .inr (5, [.int kd, .int ep, .int fr, .int 0, .int 0, .null]))] (va_A [(a, .inr (5, [.int 0, .int 0, .int 0, .int 0, .int 0, .null]))] sz) s H locs := hw
  refine lv_aload_n hx hb d_Event_init_19 rfl (lv_at hl 0 rfl) ?_
  refine lv_iload hx hb d_Event_init_20 (lv_at hl 4 rfl) ?_
  refine ga_putF (ty := .int) hC hin hw cl_Event 0 rfl 3 (by decide) fl_Event_19 rfl rfl (by decide +kernel) rfl rfl (Nat.le_of_ble_eq_true rfl) d_Event_init_22 (fun H locs hw => ?_)
  have hw : ga_w (xa_K k) [(a, .inr (5, [.int kd, .int ep, .int fr, .int tm, .int 0, .null]))] (va_A [(a, .inr (5, [.int 0, .int 0, .int 0, .int 0, .int 0, .null]))] sz) s H locs := hw
  refine lv_aload_n hx hb d_Event_init_25 rfl (lv_at hl 0 rfl) ?_
  refine lv_iload hx hb d_Event_init_26 (lv_at hl 5 rfl) ?_
  refine ga_putF (ty := .int) hC hin hw cl_Event 0 rfl 4 (by decide) fl_Event_22 rfl rfl (by decide +kernel) rfl rfl (Nat.le_of_ble_eq_true rfl) d_Event_init_28 (fun H locs hw => ?_)
  have hw : ga_w (xa_K k) [(a, .inr (5, [.int kd, .int ep, .int fr, .int tm, .int nb, .null]))] (va_A [(a, .inr (5, [.int 0, .int 0, .int 0, .int 0, .int 0, .null]))] sz) s H locs := hw
  refine lv_aload_n hx hb d_Event_init_31 rfl (lv_at hl 0 rfl) ?_
  refine lv_aload hx hb d_Event_init_32 (lv_at hl 6 rfl) ?_
  refine ga_putF (ty := (.array .byte)) hC hin hw cl_Event 0 rfl 5 (by decide) fl_Event_25 rfl rfl (by decide +kernel) rfl rfl (Nat.le_of_ble_eq_true rfl) d_Event_init_34 (fun H locs hw => ?_)
  have hw : ga_w (xa_K k) [(a, .inr (5, [.int kd, .int ep, .int fr, .int tm, .int nb, .ref b]))] (va_A [(a, .inr (5, [.int 0, .int 0, .int 0, .int 0, .int 0, .null]))] sz) s H locs := hw
  exact ga_vret (u := ()) hC hr hlocks hw trivial (Nat.le_of_ble_eq_true rfl) (Nat.le_of_ble_eq_true rfl) d_Event_init_37
set_option maxHeartbeats 4000000 in
set_option maxRecDepth 100000 in
theorem c_NetWires_addMessage (l : Launch) (k : xa_k) (x : XS) (fr to tm : Int32) (b n : Nat) (h0 : xa_R0 x n) (hn : n < 232) (sz : Nat) : Met l y_NetWires_addMessage (Cond.code y_NetWires_addMessage b_NetWires_addMessage 5 none :: ga_T) ({ frames := 3, cells := 1, slots := 6, locals := 66 }) (va_Pc [.ref (xa_a k 0), .int fr, .int to, .int tm, .ref b] (ga_pre (xa_K k) (xa_W k x) sz)) (va_Qv (fun (u : XS) => xa_addP x n fr to tm b u) (ga_post (xa_K k) (xa_W k x) sz (xa_W k)) (va_A (xa_W k x) sz)) 1 6 (va_A (xa_W k x) sz) := by
  refine ga_Met (by decide) (Nat.le_of_ble_eq_true rfl) ?_
  intro p e s m below meth c hC hr hlocks _ hw ls hl
  have hx := hC.1
  have hb := hC.2.1
  have hl : lv_has ls 5 [(0, .ref (xa_a k 0)), (1, .int fr), (2, .int to), (3, .int tm), (4, .ref b)] := hl
  refine lv_aload_n hx hb d_NetWires_addMessage_0 rfl (lv_at hl 0 rfl) ?_
  refine xg_NetWires_agenda hC hw fl_NetWires_19 d_NetWires_addMessage_1 ?_
  refine ga_new (fs := [.int 0, .int 0, .int 0, .int 0, .int 0, .null]) hC hw cl_Event t_Event t_Event_ok kl_NetWires_149 in_Event ini_Event (fun j hj => by rcases (show j = 0 ∨ j = 1 ∨ j = 2 ∨ j = 3 ∨ j = 4 ∨ j = 5 by omega) with rfl | rfl | rfl | rfl | rfl | rfl <;> rfl) (Nat.le_of_ble_eq_true rfl) (Nat.le_of_ble_eq_true rfl) d_NetWires_addMessage_4 (fun a H hw => ?_)
  refine lv_dup hx hb d_NetWires_addMessage_7 rfl ?_
  refine lv_iconst (v := 0) hx hb d_NetWires_addMessage_8 (by decide) ?_
  refine lv_iload_n hx hb d_NetWires_addMessage_9 rfl (lv_at hl 2 rfl) ?_
  refine lv_iload_n hx hb d_NetWires_addMessage_10 rfl (lv_at hl 1 rfl) ?_
  refine lv_iload_n hx hb d_NetWires_addMessage_11 rfl (lv_at hl 3 rfl) ?_
  refine lv_aload_n hx hb d_NetWires_addMessage_12 rfl (lv_at hl 0 rfl) ?_
  refine ga_ViL (As := []) (rest := [.int tm, .int fr, .int to, .int 0, .ref a, .ref a, .ref (xa_a k 3)]) hC hw (c_NetWires_takeNumber l k x _) m_NetWires_takeNumber ml_NetWires_234 (ga_recv (ga_subL hw) (q0 := 0) rfl rfl) rfl rfl ⟨Nat.le_of_ble_eq_true rfl, Nat.le_of_ble_eq_true rfl⟩ rfl hl.1 rfl (Nat.le_of_ble_eq_true rfl) d_NetWires_addMessage_13 ⟨Nat.le_of_ble_eq_true rfl, Nat.le_of_ble_eq_true rfl⟩ (fun r u H locs hp hw => ?_)
  obtain ⟨rfl, rfl⟩ := hp
  refine lv_aload hx hb d_NetWires_addMessage_16 (lv_at hl 4 rfl) ?_
  refine ga_IvR (As := [.int 0, .int to, .int fr, .int tm, .int (x.1 1), .ref b]) (rest := [.ref a, .ref (xa_a k 3)]) hC hw (c_Event_init l k a b 0 to fr tm (x.1 1) _) m_Event_init ml_NetWires_238 rfl rfl ⟨Nat.le_of_ble_eq_true rfl, Nat.le_of_ble_eq_true rfl⟩ rfl hl.1 rfl (Nat.le_of_ble_eq_true rfl) d_NetWires_addMessage_18 ⟨Nat.le_of_ble_eq_true rfl, Nat.le_of_ble_eq_true rfl⟩ (fun u H locs _ hw => ?_)
  obtain ⟨hfr, hw⟩ := xa_absorb hw
  have hE : xa_isE ((xa_P (xa_sI x 1 ((x.1 1) + 1))).1 ++ [a], va_up (xa_P (xa_sI x 1 ((x.1 1) + 1))).2 a (xa_ev (xa_five 0 to fr tm (x.1 1)) b)) a (xa_five 0 to fr tm (x.1 1)) b := ⟨List.mem_append_right _ List.mem_cons_self, va_up_self _ _ _⟩
  obtain ⟨hR1, hat1⟩ := xa_R0.up (x := xa_sI x 1 (x.1 1 + 1)) (a := a) (e := xa_ev (xa_five 0 to fr tm (x.1 1)) b) (show xa_R0 _ n from h0) hfr
  refine ga_Vv (As := [.ref a]) (rest := []) hC hw (c_Agenda_insert l k (xa_sP (xa_sI x 1 ((x.1 1) + 1)) (((xa_P (xa_sI x 1 ((x.1 1) + 1))).1 ++ [a], va_up (xa_P (xa_sI x 1 ((x.1 1) + 1))).2 a (xa_ev (xa_five 0 to fr tm (x.1 1)) b)))) a n (xa_five 0 to fr tm (x.1 1)) b hR1 hE hn _) m_Agenda_insert ml_NetWires_241 (ga_recv hw (q0 := 3) rfl rfl) rfl rfl ⟨Nat.le_of_ble_eq_true rfl, Nat.le_of_ble_eq_true rfl⟩ rfl hl.1 rfl (Nat.le_of_ble_eq_true rfl) d_NetWires_addMessage_21 ⟨Nat.le_of_ble_eq_true rfl, Nat.le_of_ble_eq_true rfl⟩ (fun u H locs hp hw => ?_)
  obtain ⟨q, hq, hi, hj, rfl⟩ := hp
  exact ga_vret (u := xa_msg (xa_sI (xa_sE (xa_sP (xa_sI x 1 ((x.1 1) + 1)) (((xa_P (xa_sI x 1 ((x.1 1) + 1))).1 ++ [a], va_up (xa_P (xa_sI x 1 ((x.1 1) + 1))).2 a (xa_ev (xa_five 0 to fr tm (x.1 1)) b)))) (xa_ins (xa_E (xa_sP (xa_sI x 1 ((x.1 1) + 1)) (((xa_P (xa_sI x 1 ((x.1 1) + 1))).1 ++ [a], va_up (xa_P (xa_sI x 1 ((x.1 1) + 1))).2 a (xa_ev (xa_five 0 to fr tm (x.1 1)) b))))) n q a)) 7 (nI (n + 1))) ((xa_five 0 to fr tm (x.1 1)) 0) 1) hC hr hlocks hw ⟨a, q, hfr, hq, fun j h1 h2 => by have h3 := hi j h1 h2; rw [hat1 j h2] at h3; exact h3, fun j h1 => by have h3 := hj j h1; rw [hat1 j (by omega)] at h3; exact h3, rfl⟩ (Nat.le_of_ble_eq_true rfl) (Nat.le_of_ble_eq_true rfl) d_NetWires_addMessage_24

set_option maxHeartbeats 4000000 in
set_option maxRecDepth 100000 in
theorem c_NetWires_dropTimer (l : Launch) (k : xa_k) (x : XS) (kd ep : Int32) (n : Nat) (h0 : xa_R0 x n) (sz : Nat) : Met l y_NetWires_dropTimer (Cond.code y_NetWires_dropTimer b_NetWires_dropTimer 3 (some .boolean) :: ga_T) ({ frames := 2, cells := 0, slots := 0, locals := 45 }) (va_Pc [.ref (xa_a k 0), .int kd, .int ep] (ga_pre (xa_K k) (xa_W k x) sz)) (va_Qi (fun (r : Int32) (u : XS) => xa_drp x n kd ep r u) (ga_post (xa_K k) (xa_W k x) sz (xa_W k)) (va_A (xa_W k x) sz)) 0 0 (va_A (xa_W k x) sz) := by
  refine ga_Met (by decide) (Nat.le_of_ble_eq_true rfl) ?_
  intro p e s m below meth c hC hr hlocks _ hw ls hl
  have hx := hC.1
  have hb := hC.2.1
  have hl : lv_has ls 3 [(0, .ref (xa_a k 0)), (1, .int kd), (2, .int ep)] := hl
  refine lv_aload_n hx hb d_NetWires_dropTimer_0 rfl (lv_at hl 0 rfl) ?_
  refine xg_NetWires_agenda hC hw fl_NetWires_19 d_NetWires_dropTimer_1 ?_
  refine lv_aload_n hx hb d_NetWires_dropTimer_4 rfl (lv_at hl 0 rfl) ?_
  refine xg_NetWires_agenda hC hw fl_NetWires_19 d_NetWires_dropTimer_5 ?_
  refine lv_iload_n hx hb d_NetWires_dropTimer_8 rfl (lv_at hl 1 rfl) ?_
  refine lv_iload_n hx hb d_NetWires_dropTimer_9 rfl (lv_at hl 2 rfl) ?_
  refine ga_Vi (As := [.int kd, .int ep]) (rest := [.ref (xa_a k 3)]) hC hw (c_Agenda_placeOfTimer l k x kd ep n h0 _) m_Agenda_placeOfTimer ml_NetWires_203 (ga_recv hw (q0 := 3) rfl rfl) rfl rfl ⟨Nat.le_of_ble_eq_true rfl, Nat.le_of_ble_eq_true rfl⟩ rfl hl.1 rfl (Nat.le_of_ble_eq_true rfl) d_NetWires_dropTimer_10 ⟨Nat.le_of_ble_eq_true rfl, Nat.le_of_ble_eq_true rfl⟩ (fun r u H locs hp hw => ?_)
  obtain ⟨rfl, hp⟩ := hp
  rcases hp with ⟨rfl, h_10⟩ | ⟨j_10, hj_10, rfl, h_10, g_10⟩
  · refine ga_Vq (As := [.int ((-1))]) (rest := []) hC hw (c_Agenda_takeAt l k x ((-1)) n h0 _) m_Agenda_takeAt ml_NetWires_132 (ga_recv hw (q0 := 3) rfl rfl) rfl rfl ⟨Nat.le_of_ble_eq_true rfl, Nat.le_of_ble_eq_true rfl⟩ rfl hl.1 rfl (Nat.le_of_ble_eq_true rfl) d_NetWires_dropTimer_13 ⟨Nat.le_of_ble_eq_true rfl, Nat.le_of_ble_eq_true rfl⟩ (fun r u H locs hp hw => ?_)
    rcases hp with ⟨rfl, rfl, h_13⟩ | ⟨j_13, hj_13, ej_13, rfl, rfl⟩
    · refine lv_ifnullN (tgt := 23) hx hb d_NetWires_dropTimer_16 (by decide) ?_
      refine lv_iconst (v := 0) hx hb d_NetWires_dropTimer_23 (by decide) ?_
      exact ga_zret (u := x) hC hr hlocks hw (Or.inl rfl) (Or.inl ⟨rfl, rfl, h_10⟩) (Nat.le_of_ble_eq_true rfl) (Nat.le_of_ble_eq_true rfl) d_NetWires_dropTimer_24
    · exact absurd ej_13 (xa_m1 (by have := h0.2.1; omega))
  · refine ga_Vq (As := [.int (nI j_10)]) (rest := []) hC hw (c_Agenda_takeAt l k x (nI j_10) n h0 _) m_Agenda_takeAt ml_NetWires_132 (ga_recv hw (q0 := 3) rfl rfl) rfl rfl ⟨Nat.le_of_ble_eq_true rfl, Nat.le_of_ble_eq_true rfl⟩ rfl hl.1 rfl (Nat.le_of_ble_eq_true rfl) d_NetWires_dropTimer_13 ⟨Nat.le_of_ble_eq_true rfl, Nat.le_of_ble_eq_true rfl⟩ (fun r u H locs hp hw => ?_)
    rcases hp with ⟨rfl, rfl, h_13⟩ | ⟨j_13, hj_13, ej_13, rfl, rfl⟩
    · exact absurd (xa_nix h0.2.1 h_13 rfl hj_10) id
    · obtain rfl := xa_inj h0.2.1 hj_10 hj_13 ej_13
      refine lv_ifnull hx hb d_NetWires_dropTimer_16 ?_
      refine lv_iconst (v := 1) hx hb d_NetWires_dropTimer_19 (by decide) ?_
      refine lv_goto (tgt := 24) hx hb d_NetWires_dropTimer_20 (by decide) ?_
      exact ga_zret (u := xa_take x n j_10) hC hr hlocks hw (Or.inr rfl) (Or.inr ⟨j_10, hj_10, rfl, h_10, g_10, rfl⟩) (Nat.le_of_ble_eq_true rfl) (Nat.le_of_ble_eq_true rfl) d_NetWires_dropTimer_24

set_option maxHeartbeats 4000000 in
set_option maxRecDepth 100000 in
theorem c_NetWires_launch (l : Launch) (k : xa_k) (x : XS) (fr to late : Int32) (b n i9 j9 : Nat) (h0 : xa_R0 x n) (hfr9 : fr = nI i9) (hi9 : i9 < 16) (hto9 : to = nI j9) (hj9 : j9 < 16) (hn : x.1 8 < 200 → n < 232) (sz : Nat) : Met l y_NetWires_launch (Cond.code y_NetWires_launch b_NetWires_launch 5 (some .int) :: ga_T) ({ frames := 4, cells := 1, slots := 6, locals := 90 }) (va_Pc [.ref (xa_a k 0), .int fr, .int to, .int late, .ref b] (ga_pre (xa_K k) (xa_W k x) sz)) (va_Qi (fun (r : Int32) (u : XS) => xa_lau x n i9 j9 fr to late b r u) (ga_post (xa_K k) (xa_W k x) sz (xa_W k)) (va_A (xa_W k x) sz)) 1 6 (va_A (xa_W k x) sz) := by
  refine ga_Met (by decide) (Nat.le_of_ble_eq_true rfl) ?_
  intro p e s m below meth c hC hr hlocks _ hw ls hl
  have hx := hC.1
  have hb := hC.2.1
  have hl : lv_has ls 5 [(0, .ref (xa_a k 0)), (1, .int fr), (2, .int to), (3, .int late), (4, .ref b)] := hl
  refine lv_aload_n hx hb d_NetWires_launch_0 rfl (lv_at hl 0 rfl) ?_
  refine xg_NetWires_agenda hC hw fl_NetWires_19 d_NetWires_launch_1 ?_
  refine xg_Agenda_messages (v := x.1 8) hC hw fl_NetWires_206 d_NetWires_launch_4 rfl ?_
  refine lv_sipush (v := 200) hx hb d_NetWires_launch_7 (by decide) ?_
  refine lv_icmp_lt (tgt := 25) hx hb d_NetWires_launch_10 (by decide) (fun c_10 => ?_) (fun c_10 => ?_)
  · refine lv_aload_n hx hb d_NetWires_launch_25 rfl (lv_at hl 0 rfl) ?_
    refine lv_iload_n hx hb d_NetWires_launch_26 rfl (lv_at hl 1 rfl) ?_
    refine lv_iload_n hx hb d_NetWires_launch_27 rfl (lv_at hl 2 rfl) ?_
    refine lv_aload_n hx hb d_NetWires_launch_28 rfl (lv_at hl 0 rfl) ?_
    refine xg_NetWires_now (v := x.1 0) hC hw fl_NetWires_47 d_NetWires_launch_29 rfl ?_
    refine lv_aload_n hx hb d_NetWires_launch_32 rfl (lv_at hl 0 rfl) ?_
    refine xg_NetWires_delays hC hw fl_NetWires_37 d_NetWires_launch_33 ?_
    refine lv_iload_n hx hb d_NetWires_launch_36 rfl (lv_at hl 1 rfl) ?_
    refine lv_iload_n hx hb d_NetWires_launch_37 rfl (lv_at hl 2 rfl) ?_
    refine ga_Si (As := [.int fr, .int to]) (rest := [.ref (xa_a k 8), .int (x.1 0), .int to, .int fr, .ref (xa_a k 0)]) hC hw (c_NetWires_linkOf l k x fr to _) m_NetWires_linkOf ml_NetWires_153 rfl rfl ⟨Nat.le_of_ble_eq_true rfl, Nat.le_of_ble_eq_true rfl⟩ rfl hl.1 rfl (Nat.le_of_ble_eq_true rfl) d_NetWires_launch_38 ⟨Nat.le_of_ble_eq_true rfl, Nat.le_of_ble_eq_true rfl⟩ (fun r u H locs hp hw => ?_)
    obtain ⟨rfl, rfl⟩ := hp
    refine ga_asi (v := nI (i9 * 16 + j9)) ((by rw [hfr9, hto9]; exact (congrArg (· + nI j9) (pk_mul i9 16)).trans (nI_add _ _))) ?_
    refine xr_delays (v := xa_L x (i9 * 16 + j9)) hC hw (vp_in_nI (by omega) (by decide)) d_NetWires_launch_41 (by rw [nI_clamp (by omega)]) ?_
    refine lv_iadd hx hb d_NetWires_launch_42 ?_
    refine lv_iload_n hx hb d_NetWires_launch_43 rfl (lv_at hl 3 rfl) ?_
    refine lv_iadd hx hb d_NetWires_launch_44 ?_
    refine lv_aload hx hb d_NetWires_launch_45 (lv_at hl 4 rfl) ?_
    refine ga_Vv (As := [.int fr, .int to, .int (((x.1 0) + (xa_L x (i9 * 16 + j9))) + late), .ref b]) (rest := []) hC hw (c_NetWires_addMessage l k x fr to (((x.1 0) + (xa_L x (i9 * 16 + j9))) + late) b n h0 (hn c_10) _) m_NetWires_addMessage ml_NetWires_184 (ga_recv hw (q0 := 0) rfl rfl) rfl rfl ⟨Nat.le_of_ble_eq_true rfl, Nat.le_of_ble_eq_true rfl⟩ rfl hl.1 rfl (Nat.le_of_ble_eq_true rfl) d_NetWires_launch_47 ⟨Nat.le_of_ble_eq_true rfl, Nat.le_of_ble_eq_true rfl⟩ (fun u H locs hp hw => ?_)
    obtain ⟨a, q, hfr, hq, hi, hj, rfl⟩ := hp
    refine lv_aload_n hx hb d_NetWires_launch_50 rfl (lv_at hl 0 rfl) ?_
    refine lv_dup hx hb d_NetWires_launch_51 rfl ?_
    refine xg_NetWires_everOnWay (v := (xa_add x n a q (xa_five 0 to fr (((x.1 0) + (xa_L x (i9 * 16 + j9))) + late) (x.1 1)) b).1 4) hC hw fl_NetWires_60 d_NetWires_launch_52 rfl ?_
    refine lv_iconst (v := 1) hx hb d_NetWires_launch_55 (by decide) ?_
    refine lv_iadd hx hb d_NetWires_launch_56 ?_
    refine xp_NetWires_everOnWay hC hw fl_NetWires_60 d_NetWires_launch_57 (fun H locs hw => ?_)
    refine lv_iconst (v := 1) hx hb d_NetWires_launch_60 (by decide) ?_
    exact ga_iret (u := xa_sI (xa_add x n a q (xa_five 0 to fr (((x.1 0) + (xa_L x (i9 * 16 + j9))) + late) (x.1 1)) b) 4 (((xa_add x n a q (xa_five 0 to fr (((x.1 0) + (xa_L x (i9 * 16 + j9))) + late) (x.1 1)) b).1 4) + 1)) hC hr hlocks hw (Or.inr ⟨rfl, c_10, a, q, hfr, hq, hi, hj, rfl⟩) (Nat.le_of_ble_eq_true rfl) (Nat.le_of_ble_eq_true rfl) d_NetWires_launch_61
  · refine lv_aload_n hx hb d_NetWires_launch_13 rfl (lv_at hl 0 rfl) ?_
    refine lv_dup hx hb d_NetWires_launch_14 rfl ?_
    refine xg_NetWires_lost (v := x.1 5) hC hw fl_NetWires_63 d_NetWires_launch_15 rfl ?_
    refine lv_iconst (v := 1) hx hb d_NetWires_launch_18 (by decide) ?_
    refine lv_iadd hx hb d_NetWires_launch_19 ?_
    refine xp_NetWires_lost hC hw fl_NetWires_63 d_NetWires_launch_20 (fun H locs hw => ?_)
    refine lv_iconst (v := 0) hx hb d_NetWires_launch_23 (by decide) ?_
    exact ga_iret (u := xa_sI x 5 ((x.1 5) + 1)) hC hr hlocks hw (Or.inl ⟨rfl, c_10, rfl⟩) (Nat.le_of_ble_eq_true rfl) (Nat.le_of_ble_eq_true rfl) d_NetWires_launch_24

set_option maxHeartbeats 4000000 in
set_option maxRecDepth 100000 in
theorem c_NetWires_setTimer (l : Launch) (k : xa_k) (x : XS) (kd ep ti : Int32) (n : Nat) (h0 : xa_R0 x n) (hn0 : (∀ t, t < n → ¬ xa_mt x t kd ep) → n < 232) (sz : Nat) : Met l y_NetWires_setTimer (Cond.code y_NetWires_setTimer b_NetWires_setTimer 5 (some .boolean) :: ga_T) ({ frames := 3, cells := 1, slots := 6, locals := 67 }) (va_Pc [.ref (xa_a k 0), .int kd, .int ep, .int ti] (ga_pre (xa_K k) (xa_W k x) sz)) (va_Qi (fun (r : Int32) (u : XS) => xa_tim k x n kd ep ti r u) (ga_post (xa_K k) (xa_W k x) sz (xa_W k)) (va_A (xa_W k x) sz)) 1 6 (va_A (xa_W k x) sz) := by
  refine ga_Met (by decide) (Nat.le_of_ble_eq_true rfl) ?_
  intro p e s m below meth c hC hr hlocks _ hw ls hl
  have hx := hC.1
  have hb := hC.2.1
  have hl : lv_has ls 5 [(0, .ref (xa_a k 0)), (1, .int kd), (2, .int ep), (3, .int ti)] := hl
  refine lv_aload_n hx hb d_NetWires_setTimer_0 rfl (lv_at hl 0 rfl) ?_
  refine lv_iload_n hx hb d_NetWires_setTimer_1 rfl (lv_at hl 1 rfl) ?_
  refine lv_iload_n hx hb d_NetWires_setTimer_2 rfl (lv_at hl 2 rfl) ?_
  refine ga_Vi (As := [.int kd, .int ep]) (rest := []) hC hw (c_NetWires_dropTimer l k x kd ep n h0 _) m_NetWires_dropTimer ml_NetWires_129 (ga_recv hw (q0 := 0) rfl rfl) rfl rfl ⟨Nat.le_of_ble_eq_true rfl, Nat.le_of_ble_eq_true rfl⟩ rfl hl.1 rfl (Nat.le_of_ble_eq_true rfl) d_NetWires_setTimer_3 ⟨Nat.le_of_ble_eq_true rfl, Nat.le_of_ble_eq_true rfl⟩ (fun r u H locs hp hw => ?_)
  rcases hp with ⟨rfl, rfl, h_3⟩ | ⟨j_3, hj_3, rfl, h_3, g_3, rfl⟩
  · refine lv_istore (lv' := [(4, .int 0), (0, .ref (xa_a k 0)), (1, .int kd), (2, .int ep), (3, .int ti)]) hx hb d_NetWires_setTimer_6 hl (by decide) rfl (fun ls hl => ?_)
    refine lv_aload_n hx hb d_NetWires_setTimer_8 rfl (lv_at hl 1 rfl) ?_
    refine xg_NetWires_agenda hC hw fl_NetWires_19 d_NetWires_setTimer_9 ?_
    refine ga_new (fs := [.int 0, .int 0, .int 0, .int 0, .int 0, .null]) hC hw cl_Event t_Event t_Event_ok kl_NetWires_149 in_Event ini_Event (fun j hj => by rcases (show j = 0 ∨ j = 1 ∨ j = 2 ∨ j = 3 ∨ j = 4 ∨ j = 5 by omega) with rfl | rfl | rfl | rfl | rfl | rfl <;> rfl) (Nat.le_of_ble_eq_true rfl) (Nat.le_of_ble_eq_true rfl) d_NetWires_setTimer_12 (fun a H hw => ?_)
    refine lv_dup hx hb d_NetWires_setTimer_15 rfl ?_
    refine lv_iload_n hx hb d_NetWires_setTimer_16 rfl (lv_at hl 2 rfl) ?_
    refine lv_iload_n hx hb d_NetWires_setTimer_17 rfl (lv_at hl 3 rfl) ?_
    refine lv_iconst (v := (-1)) hx hb d_NetWires_setTimer_18 (by decide) ?_
    refine lv_aload_n hx hb d_NetWires_setTimer_19 rfl (lv_at hl 1 rfl) ?_
    refine xg_NetWires_now (v := x.1 0) hC (ga_subL hw) fl_NetWires_47 d_NetWires_setTimer_20 rfl ?_
    refine lv_iload_n hx hb d_NetWires_setTimer_23 rfl (lv_at hl 4 rfl) ?_
    refine lv_iadd hx hb d_NetWires_setTimer_24 ?_
    refine lv_aload_n hx hb d_NetWires_setTimer_25 rfl (lv_at hl 1 rfl) ?_
    refine ga_ViL (As := []) (rest := [.int ((x.1 0) + ti), .int ((-1)), .int ep, .int kd, .ref a, .ref a, .ref (xa_a k 3)]) hC hw (c_NetWires_takeNumber l k x _) m_NetWires_takeNumber ml_NetWires_234 (ga_recv (ga_subL hw) (q0 := 0) rfl rfl) rfl rfl ⟨Nat.le_of_ble_eq_true rfl, Nat.le_of_ble_eq_true rfl⟩ rfl hl.1 rfl (Nat.le_of_ble_eq_true rfl) d_NetWires_setTimer_26 ⟨Nat.le_of_ble_eq_true rfl, Nat.le_of_ble_eq_true rfl⟩ (fun r u H locs hp hw => ?_)
    obtain ⟨rfl, rfl⟩ := hp
    refine xg_NO_BYTES hC (ga_subL hw) fl_NetWires_66 d_NetWires_setTimer_29 ?_
    refine ga_IvR (As := [.int kd, .int ep, .int ((-1)), .int ((x.1 0) + ti), .int (x.1 1), .ref (xa_a k 9)]) (rest := [.ref a, .ref (xa_a k 3)]) hC hw (c_Event_init l k a (xa_a k 9) kd ep ((-1)) ((x.1 0) + ti) (x.1 1) _) m_Event_init ml_NetWires_238 rfl rfl ⟨Nat.le_of_ble_eq_true rfl, Nat.le_of_ble_eq_true rfl⟩ rfl hl.1 rfl (Nat.le_of_ble_eq_true rfl) d_NetWires_setTimer_32 ⟨Nat.le_of_ble_eq_true rfl, Nat.le_of_ble_eq_true rfl⟩ (fun u H locs _ hw => ?_)
    obtain ⟨hfr, hw⟩ := xa_absorb hw
    have hE : xa_isE ((xa_P (xa_sI x 1 ((x.1 1) + 1))).1 ++ [a], va_up (xa_P (xa_sI x 1 ((x.1 1) + 1))).2 a (xa_ev (xa_five kd ep ((-1)) ((x.1 0) + ti) (x.1 1)) (xa_a k 9))) a (xa_five kd ep ((-1)) ((x.1 0) + ti) (x.1 1)) (xa_a k 9) := ⟨List.mem_append_right _ List.mem_cons_self, va_up_self _ _ _⟩
    have hnn : n < 232 := hn0 h_3
    obtain ⟨hR1, hat1⟩ := xa_R0.up (x := xa_sI x 1 (x.1 1 + 1)) (a := a) (e := xa_ev (xa_five kd ep (-1) (x.1 0 + ti) (x.1 1)) (xa_a k 9)) (show xa_R0 _ (n) from h0) hfr
    refine ga_Vv (As := [.ref a]) (rest := []) hC hw (c_Agenda_insert l k (xa_sP (xa_sI x 1 ((x.1 1) + 1)) (((xa_P (xa_sI x 1 ((x.1 1) + 1))).1 ++ [a], va_up (xa_P (xa_sI x 1 ((x.1 1) + 1))).2 a (xa_ev (xa_five kd ep ((-1)) ((x.1 0) + ti) (x.1 1)) (xa_a k 9))))) a (n) (xa_five kd ep (-1) (x.1 0 + ti) (x.1 1)) (xa_a k 9) hR1 hE hnn _) m_Agenda_insert ml_NetWires_241 (ga_recv hw (q0 := 3) rfl rfl) rfl rfl ⟨Nat.le_of_ble_eq_true rfl, Nat.le_of_ble_eq_true rfl⟩ rfl hl.1 rfl (Nat.le_of_ble_eq_true rfl) d_NetWires_setTimer_35 ⟨Nat.le_of_ble_eq_true rfl, Nat.le_of_ble_eq_true rfl⟩ (fun u H locs hp hw => ?_)
    obtain ⟨q, hq, hi, hj, rfl⟩ := hp
    refine lv_iload hx hb d_NetWires_setTimer_38 (lv_at hl 0 rfl) ?_
    exact ga_zret (u := xa_msg (xa_sI (xa_sE (xa_sP (xa_sI x 1 ((x.1 1) + 1)) (((xa_P (xa_sI x 1 ((x.1 1) + 1))).1 ++ [a], va_up (xa_P (xa_sI x 1 ((x.1 1) + 1))).2 a (xa_ev (xa_five kd ep ((-1)) ((x.1 0) + ti) (x.1 1)) (xa_a k 9))))) (xa_ins (xa_E (xa_sP (xa_sI x 1 ((x.1 1) + 1)) (((xa_P (xa_sI x 1 ((x.1 1) + 1))).1 ++ [a], va_up (xa_P (xa_sI x 1 ((x.1 1) + 1))).2 a (xa_ev (xa_five kd ep ((-1)) ((x.1 0) + ti) (x.1 1)) (xa_a k 9)))))) n q a)) 7 (nI (n + 1))) ((xa_five kd ep (-1) (x.1 0 + ti) (x.1 1)) 0) 1) hC hr hlocks hw (Or.inl rfl) (Or.inl ⟨rfl, h_3, ⟨a, q, hfr, hq, fun j h1 h2 => by have h3 := hi j h1 h2; rw [hat1 j h2] at h3; exact h3, fun j h1 => by have h3 := hj j h1; rw [hat1 j (by omega)] at h3; exact h3, rfl⟩⟩) (Nat.le_of_ble_eq_true rfl) (Nat.le_of_ble_eq_true rfl) d_NetWires_setTimer_40
  · refine lv_istore (lv' := [(4, .int 1), (0, .ref (xa_a k 0)), (1, .int kd), (2, .int ep), (3, .int ti)]) hx hb d_NetWires_setTimer_6 hl (by decide) rfl (fun ls hl => ?_)
    refine lv_aload_n hx hb d_NetWires_setTimer_8 rfl (lv_at hl 1 rfl) ?_
    refine xg_NetWires_agenda hC hw fl_NetWires_19 d_NetWires_setTimer_9 ?_
    refine ga_new (fs := [.int 0, .int 0, .int 0, .int 0, .int 0, .null]) hC hw cl_Event t_Event t_Event_ok kl_NetWires_149 in_Event ini_Event (fun j hj => by rcases (show j = 0 ∨ j = 1 ∨ j = 2 ∨ j = 3 ∨ j = 4 ∨ j = 5 by omega) with rfl | rfl | rfl | rfl | rfl | rfl <;> rfl) (Nat.le_of_ble_eq_true rfl) (Nat.le_of_ble_eq_true rfl) d_NetWires_setTimer_12 (fun a H hw => ?_)
    refine lv_dup hx hb d_NetWires_setTimer_15 rfl ?_
    refine lv_iload_n hx hb d_NetWires_setTimer_16 rfl (lv_at hl 2 rfl) ?_
    refine lv_iload_n hx hb d_NetWires_setTimer_17 rfl (lv_at hl 3 rfl) ?_
    refine lv_iconst (v := (-1)) hx hb d_NetWires_setTimer_18 (by decide) ?_
    refine lv_aload_n hx hb d_NetWires_setTimer_19 rfl (lv_at hl 1 rfl) ?_
    refine xg_NetWires_now (v := (xa_take x n j_3).1 0) hC (ga_subL hw) fl_NetWires_47 d_NetWires_setTimer_20 rfl ?_
    refine lv_iload_n hx hb d_NetWires_setTimer_23 rfl (lv_at hl 4 rfl) ?_
    refine lv_iadd hx hb d_NetWires_setTimer_24 ?_
    refine lv_aload_n hx hb d_NetWires_setTimer_25 rfl (lv_at hl 1 rfl) ?_
    refine ga_ViL (As := []) (rest := [.int (((xa_take x n j_3).1 0) + ti), .int ((-1)), .int ep, .int kd, .ref a, .ref a, .ref (xa_a k 3)]) hC hw (c_NetWires_takeNumber l k (xa_take x n j_3) _) m_NetWires_takeNumber ml_NetWires_234 (ga_recv (ga_subL hw) (q0 := 0) rfl rfl) rfl rfl ⟨Nat.le_of_ble_eq_true rfl, Nat.le_of_ble_eq_true rfl⟩ rfl hl.1 rfl (Nat.le_of_ble_eq_true rfl) d_NetWires_setTimer_26 ⟨Nat.le_of_ble_eq_true rfl, Nat.le_of_ble_eq_true rfl⟩ (fun r u H locs hp hw => ?_)
    obtain ⟨rfl, rfl⟩ := hp
    refine xg_NO_BYTES hC (ga_subL hw) fl_NetWires_66 d_NetWires_setTimer_29 ?_
    refine ga_IvR (As := [.int kd, .int ep, .int ((-1)), .int (((xa_take x n j_3).1 0) + ti), .int ((xa_take x n j_3).1 1), .ref (xa_a k 9)]) (rest := [.ref a, .ref (xa_a k 3)]) hC hw (c_Event_init l k a (xa_a k 9) kd ep ((-1)) (((xa_take x n j_3).1 0) + ti) ((xa_take x n j_3).1 1) _) m_Event_init ml_NetWires_238 rfl rfl ⟨Nat.le_of_ble_eq_true rfl, Nat.le_of_ble_eq_true rfl⟩ rfl hl.1 rfl (Nat.le_of_ble_eq_true rfl) d_NetWires_setTimer_32 ⟨Nat.le_of_ble_eq_true rfl, Nat.le_of_ble_eq_true rfl⟩ (fun u H locs _ hw => ?_)
    obtain ⟨hfr, hw⟩ := xa_absorb hw
    have hE : xa_isE ((xa_P (xa_sI (xa_take x n j_3) 1 (((xa_take x n j_3).1 1) + 1))).1 ++ [a], va_up (xa_P (xa_sI (xa_take x n j_3) 1 (((xa_take x n j_3).1 1) + 1))).2 a (xa_ev (xa_five kd ep ((-1)) (((xa_take x n j_3).1 0) + ti) ((xa_take x n j_3).1 1)) (xa_a k 9))) a (xa_five kd ep ((-1)) (((xa_take x n j_3).1 0) + ti) ((xa_take x n j_3).1 1)) (xa_a k 9) := ⟨List.mem_append_right _ List.mem_cons_self, va_up_self _ _ _⟩
    have hnn : n - 1 < 232 := by have := h0.2.1; omega
    have h0 := h0.take hj_3
    obtain ⟨hR1, hat1⟩ := xa_R0.up (x := xa_sI (xa_take x n j_3) 1 ((xa_take x n j_3).1 1 + 1)) (a := a) (e := xa_ev (xa_five kd ep (-1) ((xa_take x n j_3).1 0 + ti) ((xa_take x n j_3).1 1)) (xa_a k 9)) (show xa_R0 _ (n - 1) from h0) hfr
    refine ga_Vv (As := [.ref a]) (rest := []) hC hw (c_Agenda_insert l k (xa_sP (xa_sI (xa_take x n j_3) 1 (((xa_take x n j_3).1 1) + 1)) (((xa_P (xa_sI (xa_take x n j_3) 1 (((xa_take x n j_3).1 1) + 1))).1 ++ [a], va_up (xa_P (xa_sI (xa_take x n j_3) 1 (((xa_take x n j_3).1 1) + 1))).2 a (xa_ev (xa_five kd ep ((-1)) (((xa_take x n j_3).1 0) + ti) ((xa_take x n j_3).1 1)) (xa_a k 9))))) a (n - 1) (xa_five kd ep (-1) ((xa_take x n j_3).1 0 + ti) ((xa_take x n j_3).1 1)) (xa_a k 9) hR1 hE hnn _) m_Agenda_insert ml_NetWires_241 (ga_recv hw (q0 := 3) rfl rfl) rfl rfl ⟨Nat.le_of_ble_eq_true rfl, Nat.le_of_ble_eq_true rfl⟩ rfl hl.1 rfl (Nat.le_of_ble_eq_true rfl) d_NetWires_setTimer_35 ⟨Nat.le_of_ble_eq_true rfl, Nat.le_of_ble_eq_true rfl⟩ (fun u H locs hp hw => ?_)
    obtain ⟨q, hq, hi, hj, rfl⟩ := hp
    refine lv_iload hx hb d_NetWires_setTimer_38 (lv_at hl 0 rfl) ?_
    exact ga_zret (u := xa_msg (xa_sI (xa_sE (xa_sP (xa_sI (xa_take x n j_3) 1 (((xa_take x n j_3).1 1) + 1)) (((xa_P (xa_sI (xa_take x n j_3) 1 (((xa_take x n j_3).1 1) + 1))).1 ++ [a], va_up (xa_P (xa_sI (xa_take x n j_3) 1 (((xa_take x n j_3).1 1) + 1))).2 a (xa_ev (xa_five kd ep ((-1)) (((xa_take x n j_3).1 0) + ti) ((xa_take x n j_3).1 1)) (xa_a k 9))))) (xa_ins (xa_E (xa_sP (xa_sI (xa_take x n j_3) 1 (((xa_take x n j_3).1 1) + 1)) (((xa_P (xa_sI (xa_take x n j_3) 1 (((xa_take x n j_3).1 1) + 1))).1 ++ [a], va_up (xa_P (xa_sI (xa_take x n j_3) 1 (((xa_take x n j_3).1 1) + 1))).2 a (xa_ev (xa_five kd ep ((-1)) (((xa_take x n j_3).1 0) + ti) ((xa_take x n j_3).1 1)) (xa_a k 9)))))) (n - 1) q a)) 7 (nI (n - 1 + 1))) ((xa_five kd ep (-1) ((xa_take x n j_3).1 0 + ti) ((xa_take x n j_3).1 1)) 0) 1) hC hr hlocks hw (Or.inr rfl) (Or.inr ⟨j_3, hj_3, rfl, h_3, g_3, ⟨a, q, hfr, hq, fun j h1 h2 => by have h3 := hi j h1 h2; rw [hat1 j h2] at h3; exact h3, fun j h1 => by have h3 := hj j h1; rw [hat1 j (by omega)] at h3; exact h3, rfl⟩⟩) (Nat.le_of_ble_eq_true rfl) (Nat.le_of_ble_eq_true rfl) d_NetWires_setTimer_40
end
section
/-! new arrays, copies of arrays; Arrays.copyOf of the tape -/
theorem ga_arrB : Cond.arrayClass .byte ∈ ga_T := ga_tb (i := 39) (by decide +kernel) rfl
theorem ga_arrI : Cond.arrayClass .int ∈ ga_T := ga_tb (i := 79) (by decide +kernel) rfl
theorem ga_arrZ : Cond.arrayClass .boolean ∈ ga_T := ga_tb (i := 639) (by decide +kernel) rfl
theorem ga_arrL : Cond.arrayClass .long ∈ ga_T := ga_tb (i := 780) (by decide +kernel) rfl
section GN
variable {p : Program} {l : Launch} {e : Env} {R : Room} {s : State} {m : MethodId} {args : Array Value} {below : List Frame} {meth : Method} {c : Code} {H : Heap} {locs : List Loc} {cells slots : Nat} {Q : State → Prop}
variable {cc : ByteArray} {pc nL idx : Nat} {ls : Array Slot} {rest : List Value} {K : ga_K} {ws : va_W} {A : Nat → Prop} {own : String} {cA : ClassId} {n : Int32} {N' t0 : Nat}
theorem ga_newB (hC : CallFix p m c cc nL s args ga_T own) (hw : ga_w K ws A s H locs) (ht : K.2.1[t0]? = some (cA, .byte)) (hn : ¬ n < 0) (hN : n.toNatClampNeg = N') (hb9 : N' ≤ 100000) (hcells : cells + 1 ≤ R.cells) (hslots : slots + N' ≤ R.slots) (hdg : decode cc pc = .ok (.newarray .byte, 2))
    (kk : ∀ (q : Nat) (H1 : Heap), ga_w K (ws ++ [(q, .inl (cA, N', .inl (fun _ => 0)))]) A s H1 locs → W p l e R s m args below meth c H1 locs (cells + 1) (slots + N') Q (F0 m (pc + 2) ls (.ref q :: rest))) : W p l e R s m args below meth c H locs cells slots Q (F0 m pc ls (.int n :: rest)) := by
  refine va_newa (atype := .byte) (a0 := (N', .inl (fun _ => 0))) (ty := .byte) hC.1 hC.2.1 (hC.2.2.2.2 _ ga_arrB) rfl hw.2.2.2.1 hw.1 hw.2.1 hw.2.2.1 hw.2.2.2.2.1 (fun _ => rfl) hn hN (by show N' * 1 ≤ _; omega) hcells hslots hdg (fun q c1 H1 h0 h1 h2 h3 => ?_)
  have e1 : s.vm.findClass ("[" ++ FieldType.byte.toString) = some c1 := (h0.2 K.2.1.length (c1, .byte) (by rw [List.getElem?_append_right (Nat.le_refl _), Nat.sub_self]; rfl)).2
  have e2 : s.vm.findClass ("[" ++ FieldType.byte.toString) = some cA := (hw.2.2.2.1.2 t0 _ ht).2
  cases e1.symm.trans e2
  exact kk q H1 ⟨h1, h2, h3, hw.2.2.2⟩
theorem ga_newI (hC : CallFix p m c cc nL s args ga_T own) (hw : ga_w K ws A s H locs) (ht : K.2.1[t0]? = some (cA, .int)) (hn : ¬ n < 0) (hN : n.toNatClampNeg = N') (hb9 : N' ≤ 100000) (hcells : cells + 1 ≤ R.cells) (hslots : slots + N' ≤ R.slots) (hdg : decode cc pc = .ok (.newarray .int, 2))
    (kk : ∀ (q : Nat) (H1 : Heap), ga_w K (ws ++ [(q, .inl (cA, N', .inl (fun _ => 0)))]) A s H1 locs → W p l e R s m args below meth c H1 locs (cells + 1) (slots + N') Q (F0 m (pc + 2) ls (.ref q :: rest))) : W p l e R s m args below meth c H locs cells slots Q (F0 m pc ls (.int n :: rest)) := by
  refine va_newa (atype := .int) (a0 := (N', .inl (fun _ => 0))) (ty := .int) hC.1 hC.2.1 (hC.2.2.2.2 _ ga_arrI) rfl hw.2.2.2.1 hw.1 hw.2.1 hw.2.2.1 hw.2.2.2.2.1 (fun _ => rfl) hn hN (by show N' * 4 ≤ _; omega) hcells hslots hdg (fun q c1 H1 h0 h1 h2 h3 => ?_)
  have e1 : s.vm.findClass ("[" ++ FieldType.int.toString) = some c1 := (h0.2 K.2.1.length (c1, .int) (by rw [List.getElem?_append_right (Nat.le_refl _), Nat.sub_self]; rfl)).2
  have e2 : s.vm.findClass ("[" ++ FieldType.int.toString) = some cA := (hw.2.2.2.1.2 t0 _ ht).2
  cases e1.symm.trans e2
  exact kk q H1 ⟨h1, h2, h3, hw.2.2.2⟩
theorem ga_newZ (hC : CallFix p m c cc nL s args ga_T own) (hw : ga_w K ws A s H locs) (ht : K.2.1[t0]? = some (cA, .boolean)) (hn : ¬ n < 0) (hN : n.toNatClampNeg = N') (hb9 : N' ≤ 100000) (hcells : cells + 1 ≤ R.cells) (hslots : slots + N' ≤ R.slots) (hdg : decode cc pc = .ok (.newarray .boolean, 2))
    (kk : ∀ (q : Nat) (H1 : Heap), ga_w K (ws ++ [(q, .inl (cA, N', .inl (fun _ => 0)))]) A s H1 locs → W p l e R s m args below meth c H1 locs (cells + 1) (slots + N') Q (F0 m (pc + 2) ls (.ref q :: rest))) : W p l e R s m args below meth c H locs cells slots Q (F0 m pc ls (.int n :: rest)) := by
  refine va_newa (atype := .boolean) (a0 := (N', .inl (fun _ => 0))) (ty := .boolean) hC.1 hC.2.1 (hC.2.2.2.2 _ ga_arrZ) rfl hw.2.2.2.1 hw.1 hw.2.1 hw.2.2.1 hw.2.2.2.2.1 (fun _ => rfl) hn hN (by show N' * 1 ≤ _; omega) hcells hslots hdg (fun q c1 H1 h0 h1 h2 h3 => ?_)
  have e1 : s.vm.findClass ("[" ++ FieldType.boolean.toString) = some c1 := (h0.2 K.2.1.length (c1, .boolean) (by rw [List.getElem?_append_right (Nat.le_refl _), Nat.sub_self]; rfl)).2
  have e2 : s.vm.findClass ("[" ++ FieldType.boolean.toString) = some cA := (hw.2.2.2.1.2 t0 _ ht).2
  cases e1.symm.trans e2
  exact kk q H1 ⟨h1, h2, h3, hw.2.2.2⟩
theorem ga_newL (hC : CallFix p m c cc nL s args ga_T own) (hw : ga_w K ws A s H locs) (ht : K.2.1[t0]? = some (cA, .long)) (hn : ¬ n < 0) (hN : n.toNatClampNeg = N') (hb9 : N' ≤ 100000) (hcells : cells + 1 ≤ R.cells) (hslots : slots + N' ≤ R.slots) (hdg : decode cc pc = .ok (.newarray .long, 2))
    (kk : ∀ (q : Nat) (H1 : Heap), ga_w K (ws ++ [(q, .inl (cA, N', .inr (.inl (fun _ => 0))))]) A s H1 locs → W p l e R s m args below meth c H1 locs (cells + 1) (slots + N') Q (F0 m (pc + 2) ls (.ref q :: rest))) : W p l e R s m args below meth c H locs cells slots Q (F0 m pc ls (.int n :: rest)) := by
  refine va_newa (atype := .long) (a0 := (N', .inr (.inl (fun _ => 0)))) (ty := .long) hC.1 hC.2.1 (hC.2.2.2.2 _ ga_arrL) rfl hw.2.2.2.1 hw.1 hw.2.1 hw.2.2.1 hw.2.2.2.2.1 (fun _ => rfl) hn hN (by show N' * 8 ≤ _; omega) hcells hslots hdg (fun q c1 H1 h0 h1 h2 h3 => ?_)
  have e1 : s.vm.findClass ("[" ++ FieldType.long.toString) = some c1 := (h0.2 K.2.1.length (c1, .long) (by rw [List.getElem?_append_right (Nat.le_refl _), Nat.sub_self]; rfl)).2
  have e2 : s.vm.findClass ("[" ++ FieldType.long.toString) = some cA := (hw.2.2.2.1.2 t0 _ ht).2
  cases e1.symm.trans e2
  exact kk q H1 ⟨h1, h2, h3, hw.2.2.2⟩
end GN
theorem d_J_copyOf_0 : decode b_J_copyOf 0 = .ok (.iload_n 1, 1) := by decide +kernel
theorem d_J_copyOf_1 : decode b_J_copyOf 1 = .ok (.aload_n 0, 1) := by decide +kernel
theorem d_J_copyOf_2 : decode b_J_copyOf 2 = .ok (.arraylength, 1) := by decide +kernel
theorem d_J_copyOf_3 : decode b_J_copyOf 3 = .ok (.if_icmp .ne 11, 3) := by decide +kernel
theorem d_J_copyOf_6 : decode b_J_copyOf 6 = .ok (.aload_n 0, 1) := by decide +kernel
theorem d_J_copyOf_7 : decode b_J_copyOf 7 = .ok (.invokevirtual 310, 3) := by decide +kernel
theorem d_J_copyOf_10 : decode b_J_copyOf 10 = .ok (.checkcast 311, 3) := by decide +kernel
theorem d_J_copyOf_13 : decode b_J_copyOf 13 = .ok (.areturn, 1) := by decide +kernel
theorem d_J_copyOf_14 : decode b_J_copyOf 14 = .ok (.iload_n 1, 1) := by decide +kernel
theorem d_J_copyOf_15 : decode b_J_copyOf 15 = .ok (.newarray .byte, 2) := by decide +kernel
theorem d_J_copyOf_17 : decode b_J_copyOf 17 = .ok (.astore_n 2, 1) := by decide +kernel
theorem d_J_copyOf_18 : decode b_J_copyOf 18 = .ok (.aload_n 0, 1) := by decide +kernel
theorem d_J_copyOf_19 : decode b_J_copyOf 19 = .ok (.iconst 0, 1) := by decide +kernel
theorem d_J_copyOf_20 : decode b_J_copyOf 20 = .ok (.aload_n 2, 1) := by decide +kernel
theorem d_J_copyOf_21 : decode b_J_copyOf 21 = .ok (.iconst 0, 1) := by decide +kernel
theorem d_J_copyOf_22 : decode b_J_copyOf 22 = .ok (.aload_n 0, 1) := by decide +kernel
theorem d_J_copyOf_23 : decode b_J_copyOf 23 = .ok (.arraylength, 1) := by decide +kernel
theorem d_J_copyOf_24 : decode b_J_copyOf 24 = .ok (.iload_n 1, 1) := by decide +kernel
theorem d_J_copyOf_25 : decode b_J_copyOf 25 = .ok (.invokestatic 304, 3) := by decide +kernel
theorem d_J_copyOf_28 : decode b_J_copyOf 28 = .ok (.invokestatic 150, 3) := by decide +kernel
theorem d_J_copyOf_31 : decode b_J_copyOf 31 = .ok (.aload_n 2, 1) := by decide +kernel
theorem d_J_copyOf_32 : decode b_J_copyOf 32 = .ok (.areturn, 1) := by decide +kernel
theorem jw_clone : Cond.methodLink "java/util/Arrays" 310 ⟨"[B", "clone", "()Ljava/lang/Object;"⟩ ∈ ga_T := ga_tb (i := 313) (by decide +kernel) rfl
theorem jw_same : Cond.sameMethod "[B" "java/lang/Object" "clone" "()Ljava/lang/Object;" ∈ ga_T := ga_tb (i := 314) (by decide +kernel) rfl
theorem jw_nat : Cond.native ⟨"java/lang/Object", "clone", "()Ljava/lang/Object;"⟩ ∈ ga_T := ga_tb (i := 315) (by decide +kernel) rfl
theorem jw_inst : Cond.instanceMethod ⟨"java/lang/Object", "clone", "()Ljava/lang/Object;"⟩ ∈ ga_T := ga_tb (i := 316) (by decide +kernel) rfl
theorem jw_sel : Cond.selects "[B" ⟨"[B", "clone", "()Ljava/lang/Object;"⟩ ⟨"java/lang/Object", "clone", "()Ljava/lang/Object;"⟩ ∈ ga_T := ga_tb (i := 317) (by decide +kernel) rfl
theorem jw_cl : Cond.classLink "java/util/Arrays" 311 "[B" ∈ ga_T := ga_tb (i := 319) (by decide +kernel) rfl
theorem jw_min : Cond.methodLink "java/util/Arrays" 304 Lib.Math.min.name ∈ ga_T := ga_tb (i := 320) (by decide +kernel) rfl
theorem jw_minS : Cond.static Lib.Math.min.name ∈ ga_T := ga_tb (i := 321) (by decide +kernel) rfl
theorem jw_minC : Cond.code Lib.Math.min.name Lib.Math.min.code 2 (some .int) ∈ ga_T := ga_tb (i := 322) (by decide +kernel) rfl
theorem jw_ac : Cond.methodLink "java/util/Arrays" 150 arraycopyName ∈ ga_T := ga_tb (i := 323) (by decide +kernel) rfl
theorem jw_acS : Cond.static arraycopyName ∈ ga_T := ga_tb (i := 324) (by decide +kernel) rfl
theorem jw_acN : Cond.native arraycopyName ∈ ga_T := ga_tb (i := 325) (by decide +kernel) rfl
theorem jw_iM : Cond.initialized "java/lang/Math" ∈ ga_T := ga_tb (i := 13) (by decide +kernel) rfl
theorem jw_iS : Cond.initialized "java/lang/System" ∈ ga_T := ga_tb (i := 14) (by decide +kernel) rfl
theorem ga_setEnd {w : va_W} {b c : Nat × va_E} : (w ++ [b]).set w.length c = w ++ [c] := by simp
theorem ga_getEnd {w : va_W} {b : Nat × va_E} : (w ++ [b])[w.length]? = some b := by simp
set_option maxHeartbeats 4000000 in
set_option maxRecDepth 100000 in
/-- Arrays.copyOf of the tape's first t bytes: a new row of them in the pool -/
theorem c_J_copyOf (l : Launch) (k : xa_k) (x : XS) (t : Nat) (ht0 : 0 < t) (ht : t ≤ 2048) (hfit : ∀ j, j < 2048 → fits .byte (.int (xa_T x j)) = true) (sz : Nat) : Met l y_J_copyOf (Cond.code y_J_copyOf b_J_copyOf 3 (some (.array .byte)) :: ga_T) ({ frames := 1, cells := 1, slots := 2048, locals := 40 }) (va_Pc [.ref (xa_a k 2), .int (nI t)] (ga_pre (xa_K k) (xa_W k x) sz)) (va_Qq (fun (r : Option Nat) (u : XS) => ∃ a f, a ∉ (xa_P x).1 ∧ r = some a ∧ (∀ j, j < t → f j = xa_T x j) ∧ u = xa_sP x ((xa_P x).1 ++ [a], va_up (xa_P x).2 a (.inl (k.2.1 0, t, .inl f)))) (ga_post (xa_K k) (xa_W k x) sz (xa_W k)) (va_A (xa_W k x) sz)) 1 2048 (va_A (xa_W k x) sz) := by
  refine ga_Met (by decide) (Nat.le_of_ble_eq_true rfl) ?_
  intro p e s m below meth c hC hr hlocks _ hw ls hl
  have hx := hC.1
  have hb := hC.2.1
  have hl : lv_has ls 3 [(0, .ref (xa_a k 2)), (1, .int (nI t))] := hl
  have hnB : s.vm.findClass "[B" = some (k.2.1 0) := (hw.2.2.2.1.2 0 (k.2.1 0, .byte) rfl).2
  refine lv_iload_n hx hb d_J_copyOf_0 rfl (lv_at hl 1 rfl) ?_
  refine lv_aload_n hx hb d_J_copyOf_1 rfl (lv_at hl 0 rfl) ?_
  refine ga_alen (w := nI 2048) hC hw 2 0 rfl rfl rfl d_J_copyOf_2 ?_
  refine lv_icmp_ne (tgt := 14) hx hb d_J_copyOf_3 (by decide) (fun c_3 => ?_) (fun c_3 => ?_)
  · have hlt : t < 2048 := by
      rcases Nat.lt_or_ge t 2048 with h | h
      · exact h
      · exact absurd (by rw [Nat.le_antisymm ht h]) c_3
    refine lv_iload_n hx hb d_J_copyOf_14 rfl (lv_at hl 1 rfl) ?_
    refine ga_newB (n := nI t) (N' := t) (t0 := 0) (cA := k.2.1 0) hC hw rfl (nI_pos (by omega)) (nI_clamp (by omega)) (by omega) (Nat.le_of_ble_eq_true rfl) (by show 0 + t ≤ 2048; omega) d_J_copyOf_15 (fun a H hw => ?_)
    refine lv_astore_n (lv' := [(2, .ref a), (0, .ref (xa_a k 2)), (1, .int (nI t))]) hx hb d_J_copyOf_17 rfl hl (by decide) rfl (fun ls hl => ?_)
    refine lv_aload_n hx hb d_J_copyOf_18 rfl (lv_at hl 1 rfl) ?_
    refine lv_iconst (v := 0) hx hb d_J_copyOf_19 (by decide) ?_
    refine lv_aload_n hx hb d_J_copyOf_20 rfl (lv_at hl 0 rfl) ?_
    refine lv_iconst (v := 0) hx hb d_J_copyOf_21 (by decide) ?_
    refine lv_aload_n hx hb d_J_copyOf_22 rfl (lv_at hl 1 rfl) ?_
    refine ga_alen (w := nI 2048) hC hw 2 0 rfl rfl rfl d_J_copyOf_23 ?_
    refine lv_iload_n hx hb d_J_copyOf_24 rfl (lv_at hl 2 rfl) ?_
    refine va_mmin hx hb (by rw [hC.2.2.1]; exact hl.1.symm) hC.2.2.2.1 (hC.2.2.2.2 _ jw_min) (hC.2.2.2.2 _ jw_minS) (hC.2.2.2.2 _ jw_iM) (hC.2.2.2.2 _ jw_minC) (Nat.le_of_ble_eq_true rfl) (Nat.le_of_ble_eq_true rfl) (Nat.le_of_ble_eq_true rfl) (by show 0 + t ≤ 2048; omega) d_J_copyOf_25 ?_
    refine ga_asi (v := nI t) (if_pos (nI_lt hlt (by decide))) ?_
    refine va_copyi hx hb (by rw [hC.2.2.1]; exact hl.1.symm) hC.2.2.2.1 (hC.2.2.2.2 _ jw_ac) (hC.2.2.2.2 _ jw_acN) (hC.2.2.2.2 _ jw_acS) (hC.2.2.2.2 _ jw_iS) hw.2.2.2.1 hw.1 hw.2.1 hw.2.2.1 2 (xa_W k x).length 0 0 (ty := .byte) (f := xa_T x) (g := fun _ => 0) (n0 := 2048) (n1 := t) (c0 := k.2.1 0) (c1 := k.2.1 0) rfl ga_getEnd rfl rfl rfl (by decide) (by decide) (nI_pos (by omega)) (by rw [nI_clamp (by omega)]; show 0 + t ≤ 2048; omega) (by rw [nI_clamp (by omega)]; show 0 + t ≤ t; omega) (fun i hi => ?_) (Nat.le_of_ble_eq_true rfl) (Nat.le_of_ble_eq_true rfl) d_J_copyOf_28 (fun H locs hP hD hS => ?_)
    · rw [nI_clamp (by omega)] at hi
      exact hfit _ (by show 0 + i < 2048; omega)
    rw [ga_setEnd] at hP hD
    have hw : ga_w (xa_K k) (xa_W k x ++ [(a, .inl (k.2.1 0, t, .inl (va_cpy (xa_T x) (fun _ => 0) (0 : Int32).toNatClampNeg (0 : Int32).toNatClampNeg (nI t).toNatClampNeg)))]) (va_A (xa_W k x) sz) s H locs := ⟨hP, hD, hS, hw.2.2.2⟩
    obtain ⟨hfr, hw⟩ := xa_absorb hw
    refine lv_aload_n hx hb d_J_copyOf_31 rfl (lv_at hl 0 rfl) ?_
    refine ga_qret (v := some a) (u := xa_sP x ((xa_P x).1 ++ [a], va_up (xa_P x).2 a (.inl (k.2.1 0, t, .inl (va_cpy (xa_T x) (fun _ => 0) (0 : Int32).toNatClampNeg (0 : Int32).toNatClampNeg (nI t).toNatClampNeg))))) hC hr (Or.inr ⟨_, rfl⟩) hlocks hw ⟨a, _, hfr, rfl, fun j hj => ?_, rfl⟩ (Nat.le_of_ble_eq_true rfl) (by show 0 + t ≤ 2048; omega) d_J_copyOf_32
    rw [nI_clamp (by omega)]
    exact sb_cpy0 hj
  · have e2 : t = 2048 := (nI_eq (by omega) (by decide)).mp c_3
    subst e2
    refine lv_aload_n hx hb d_J_copyOf_6 rfl (lv_at hl 0 rfl) ?_
    refine va_clone hx hb (by rw [hC.2.2.1]; exact hl.1.symm) hC.2.2.2.1 (hC.2.2.2.2 _ jw_clone) (hC.2.2.2.2 _ jw_same) (hC.2.2.2.2 _ jw_nat) (hC.2.2.2.2 _ jw_inst) (hC.2.2.2.2 _ jw_sel) (hw.2.2.2.2.2.1.2.2.2.2.1 _ (by decide +kernel)) hw.2.2.2.1 hw.1 hw.2.1 hw.2.2.1 hw.2.2.2.2.1 2 0 (cA := k.2.1 0) (x := (2048, .inl (xa_T x))) (ty := .byte) rfl rfl hnB (fun i v hv => ?_) (Nat.le_of_ble_eq_true rfl) (Nat.le_of_ble_eq_true rfl) (Nat.le_of_ble_eq_true rfl) (Nat.le_of_ble_eq_true rfl) d_J_copyOf_7 (fun a H _ hP hD hS => ?_)
    · have hi : i < 2048 := by
        have h9 := (Array.getElem?_eq_some_iff.mp hv).1
        rw [vp_cell_i, arrV_size] at h9
        exact h9
      rw [vp_cell_i, arrV_read _ _ hi] at hv
      cases hv
      exact hfit i hi
    have hw : ga_w (xa_K k) (xa_W k x ++ [(a, .inl (k.2.1 0, 2048, .inl (xa_T x)))]) (va_A (xa_W k x) sz) s H [] := ⟨hP, hD, hS, hw.2.2.2⟩
    refine va_castA hx hb hC.2.2.2.1 (hC.2.2.2.2 _ jw_cl) hw.1 (xa_W k x).length ga_getEnd hnB d_J_copyOf_10 ?_
    obtain ⟨hfr, hw⟩ := xa_absorb hw
    exact ga_qret (v := some a) (u := xa_sP x ((xa_P x).1 ++ [a], va_up (xa_P x).2 a (.inl (k.2.1 0, 2048, .inl (xa_T x))))) hC hr (Or.inr ⟨_, rfl⟩) hlocks hw ⟨a, _, hfr, rfl, fun j hj => rfl, rfl⟩ (Nat.le_of_ble_eq_true rfl) (Nat.le_of_ble_eq_true rfl) d_J_copyOf_13
end
section
set_option maxHeartbeats 4000000 in
set_option maxRecDepth 100000 in
theorem c_Tape_takeAll (l : Launch) (k : xa_k) (x : XS) (t : Nat) (ht : x.1 6 = nI t) (ht2 : t ≤ 2048) (hfit : ∀ j, j < 2048 → fits .byte (.int (xa_T x j)) = true) (sz : Nat) : Met l y_Tape_takeAll (Cond.code y_Tape_takeAll b_Tape_takeAll 2 (some (.array .byte)) :: ga_T) ({ frames := 2, cells := 1, slots := 2048, locals := 62 }) (va_Pc [.ref (xa_a k 1)] (ga_pre (xa_K k) (xa_W k x) sz)) (va_Qq (fun (r : Option Nat) (u : XS) => ∃ b f P2, r = some b ∧ xa_ext (xa_P x) P2 ∧ xa_isB k P2 b t f ∧ (∀ j, j < t → f j = xa_T x j) ∧ u = xa_sI (xa_sP x P2) 6 0) (ga_post (xa_K k) (xa_W k x) sz (xa_W k)) (va_A (xa_W k x) sz)) 1 2048 (va_A (xa_W k x) sz) := by
  refine ga_Met (by decide) (Nat.le_of_ble_eq_true rfl) ?_
  intro p e s m below meth c hC hr hlocks _ hw ls hl
  have hx := hC.1
  have hb := hC.2.1
  have hl : lv_has ls 2 [(0, .ref (xa_a k 1))] := hl
  refine lv_aload_n hx hb d_Tape_takeAll_0 rfl (lv_at hl 0 rfl) ?_
  refine xg_Tape_length (v := x.1 6) hC hw fl_Tape_15 d_Tape_takeAll_1 rfl ?_
  refine ga_asi (v := nI t) (ht) ?_
  refine lv_if_gt (tgt := 11) hx hb d_Tape_takeAll_4 (by decide) (fun c_4 => ?_) (fun c_4 => ?_)
  · refine lv_aload_n hx hb d_Tape_takeAll_11 rfl (lv_at hl 0 rfl) ?_
    refine xg_Tape_bytes hC hw fl_Tape_9 d_Tape_takeAll_12 ?_
    refine lv_aload_n hx hb d_Tape_takeAll_15 rfl (lv_at hl 0 rfl) ?_
    refine xg_Tape_length (v := x.1 6) hC hw fl_Tape_15 d_Tape_takeAll_16 rfl ?_
    refine ga_asi (v := nI t) (ht) ?_
    refine ga_Sq (As := [.ref (xa_a k 2), .int (nI t)]) (rest := []) hC hw (c_J_copyOf l k x t (xa_pos c_4) ht2 hfit _) m_J_copyOf ml_Tape_26 rfl rfl ⟨Nat.le_of_ble_eq_true rfl, Nat.le_of_ble_eq_true rfl⟩ rfl hl.1 rfl (Nat.le_of_ble_eq_true rfl) d_Tape_takeAll_19 ⟨Nat.le_of_ble_eq_true rfl, Nat.le_of_ble_eq_true rfl⟩ (fun r u H locs hp hw => ?_)
    obtain ⟨a, f, hfr, rfl, hf, rfl⟩ := hp
    refine lv_astore_n (lv' := [(1, .ref a), (0, .ref (xa_a k 1))]) hx hb d_Tape_takeAll_22 rfl hl (by decide) rfl (fun ls hl => ?_)
    refine lv_aload_n hx hb d_Tape_takeAll_23 rfl (lv_at hl 1 rfl) ?_
    refine lv_iconst (v := 0) hx hb d_Tape_takeAll_24 (by decide) ?_
    refine xp_Tape_length hC hw fl_Tape_15 d_Tape_takeAll_25 (fun H locs hw => ?_)
    refine lv_aload_n hx hb d_Tape_takeAll_28 rfl (lv_at hl 0 rfl) ?_
    exact ga_qret (v := (some a)) (u := xa_sI (xa_sP x ((xa_P x).1 ++ [a], va_up (xa_P x).2 a (.inl (k.2.1 0, t, .inl f)))) 6 0) hC hr (Or.inr ⟨_, rfl⟩) hlocks hw ⟨a, f, _, rfl, xa_ext_up hfr, Or.inl ⟨List.mem_append_right _ List.mem_cons_self, va_up_self _ _ _⟩, hf, rfl⟩ (Nat.le_of_ble_eq_true rfl) (Nat.le_of_ble_eq_true rfl) d_Tape_takeAll_29
  · refine xg_NO_BYTES_N hC hw d_Tape_takeAll_7 ?_
    exact ga_qret (v := (some (xa_a k 9))) (u := x) hC hr (Or.inr ⟨_, rfl⟩) hlocks hw ⟨xa_a k 9, fun _ => 0, xa_P x, rfl, xa_ext_rf _, Or.inr ⟨rfl, xa_zero ht2 c_4⟩, fun j hj => absurd hj (by rw [xa_zero ht2 c_4]; exact Nat.not_lt_zero j), (xa_sI_id (y := x) (i := 6) (v := 0) (by rw [ht, xa_zero ht2 c_4]; rfl)).symm⟩ (Nat.le_of_ble_eq_true rfl) (Nat.le_of_ble_eq_true rfl) d_Tape_takeAll_10

set_option maxHeartbeats 4000000 in
set_option maxRecDepth 100000 in
theorem c_History_fact (l : Launch) (k : xa_k) (x : XS) (k9 wh : Int32) (w kp : Nat) (hw9 : x.1 9 = nI w) (hw2 : w < 32) (hk9 : x.1 10 = nI kp) (hk2 : kp ≤ 32) (sz : Nat) : Met l y_History_fact (Cond.code y_History_fact b_History_fact 4 (some .int) :: ga_T) ({ frames := 0, cells := 0, slots := 0, locals := 0 }) (va_Pc [.ref (xa_a k 5), .int k9, .int wh] (ga_pre (xa_K k) (xa_W k x) sz)) (va_Qi (fun (r : Int32) (u : XS) => x = u ∧ ((r = -1 ∧ (k9 < 0 ∨ nI kp ≤ k9 ∨ wh < 0 ∨ ¬ wh < 4)) ∨ (∃ i j, i < kp ∧ k9 = nI i ∧ j < 4 ∧ wh = nI j ∧ r = xa_F x ((w + 32 - i) % 32 * 4 + j)))) (ga_post (xa_K k) (xa_W k x) sz (xa_W k)) (va_A (xa_W k x) sz)) 0 0 (va_A (xa_W k x) sz) := by
  refine ga_Met (by decide) (Nat.le_of_ble_eq_true rfl) ?_
  intro p e s m below meth c hC hr hlocks _ hw ls hl
  have hx := hC.1
  have hb := hC.2.1
  have hl : lv_has ls 4 [(0, .ref (xa_a k 5)), (1, .int k9), (2, .int wh)] := hl
  refine lv_iload_n hx hb d_History_fact_0 rfl (lv_at hl 1 rfl) ?_
  refine lv_if_lt (tgt := 21) hx hb d_History_fact_1 (by decide) (fun c_1 => ?_) (fun c_1 => ?_)
  · refine lv_iconst (v := (-1)) hx hb d_History_fact_21 (by decide) ?_
    exact ga_iret (u := x) hC hr hlocks hw ⟨rfl, Or.inl ⟨rfl, Or.inl c_1⟩⟩ (Nat.le_of_ble_eq_true rfl) (Nat.le_of_ble_eq_true rfl) d_History_fact_22
  · refine lv_iload_n hx hb d_History_fact_4 rfl (lv_at hl 1 rfl) ?_
    refine lv_aload_n hx hb d_History_fact_5 rfl (lv_at hl 0 rfl) ?_
    refine xg_History_kept (v := x.1 10) hC hw fl_History_19 d_History_fact_6 rfl ?_
    refine ga_asi (v := nI kp) (hk9) ?_
    refine lv_icmp_ge (tgt := 21) hx hb d_History_fact_9 (by decide) (fun c_9 => ?_) (fun c_9 => ?_)
    · refine lv_iconst (v := (-1)) hx hb d_History_fact_21 (by decide) ?_
      exact ga_iret (u := x) hC hr hlocks hw ⟨rfl, Or.inl ⟨rfl, Or.inr (Or.inl c_9)⟩⟩ (Nat.le_of_ble_eq_true rfl) (Nat.le_of_ble_eq_true rfl) d_History_fact_22
    · refine lv_iload_n hx hb d_History_fact_12 rfl (lv_at hl 2 rfl) ?_
      refine lv_if_lt (tgt := 21) hx hb d_History_fact_13 (by decide) (fun c_13 => ?_) (fun c_13 => ?_)
      · refine lv_iconst (v := (-1)) hx hb d_History_fact_21 (by decide) ?_
        exact ga_iret (u := x) hC hr hlocks hw ⟨rfl, Or.inl ⟨rfl, Or.inr (Or.inr (Or.inl c_13))⟩⟩ (Nat.le_of_ble_eq_true rfl) (Nat.le_of_ble_eq_true rfl) d_History_fact_22
      · refine lv_iload_n hx hb d_History_fact_16 rfl (lv_at hl 2 rfl) ?_
        refine lv_iconst (v := 4) hx hb d_History_fact_17 (by decide) ?_
        refine lv_icmp_lt (tgt := 23) hx hb d_History_fact_18 (by decide) (fun c_18 => ?_) (fun c_18 => ?_)
        · obtain ⟨i, hi, ei⟩ := xa_ix2 (n := kp) (by omega) c_1 (Int32.not_le.mp c_9)
          obtain ⟨j, hj, ej⟩ := xa_ix2 (n := 4) (by omega) c_13 c_18
          refine lv_aload_n hx hb d_History_fact_23 rfl (lv_at hl 0 rfl) ?_
          refine xg_History_newest (v := x.1 9) hC hw fl_History_15 d_History_fact_24 rfl ?_
          refine ga_asi (v := nI w) (hw9) ?_
          refine lv_iload_n hx hb d_History_fact_27 rfl (lv_at hl 1 rfl) ?_
          refine lv_isub hx hb d_History_fact_28 ?_
          refine lv_bipush (v := 32) hx hb d_History_fact_29 (by decide) ?_
          refine lv_iadd hx hb d_History_fact_31 ?_
          refine ga_asi (v := nI (w + 32 - i)) (by rw [ei]; exact xa_back (by omega)) ?_
          refine lv_bipush (v := 32) hx hb d_History_fact_32 (by decide) ?_
          refine lv_irem hx hb d_History_fact_34 (by decide) ?_
          refine ga_asi (v := nI ((w + 32 - i) % 32)) (xa_rem32 (by omega)) ?_
          refine lv_istore_n (lv' := [(3, .int (nI ((w + 32 - i) % 32))), (0, .ref (xa_a k 5)), (1, .int k9), (2, .int wh)]) hx hb d_History_fact_35 rfl hl (by decide) rfl (fun ls hl => ?_)
          refine lv_aload_n hx hb d_History_fact_36 rfl (lv_at hl 1 rfl) ?_
          refine xg_History_facts hC hw fl_History_9 d_History_fact_37 ?_
          refine lv_iload_n hx hb d_History_fact_40 rfl (lv_at hl 0 rfl) ?_
          refine lv_iconst (v := 4) hx hb d_History_fact_41 (by decide) ?_
          refine lv_imul hx hb d_History_fact_42 ?_
          refine ga_asi (v := nI ((w + 32 - i) % 32 * 4)) (pk_mul _ 4) ?_
          refine lv_iload_n hx hb d_History_fact_43 rfl (lv_at hl 3 rfl) ?_
          refine lv_iadd hx hb d_History_fact_44 ?_
          refine ga_asi (v := nI ((w + 32 - i) % 32 * 4 + j)) (by rw [ej]; exact nI_add _ _) ?_
          refine xr_facts (v := (xa_F x) (nI ((w + 32 - i) % 32 * 4 + j)).toNatClampNeg) hC hw (vp_in_nI (by have := Nat.mod_lt (w + 32 - i) (show 0 < 32 by decide); omega) (by decide)) d_History_fact_45 rfl ?_
          exact ga_iret (u := x) hC hr hlocks hw ⟨rfl, Or.inr ⟨i, j, hi, ei, hj, ej, by rw [nI_clamp (by omega)]⟩⟩ (Nat.le_of_ble_eq_true rfl) (Nat.le_of_ble_eq_true rfl) d_History_fact_46
        · refine lv_iconst (v := (-1)) hx hb d_History_fact_21 (by decide) ?_
          exact ga_iret (u := x) hC hr hlocks hw ⟨rfl, Or.inl ⟨rfl, Or.inr (Or.inr (Or.inr c_18))⟩⟩ (Nat.le_of_ble_eq_true rfl) (Nat.le_of_ble_eq_true rfl) d_History_fact_22
set_option maxHeartbeats 4000000 in
set_option maxRecDepth 100000 in
theorem lp_NetWires_feed {p : Program} {l : Launch} {e : Env} {s : State} {m : MethodId} {args : Array Value} {below : List Frame} {meth : Method} {c : Code} {Q : State → Prop} {A : Nat → Prop} {k : xa_k} {x : XS} {e9 : Int64} {t n : Nat} (hC : CallFix p m c b_NetWires_feed 5 s args ga_T "NetWires") (hn : n ≤ 8) (ht : t + n ≤ 2048)
    (kx : ∀ (H : Heap) (locs : List Loc) (ls : Array Slot), ga_w (xa_K k) (xa_W k (xa_sI (xa_sT x (xa_fd (xa_T x) t e9 n)) 6 (nI (t + n)))) A s H locs → lv_has ls 5 [(4, .int (nI n)), (0, .ref (xa_a k 0)), (1, .long e9), (3, .int (nI n))] → W p l e ({ frames := 6, cells := 1, slots := 6, locals := 82 }) s m args below meth c H locs 0 0 Q (F0 m 73 ls [])) :
    ∀ (d i : Nat) (H : Heap) (locs : List Loc) (ls : Array Slot), d + i = n → ga_w (xa_K k) (xa_W k (xa_sI (xa_sT x (xa_fd (xa_T x) t e9 i)) 6 (nI (t + i)))) A s H locs → lv_has ls 5 [(4, .int (nI i)), (0, .ref (xa_a k 0)), (1, .long e9), (3, .int (nI n))] → W p l e ({ frames := 6, cells := 1, slots := 6, locals := 82 }) s m args below meth c H locs 0 0 Q (F0 m 45 ls []) := by
  have hx := hC.1
  have hb := hC.2.1
  intro d
  induction d with
  | zero =>
    intro i H locs ls hd hw hl
    have e : i = n := by omega
    subst e
    refine lv_iload hx hb d_NetWires_feed_45 (lv_at hl 0 rfl) ?_
    refine lv_iload_n hx hb d_NetWires_feed_47 rfl (lv_at hl 3 rfl) ?_
    refine lv_icmp_ge (tgt := 73) hx hb d_NetWires_feed_48 (by decide) (fun c_48 => ?_) (fun c_48 => ?_)
    · exact kx H locs ls hw hl
    · exact absurd (Int32.le_refl _) c_48
  | succ d ih =>
    intro i H locs ls hd hw hl
    have hi2 : i < n := by omega
    refine lv_iload hx hb d_NetWires_feed_45 (lv_at hl 0 rfl) ?_
    refine lv_iload_n hx hb d_NetWires_feed_47 rfl (lv_at hl 3 rfl) ?_
    refine lv_icmp_ge (tgt := 73) hx hb d_NetWires_feed_48 (by decide) (fun c_48 => ?_) (fun c_48 => ?_)
    · exact absurd c_48 (nI_ge hi2 (by omega))
    · refine lv_aload_n hx hb d_NetWires_feed_51 rfl (lv_at hl 1 rfl) ?_
      refine xg_NetWires_tape hC hw fl_NetWires_12 d_NetWires_feed_52 ?_
      refine lv_lload_n hx hb d_NetWires_feed_55 rfl (lv_at hl 2 rfl) ?_
      refine lv_bipush (v := 8) hx hb d_NetWires_feed_56 (by decide) ?_
      refine lv_iload hx hb d_NetWires_feed_58 (lv_at hl 0 rfl) ?_
      refine lv_imul hx hb d_NetWires_feed_60 ?_
      refine lv_lushr hx hb d_NetWires_feed_61 rfl ?_
      refine lv_l2i hx hb d_NetWires_feed_62 rfl ?_
      refine lv_i2b hx hb d_NetWires_feed_63 rfl ?_
      refine ga_Vv (As := [.int ((((e9.toUInt64 >>> ((8 * (nI i)).toInt64.toUInt64 &&& Int64.toUInt64 63)).toInt64).toInt32).toInt8.toInt32)]) (rest := []) hC hw (c_Tape_append l k (xa_sI (xa_sT x (xa_fd (xa_T x) t e9 i)) 6 (nI (t + i))) ((((e9.toUInt64 >>> ((8 * (nI i)).toInt64.toUInt64 &&& Int64.toUInt64 63)).toInt64).toInt32).toInt8.toInt32) (t + i) rfl (by omega) _) m_Tape_append ml_NetWires_89 (ga_recv hw (q0 := 1) rfl rfl) rfl rfl ⟨Nat.le_of_ble_eq_true rfl, Nat.le_of_ble_eq_true rfl⟩ rfl hl.1 rfl (Nat.le_of_ble_eq_true rfl) d_NetWires_feed_64 ⟨Nat.le_of_ble_eq_true rfl, Nat.le_of_ble_eq_true rfl⟩ (fun u H locs hp hw => ?_)
      subst hp
      have hw : ga_w (xa_K k) (xa_W k (xa_sI (xa_sT x (xa_fd (xa_T x) t e9 (i + 1))) 6 (nI (t + (i + 1))))) A s H locs := by rw [← xa_fd_s]; exact hw
      refine lv_iinc (v := nI (i + 1)) (lv' := [(4, .int (nI (i + 1))), (0, .ref (xa_a k 0)), (1, .long e9), (3, .int (nI n))]) hx hb d_NetWires_feed_67 hl (k := 0) rfl (nI_1 i) (by decide) rfl (fun ls hl => ?_)
      refine lv_goto (tgt := 45) hx hb d_NetWires_feed_70 (by decide) ?_
      exact ih (i + 1) H locs ls (by omega) hw hl
set_option maxHeartbeats 4000000 in
set_option maxRecDepth 100000 in
theorem c_NetWires_feed (l : Launch) (k : xa_k) (hst : l.stackTraces = false) (x : XS) (e9 : Int64) (n9 : Int32) (t : Nat) (ht : x.1 6 = nI t) (ht2 : t ≤ 2048) (sz : Nat) : vx_Met l y_NetWires_feed (Cond.code y_NetWires_feed b_NetWires_feed 5 (some .int) :: ga_T) ({ frames := 6, cells := 1, slots := 6, locals := 82 }) (va_Pc [.ref (xa_a k 0), .long e9, .int n9] (ga_pre (xa_K k) (xa_W k x) sz)) (va_Qi (fun (r : Int32) (u : XS) => ∃ n, 1 ≤ n ∧ n ≤ 8 ∧ n9 = nI n ∧ t + n ≤ 2048 ∧ r = nI (t + n) ∧ u = xa_sI (xa_sT x (xa_fd (xa_T x) t e9 n)) 6 (nI (t + n))) (ga_post (xa_K k) (xa_W k x) sz (xa_W k)) (va_A (xa_W k x) sz)) (ga_XC (xa_K k) (xa_W k x) sz (xa_W k) (fun E u => x = u ∧ ((E = ga_IAE ∧ (n9 < 1 ∨ ¬ n9 ≤ 8)) ∨ (E = ga_ISE ∧ ∃ n, 1 ≤ n ∧ n ≤ 8 ∧ n9 = nI n ∧ 2048 < t + n)))) 1 6 (va_A (xa_W k x) sz) := by
  refine ga_MetX (by decide) (Nat.le_of_ble_eq_true rfl) ?_
  intro p e s m below meth c hC hr hlocks hT hw ls hl
  have hx := hC.1
  have hb := hC.2.1
  have hl : lv_has ls 5 [(0, .ref (xa_a k 0)), (1, .long e9), (3, .int n9)] := hl
  refine lv_iload_n hx hb d_NetWires_feed_0 rfl (lv_at hl 2 rfl) ?_
  refine lv_iconst (v := 1) hx hb d_NetWires_feed_1 (by decide) ?_
  refine lv_icmp_lt (tgt := 11) hx hb d_NetWires_feed_2 (by decide) (fun c_2 => ?_) (fun c_2 => ?_)
  · exact ga_thIAE (u := x) hst hC hT hlocks hw hl.1 (is := 75) (tx := "n is not 1 .. 8") (by decide +kernel) ⟨rfl, Or.inl ⟨rfl, Or.inl c_2⟩⟩ d_NetWires_feed_11 d_NetWires_feed_14 d_NetWires_feed_15 d_NetWires_feed_17 d_NetWires_feed_20 (Nat.le_of_ble_eq_true rfl) (Nat.le_of_ble_eq_true rfl) (Nat.le_of_ble_eq_true rfl) (Nat.le_of_ble_eq_true rfl) (Nat.le_of_ble_eq_true rfl) (Nat.le_of_ble_eq_true rfl)
  · refine lv_iload_n hx hb d_NetWires_feed_5 rfl (lv_at hl 2 rfl) ?_
    refine lv_bipush (v := 8) hx hb d_NetWires_feed_6 (by decide) ?_
    refine lv_icmp_le (tgt := 21) hx hb d_NetWires_feed_8 (by decide) (fun c_8 => ?_) (fun c_8 => ?_)
    · obtain ⟨n, hn2, hn1, rfl⟩ := xa_1to8 c_2 c_8
      refine lv_aload_n hx hb d_NetWires_feed_21 rfl (lv_at hl 0 rfl) ?_
      refine xg_NetWires_tape hC hw fl_NetWires_12 d_NetWires_feed_22 ?_
      refine lv_iload_n hx hb d_NetWires_feed_25 rfl (lv_at hl 2 rfl) ?_
      refine ga_Vi (As := [.int (nI n)]) (rest := []) hC hw (c_Tape_hasRoomFor l k x (nI n) _) m_Tape_hasRoomFor ml_NetWires_80 (ga_recv hw (q0 := 1) rfl rfl) rfl rfl ⟨Nat.le_of_ble_eq_true rfl, Nat.le_of_ble_eq_true rfl⟩ rfl hl.1 rfl (Nat.le_of_ble_eq_true rfl) d_NetWires_feed_26 ⟨Nat.le_of_ble_eq_true rfl, Nat.le_of_ble_eq_true rfl⟩ (fun r u H locs hp hw => ?_)
      obtain ⟨rfl, hp⟩ := hp
      rcases hp with ⟨rfl, h_26⟩ | ⟨rfl, h_26⟩
      · refine lv_if_ne (tgt := 42) hx hb d_NetWires_feed_29 (by decide) (fun c_29 => ?_) (fun c_29 => ?_)
        · refine lv_iconst (v := 0) hx hb d_NetWires_feed_42 (by decide) ?_
          refine lv_istore (lv' := [(4, .int 0), (0, .ref (xa_a k 0)), (1, .long e9), (3, .int (nI n))]) hx hb d_NetWires_feed_43 hl (by decide) rfl (fun ls hl => ?_)
          have hlt : t + n ≤ 2048 := Nat.le_of_not_lt (fun h => h_26 ((xa_room ht ht2 (by omega)).mpr h))
          have hw : ga_w (xa_K k) (xa_W k (xa_sI (xa_sT x (xa_fd (xa_T x) t e9 0)) 6 (nI (t + 0)))) (va_A (xa_W k x) sz) s H locs := by rw [xa_fd_0, xa_sI_id (y := xa_sT x (xa_T x)) (i := 6) (v := nI (t + 0)) ht]; exact hw
          refine lp_NetWires_feed hC hn2 hlt (fun H locs ls hw hl => ?_) n 0 H locs ls (Nat.add_zero n) hw hl
          refine lv_aload_n hx hb d_NetWires_feed_73 rfl (lv_at hl 1 rfl) ?_
          refine xg_NetWires_tape hC hw fl_NetWires_12 d_NetWires_feed_74 ?_
          refine xg_Tape_length (v := (xa_sI (xa_sT x (xa_fd (xa_T x) t e9 n)) 6 (nI (t + n))).1 6) hC hw fl_NetWires_93 d_NetWires_feed_77 rfl ?_
          exact vx_ret (ga_iret (u := xa_sI (xa_sT x (xa_fd (xa_T x) t e9 n)) 6 (nI (t + n))) hC hr hlocks hw ⟨n, hn1, hn2, rfl, hlt, rfl, rfl⟩ (Nat.le_of_ble_eq_true rfl) (Nat.le_of_ble_eq_true rfl) d_NetWires_feed_80)
        · exact absurd c_29 (by decide)
      · refine lv_if_ne (tgt := 42) hx hb d_NetWires_feed_29 (by decide) (fun c_29 => ?_) (fun c_29 => ?_)
        · exact absurd c_29 (by decide)
        · exact ga_thISE (u := x) hst hC hT hlocks hw hl.1 (is := 86) (tx := "the tape is full") (by decide +kernel) ⟨rfl, Or.inr ⟨rfl, n, hn1, hn2, rfl, (xa_room ht ht2 (by omega)).mp h_26⟩⟩ d_NetWires_feed_32 d_NetWires_feed_35 d_NetWires_feed_36 d_NetWires_feed_38 d_NetWires_feed_41 (Nat.le_of_ble_eq_true rfl) (Nat.le_of_ble_eq_true rfl) (Nat.le_of_ble_eq_true rfl) (Nat.le_of_ble_eq_true rfl) (Nat.le_of_ble_eq_true rfl) (Nat.le_of_ble_eq_true rfl)
    · exact ga_thIAE (u := x) hst hC hT hlocks hw hl.1 (is := 75) (tx := "n is not 1 .. 8") (by decide +kernel) ⟨rfl, Or.inl ⟨rfl, Or.inr c_8⟩⟩ d_NetWires_feed_11 d_NetWires_feed_14 d_NetWires_feed_15 d_NetWires_feed_17 d_NetWires_feed_20 (Nat.le_of_ble_eq_true rfl) (Nat.le_of_ble_eq_true rfl) (Nat.le_of_ble_eq_true rfl) (Nat.le_of_ble_eq_true rfl) (Nat.le_of_ble_eq_true rfl) (Nat.le_of_ble_eq_true rfl)
end
section
set_option maxHeartbeats 4000000 in
set_option maxRecDepth 100000 in
theorem c_NetWires_alarm (l : Launch) (k : xa_k) (hst : l.stackTraces = false) (x : XS) (ep ti : Int32) (n : Nat) (h0 : xa_R0 x n) (hn0 : (∀ t, t < n → ¬ xa_mt x t 32 ep) → n < 232) (sz : Nat) : vx_Met l y_NetWires_alarm (Cond.code y_NetWires_alarm b_NetWires_alarm 3 (some .boolean) :: ga_T) ({ frames := 7, cells := 3, slots := 18, locals := 103 }) (va_Pc [.ref (xa_a k 0), .int ep, .int ti] (ga_pre (xa_K k) (xa_W k x) sz)) (va_Qi (fun (r : Int32) (u : XS) => (¬ ep < 0 ∧ ¬ 15 < ep) ∧ (¬ ti < 0 ∧ ¬ 100000 < ti) ∧ xa_tim k x n 32 ep ti r u) (ga_post (xa_K k) (xa_W k x) sz (xa_W k)) (va_A (xa_W k x) sz)) (ga_XC (xa_K k) (xa_W k x) sz (xa_W k) (fun E u => (E = ga_IOB ∧ x = u ∧ (ep < 0 ∨ 15 < ep)) ∨ (E = ga_IAE ∧ x = u ∧ (¬ ep < 0 ∧ ¬ 15 < ep) ∧ (ti < 0 ∨ 100000 < ti)))) 3 18 (va_A (xa_W k x) sz) := by
  refine ga_MetX (by decide) (Nat.le_of_ble_eq_true rfl) ?_
  intro p e s m below meth c hC hr hlocks hT hw ls hl
  have hx := hC.1
  have hb := hC.2.1
  have hl : lv_has ls 3 [(0, .ref (xa_a k 0)), (1, .int ep), (2, .int ti)] := hl
  refine lv_iload_n hx hb d_NetWires_alarm_0 rfl (lv_at hl 1 rfl) ?_
  refine ga_Sxv (As := [.int ep]) (rest := []) hC hw (c_NetWires_demandEndpoint l k hst x ep _) m_NetWires_demandEndpoint ml_NetWires_100 rfl rfl ⟨Nat.le_of_ble_eq_true rfl, Nat.le_of_ble_eq_true rfl⟩ rfl hl.1 rfl (Nat.le_of_ble_eq_true rfl) d_NetWires_alarm_1 ⟨Nat.le_of_ble_eq_true rfl, Nat.le_of_ble_eq_true rfl⟩ (fun E ce q9 u H locs hp hw g1 g2 g3 => ?_) (fun u H locs hp hw => ?_)
  · obtain ⟨rfl, rfl, h_1⟩ := hp
    exact ga_out hT hlocks hw (Or.inl ⟨rfl, rfl, h_1⟩) g1 g2 g3 (Nat.le_of_ble_eq_true rfl) (Nat.le_of_ble_eq_true rfl)
  · obtain ⟨rfl, h_1, g_1⟩ := hp
    refine lv_iload_n hx hb d_NetWires_alarm_4 rfl (lv_at hl 2 rfl) ?_
    refine lv_ldc (v := 100000) hx hb hC.2.2.2.1 (hC.2.2.2.2 _ kc_NetWires_120) d_NetWires_alarm_5 ?_
    refine ga_Sxv (As := [.int ti, .int 100000]) (rest := []) hC hw (c_NetWires_demandTicks l k hst x ti 100000 _) m_NetWires_demandTicks ml_NetWires_121 rfl rfl ⟨Nat.le_of_ble_eq_true rfl, Nat.le_of_ble_eq_true rfl⟩ rfl hl.1 rfl (Nat.le_of_ble_eq_true rfl) d_NetWires_alarm_7 ⟨Nat.le_of_ble_eq_true rfl, Nat.le_of_ble_eq_true rfl⟩ (fun E ce q9 u H locs hp hw g1 g2 g3 => ?_) (fun u H locs hp hw => ?_)
    · obtain ⟨rfl, rfl, h_7⟩ := hp
      exact ga_out hT hlocks hw (Or.inr ⟨rfl, rfl, ⟨h_1, g_1⟩, h_7⟩) g1 g2 g3 (Nat.le_of_ble_eq_true rfl) (Nat.le_of_ble_eq_true rfl)
    · obtain ⟨rfl, h_7, g_7⟩ := hp
      refine lv_aload_n hx hb d_NetWires_alarm_10 rfl (lv_at hl 0 rfl) ?_
      refine lv_bipush (v := 32) hx hb d_NetWires_alarm_11 (by decide) ?_
      refine lv_iload_n hx hb d_NetWires_alarm_13 rfl (lv_at hl 1 rfl) ?_
      refine lv_iload_n hx hb d_NetWires_alarm_14 rfl (lv_at hl 2 rfl) ?_
      refine ga_Vi (As := [.int 32, .int ep, .int ti]) (rest := []) hC hw (c_NetWires_setTimer l k x 32 ep ti n h0 hn0 _) m_NetWires_setTimer ml_NetWires_125 (ga_recv hw (q0 := 0) rfl rfl) rfl rfl ⟨Nat.le_of_ble_eq_true rfl, Nat.le_of_ble_eq_true rfl⟩ rfl hl.1 rfl (Nat.le_of_ble_eq_true rfl) d_NetWires_alarm_15 ⟨Nat.le_of_ble_eq_true rfl, Nat.le_of_ble_eq_true rfl⟩ (fun r u H locs hp hw => ?_)
      have hp_15 := hp
      exact vx_ret (ga_zret (u := u) hC hr hlocks hw (xa_tim_b hp_15) ⟨⟨h_1, g_1⟩, ⟨h_7, g_7⟩, hp_15⟩ (Nat.le_of_ble_eq_true rfl) (Nat.le_of_ble_eq_true rfl) d_NetWires_alarm_18)

set_option maxHeartbeats 4000000 in
set_option maxRecDepth 100000 in
theorem c_NetWires_sync (l : Launch) (k : xa_k) (hst : l.stackTraces = false) (x : XS) (ep ti : Int32) (n : Nat) (h0 : xa_R0 x n) (hn0 : (∀ t, t < n → ¬ xa_mt x t 48 ep) → n < 232) (sz : Nat) : vx_Met l y_NetWires_sync (Cond.code y_NetWires_sync b_NetWires_sync 3 (some .boolean) :: ga_T) ({ frames := 7, cells := 3, slots := 18, locals := 103 }) (va_Pc [.ref (xa_a k 0), .int ep, .int ti] (ga_pre (xa_K k) (xa_W k x) sz)) (va_Qi (fun (r : Int32) (u : XS) => (¬ ep < 0 ∧ ¬ 15 < ep) ∧ (¬ ti < 0 ∧ ¬ 100000 < ti) ∧ xa_tim k x n 48 ep ti r u) (ga_post (xa_K k) (xa_W k x) sz (xa_W k)) (va_A (xa_W k x) sz)) (ga_XC (xa_K k) (xa_W k x) sz (xa_W k) (fun E u => (E = ga_IOB ∧ x = u ∧ (ep < 0 ∨ 15 < ep)) ∨ (E = ga_IAE ∧ x = u ∧ (¬ ep < 0 ∧ ¬ 15 < ep) ∧ (ti < 0 ∨ 100000 < ti)))) 3 18 (va_A (xa_W k x) sz) := by
  refine ga_MetX (by decide) (Nat.le_of_ble_eq_true rfl) ?_
  intro p e s m below meth c hC hr hlocks hT hw ls hl
  have hx := hC.1
  have hb := hC.2.1
  have hl : lv_has ls 3 [(0, .ref (xa_a k 0)), (1, .int ep), (2, .int ti)] := hl
  refine lv_iload_n hx hb d_NetWires_sync_0 rfl (lv_at hl 1 rfl) ?_
  refine ga_Sxv (As := [.int ep]) (rest := []) hC hw (c_NetWires_demandEndpoint l k hst x ep _) m_NetWires_demandEndpoint ml_NetWires_100 rfl rfl ⟨Nat.le_of_ble_eq_true rfl, Nat.le_of_ble_eq_true rfl⟩ rfl hl.1 rfl (Nat.le_of_ble_eq_true rfl) d_NetWires_sync_1 ⟨Nat.le_of_ble_eq_true rfl, Nat.le_of_ble_eq_true rfl⟩ (fun E ce q9 u H locs hp hw g1 g2 g3 => ?_) (fun u H locs hp hw => ?_)
  · obtain ⟨rfl, rfl, h_1⟩ := hp
    exact ga_out hT hlocks hw (Or.inl ⟨rfl, rfl, h_1⟩) g1 g2 g3 (Nat.le_of_ble_eq_true rfl) (Nat.le_of_ble_eq_true rfl)
  · obtain ⟨rfl, h_1, g_1⟩ := hp
    refine lv_iload_n hx hb d_NetWires_sync_4 rfl (lv_at hl 2 rfl) ?_
    refine lv_ldc (v := 100000) hx hb hC.2.2.2.1 (hC.2.2.2.2 _ kc_NetWires_120) d_NetWires_sync_5 ?_
    refine ga_Sxv (As := [.int ti, .int 100000]) (rest := []) hC hw (c_NetWires_demandTicks l k hst x ti 100000 _) m_NetWires_demandTicks ml_NetWires_121 rfl rfl ⟨Nat.le_of_ble_eq_true rfl, Nat.le_of_ble_eq_true rfl⟩ rfl hl.1 rfl (Nat.le_of_ble_eq_true rfl) d_NetWires_sync_7 ⟨Nat.le_of_ble_eq_true rfl, Nat.le_of_ble_eq_true rfl⟩ (fun E ce q9 u H locs hp hw g1 g2 g3 => ?_) (fun u H locs hp hw => ?_)
    · obtain ⟨rfl, rfl, h_7⟩ := hp
      exact ga_out hT hlocks hw (Or.inr ⟨rfl, rfl, ⟨h_1, g_1⟩, h_7⟩) g1 g2 g3 (Nat.le_of_ble_eq_true rfl) (Nat.le_of_ble_eq_true rfl)
    · obtain ⟨rfl, h_7, g_7⟩ := hp
      refine lv_aload_n hx hb d_NetWires_sync_10 rfl (lv_at hl 0 rfl) ?_
      refine lv_bipush (v := 48) hx hb d_NetWires_sync_11 (by decide) ?_
      refine lv_iload_n hx hb d_NetWires_sync_13 rfl (lv_at hl 1 rfl) ?_
      refine lv_iload_n hx hb d_NetWires_sync_14 rfl (lv_at hl 2 rfl) ?_
      refine ga_Vi (As := [.int 48, .int ep, .int ti]) (rest := []) hC hw (c_NetWires_setTimer l k x 48 ep ti n h0 hn0 _) m_NetWires_setTimer ml_NetWires_125 (ga_recv hw (q0 := 0) rfl rfl) rfl rfl ⟨Nat.le_of_ble_eq_true rfl, Nat.le_of_ble_eq_true rfl⟩ rfl hl.1 rfl (Nat.le_of_ble_eq_true rfl) d_NetWires_sync_15 ⟨Nat.le_of_ble_eq_true rfl, Nat.le_of_ble_eq_true rfl⟩ (fun r u H locs hp hw => ?_)
      have hp_15 := hp
      exact vx_ret (ga_zret (u := u) hC hr hlocks hw (xa_tim_b hp_15) ⟨⟨h_1, g_1⟩, ⟨h_7, g_7⟩, hp_15⟩ (Nat.le_of_ble_eq_true rfl) (Nat.le_of_ble_eq_true rfl) d_NetWires_sync_18)

set_option maxHeartbeats 4000000 in
set_option maxRecDepth 100000 in
theorem c_NetWires_noAlarm (l : Launch) (k : xa_k) (hst : l.stackTraces = false) (x : XS) (ep : Int32) (n : Nat) (h0 : xa_R0 x n) (sz : Nat) : vx_Met l y_NetWires_noAlarm (Cond.code y_NetWires_noAlarm b_NetWires_noAlarm 2 (some .boolean) :: ga_T) ({ frames := 7, cells := 1, slots := 6, locals := 102 }) (va_Pc [.ref (xa_a k 0), .int ep] (ga_pre (xa_K k) (xa_W k x) sz)) (va_Qi (fun (r : Int32) (u : XS) => (¬ ep < 0 ∧ ¬ 15 < ep) ∧ xa_drp x n 32 ep r u) (ga_post (xa_K k) (xa_W k x) sz (xa_W k)) (va_A (xa_W k x) sz)) (ga_XC (xa_K k) (xa_W k x) sz (xa_W k) (fun E u => E = ga_IOB ∧ x = u ∧ (ep < 0 ∨ 15 < ep))) 1 6 (va_A (xa_W k x) sz) := by
  refine ga_MetX (by decide) (Nat.le_of_ble_eq_true rfl) ?_
  intro p e s m below meth c hC hr hlocks hT hw ls hl
  have hx := hC.1
  have hb := hC.2.1
  have hl : lv_has ls 2 [(0, .ref (xa_a k 0)), (1, .int ep)] := hl
  refine lv_iload_n hx hb d_NetWires_noAlarm_0 rfl (lv_at hl 1 rfl) ?_
  refine ga_Sxv (As := [.int ep]) (rest := []) hC hw (c_NetWires_demandEndpoint l k hst x ep _) m_NetWires_demandEndpoint ml_NetWires_100 rfl rfl ⟨Nat.le_of_ble_eq_true rfl, Nat.le_of_ble_eq_true rfl⟩ rfl hl.1 rfl (Nat.le_of_ble_eq_true rfl) d_NetWires_noAlarm_1 ⟨Nat.le_of_ble_eq_true rfl, Nat.le_of_ble_eq_true rfl⟩ (fun E ce q9 u H locs hp hw g1 g2 g3 => ?_) (fun u H locs hp hw => ?_)
  · obtain ⟨rfl, rfl, h_1⟩ := hp
    exact ga_out hT hlocks hw ⟨rfl, rfl, h_1⟩ g1 g2 g3 (Nat.le_of_ble_eq_true rfl) (Nat.le_of_ble_eq_true rfl)
  · obtain ⟨rfl, h_1, g_1⟩ := hp
    refine lv_aload_n hx hb d_NetWires_noAlarm_4 rfl (lv_at hl 0 rfl) ?_
    refine lv_bipush (v := 32) hx hb d_NetWires_noAlarm_5 (by decide) ?_
    refine lv_iload_n hx hb d_NetWires_noAlarm_7 rfl (lv_at hl 1 rfl) ?_
    refine ga_Vi (As := [.int 32, .int ep]) (rest := []) hC hw (c_NetWires_dropTimer l k x 32 ep n h0 _) m_NetWires_dropTimer ml_NetWires_129 (ga_recv hw (q0 := 0) rfl rfl) rfl rfl ⟨Nat.le_of_ble_eq_true rfl, Nat.le_of_ble_eq_true rfl⟩ rfl hl.1 rfl (Nat.le_of_ble_eq_true rfl) d_NetWires_noAlarm_8 ⟨Nat.le_of_ble_eq_true rfl, Nat.le_of_ble_eq_true rfl⟩ (fun r u H locs hp hw => ?_)
    have hp_8 := hp
    exact vx_ret (ga_zret (u := u) hC hr hlocks hw (xa_drp_b hp_8) ⟨⟨h_1, g_1⟩, hp_8⟩ (Nat.le_of_ble_eq_true rfl) (Nat.le_of_ble_eq_true rfl) d_NetWires_noAlarm_11)

set_option maxHeartbeats 4000000 in
set_option maxRecDepth 100000 in
theorem c_NetWires_noSync (l : Launch) (k : xa_k) (hst : l.stackTraces = false) (x : XS) (ep : Int32) (n : Nat) (h0 : xa_R0 x n) (sz : Nat) : vx_Met l y_NetWires_noSync (Cond.code y_NetWires_noSync b_NetWires_noSync 2 (some .boolean) :: ga_T) ({ frames := 7, cells := 1, slots := 6, locals := 102 }) (va_Pc [.ref (xa_a k 0), .int ep] (ga_pre (xa_K k) (xa_W k x) sz)) (va_Qi (fun (r : Int32) (u : XS) => (¬ ep < 0 ∧ ¬ 15 < ep) ∧ xa_drp x n 48 ep r u) (ga_post (xa_K k) (xa_W k x) sz (xa_W k)) (va_A (xa_W k x) sz)) (ga_XC (xa_K k) (xa_W k x) sz (xa_W k) (fun E u => E = ga_IOB ∧ x = u ∧ (ep < 0 ∨ 15 < ep))) 1 6 (va_A (xa_W k x) sz) := by
  refine ga_MetX (by decide) (Nat.le_of_ble_eq_true rfl) ?_
  intro p e s m below meth c hC hr hlocks hT hw ls hl
  have hx := hC.1
  have hb := hC.2.1
  have hl : lv_has ls 2 [(0, .ref (xa_a k 0)), (1, .int ep)] := hl
  refine lv_iload_n hx hb d_NetWires_noSync_0 rfl (lv_at hl 1 rfl) ?_
  refine ga_Sxv (As := [.int ep]) (rest := []) hC hw (c_NetWires_demandEndpoint l k hst x ep _) m_NetWires_demandEndpoint ml_NetWires_100 rfl rfl ⟨Nat.le_of_ble_eq_true rfl, Nat.le_of_ble_eq_true rfl⟩ rfl hl.1 rfl (Nat.le_of_ble_eq_true rfl) d_NetWires_noSync_1 ⟨Nat.le_of_ble_eq_true rfl, Nat.le_of_ble_eq_true rfl⟩ (fun E ce q9 u H locs hp hw g1 g2 g3 => ?_) (fun u H locs hp hw => ?_)
  · obtain ⟨rfl, rfl, h_1⟩ := hp
    exact ga_out hT hlocks hw ⟨rfl, rfl, h_1⟩ g1 g2 g3 (Nat.le_of_ble_eq_true rfl) (Nat.le_of_ble_eq_true rfl)
  · obtain ⟨rfl, h_1, g_1⟩ := hp
    refine lv_aload_n hx hb d_NetWires_noSync_4 rfl (lv_at hl 0 rfl) ?_
    refine lv_bipush (v := 48) hx hb d_NetWires_noSync_5 (by decide) ?_
    refine lv_iload_n hx hb d_NetWires_noSync_7 rfl (lv_at hl 1 rfl) ?_
    refine ga_Vi (As := [.int 48, .int ep]) (rest := []) hC hw (c_NetWires_dropTimer l k x 48 ep n h0 _) m_NetWires_dropTimer ml_NetWires_129 (ga_recv hw (q0 := 0) rfl rfl) rfl rfl ⟨Nat.le_of_ble_eq_true rfl, Nat.le_of_ble_eq_true rfl⟩ rfl hl.1 rfl (Nat.le_of_ble_eq_true rfl) d_NetWires_noSync_8 ⟨Nat.le_of_ble_eq_true rfl, Nat.le_of_ble_eq_true rfl⟩ (fun r u H locs hp hw => ?_)
    have hp_8 := hp
    exact vx_ret (ga_zret (u := u) hC hr hlocks hw (xa_drp_b hp_8) ⟨⟨h_1, g_1⟩, hp_8⟩ (Nat.le_of_ble_eq_true rfl) (Nat.le_of_ble_eq_true rfl) d_NetWires_noSync_11)

set_option maxHeartbeats 4000000 in
set_option maxRecDepth 100000 in
theorem c_NetWires_step (l : Launch) (k : xa_k) (x : XS) (n w kp : Nat) (h0 : xa_R0 x n) (hw9 : x.1 9 = nI w) (hw2 : w < 32) (hk9 : x.1 10 = nI kp) (hk2 : kp ≤ 32) (sz : Nat) : Met l y_NetWires_step (Cond.code y_NetWires_step b_NetWires_step 2 (some .int) :: ga_T) ({ frames := 4, cells := 0, slots := 0, locals := 87 }) (va_Pc [.ref (xa_a k 0)] (ga_pre (xa_K k) (xa_W k x) sz)) (va_Qi (fun (r : Int32) (u : XS) => (r = -1 ∧ x = u ∧ n = 0) ∨ (0 < n ∧ ∃ y, xa_hap (xa_take x n 0) (xa_v (xa_P x) (xa_ad x 0)) (xa_b (xa_P x) (xa_ad x 0)) y r ∧ u = xa_rmb y r (xa_v (xa_P x) (xa_ad x 0)) w kp)) (ga_post (xa_K k) (xa_W k x) sz (xa_W k)) (va_A (xa_W k x) sz)) 0 0 (va_A (xa_W k x) sz) := by
  refine ga_Met (by decide) (Nat.le_of_ble_eq_true rfl) ?_
  intro p e s m below meth c hC hr hlocks _ hw ls hl
  have hx := hC.1
  have hb := hC.2.1
  have hl : lv_has ls 2 [(0, .ref (xa_a k 0))] := hl
  refine lv_aload_n hx hb d_NetWires_step_0 rfl (lv_at hl 0 rfl) ?_
  refine xg_NetWires_agenda hC hw fl_NetWires_19 d_NetWires_step_1 ?_
  refine lv_iconst (v := 0) hx hb d_NetWires_step_4 (by decide) ?_
  refine ga_Vq (As := [.int 0]) (rest := []) hC hw (c_Agenda_takeAt l k x 0 n h0 _) m_Agenda_takeAt ml_NetWires_132 (ga_recv hw (q0 := 3) rfl rfl) rfl rfl ⟨Nat.le_of_ble_eq_true rfl, Nat.le_of_ble_eq_true rfl⟩ rfl hl.1 rfl (Nat.le_of_ble_eq_true rfl) d_NetWires_step_5 ⟨Nat.le_of_ble_eq_true rfl, Nat.le_of_ble_eq_true rfl⟩ (fun r u H locs hp hw => ?_)
  rcases hp with ⟨rfl, rfl, h_5⟩ | ⟨j_5, hj_5, ej_5, rfl, rfl⟩
  · refine lv_astore_nN (lv' := [(1, .null), (0, .ref (xa_a k 0))]) hx hb d_NetWires_step_8 rfl hl (by decide) rfl (fun ls hl => ?_)
    refine lv_aload_nN hx hb d_NetWires_step_9 rfl (lv_at hl 0 rfl) ?_
    refine lv_ifnonnullN hx hb d_NetWires_step_10 ?_
    refine lv_iconst (v := (-1)) hx hb d_NetWires_step_13 (by decide) ?_
    exact ga_iret (u := x) hC hr hlocks hw (Or.inl ⟨rfl, rfl, xa_n0 h0.2.1 h_5⟩) (Nat.le_of_ble_eq_true rfl) (Nat.le_of_ble_eq_true rfl) d_NetWires_step_14
  · obtain rfl : j_5 = 0 := (nI_eq (by have := h0.2.1; omega) (by decide)).mp ej_5.symm
    have hE9 : xa_isE (xa_P (xa_take x n 0)) (xa_ad x 0) (xa_v (xa_P x) (xa_ad x 0)) (xa_b (xa_P x) (xa_ad x 0)) := by rw [xa_take_P]; exact (h0.get hj_5).2
    refine lv_astore_n (lv' := [(1, .ref (xa_ad x 0)), (0, .ref (xa_a k 0))]) hx hb d_NetWires_step_8 rfl hl (by decide) rfl (fun ls hl => ?_)
    refine lv_aload_n hx hb d_NetWires_step_9 rfl (lv_at hl 0 rfl) ?_
    refine lv_ifnonnull (tgt := 15) hx hb d_NetWires_step_10 (by decide) ?_
    refine lv_aload_n hx hb d_NetWires_step_15 rfl (lv_at hl 1 rfl) ?_
    refine lv_aload_n hx hb d_NetWires_step_16 rfl (lv_at hl 0 rfl) ?_
    refine ga_Vi (As := [.ref (xa_ad x 0)]) (rest := []) hC hw (c_NetWires_letHappen l k (xa_take x n 0) (xa_ad x 0) w kp (xa_v (xa_P x) (xa_ad x 0)) (xa_b (xa_P x) (xa_ad x 0)) hE9 (by rw [xa_take_I _ _ _ _ (by decide) (by decide)]; exact hw9) hw2 (by rw [xa_take_I _ _ _ _ (by decide) (by decide)]; exact hk9) hk2 _) m_NetWires_letHappen ml_NetWires_136 (ga_recv hw (q0 := 0) rfl rfl) rfl rfl ⟨Nat.le_of_ble_eq_true rfl, Nat.le_of_ble_eq_true rfl⟩ rfl hl.1 rfl (Nat.le_of_ble_eq_true rfl) d_NetWires_step_17 ⟨Nat.le_of_ble_eq_true rfl, Nat.le_of_ble_eq_true rfl⟩ (fun r u H locs hp hw => ?_)
    have hp_17 := hp
    exact ga_iret (u := u) hC hr hlocks hw (Or.inr ⟨hj_5, hp_17⟩) (Nat.le_of_ble_eq_true rfl) (Nat.le_of_ble_eq_true rfl) d_NetWires_step_20

set_option maxHeartbeats 4000000 in
set_option maxRecDepth 100000 in
theorem c_NetWires_delay (l : Launch) (k : xa_k) (hst : l.stackTraces = false) (x : XS) (fr to ti : Int32)  (sz : Nat) : vx_Met l y_NetWires_delay (Cond.code y_NetWires_delay b_NetWires_delay 6 (some .int) :: ga_T) ({ frames := 7, cells := 3, slots := 18, locals := 103 }) (va_Pc [.ref (xa_a k 0), .int fr, .int to, .int ti] (ga_pre (xa_K k) (xa_W k x) sz)) (va_Qi (fun (r : Int32) (u : XS) => (¬ ti < 0 ∧ ¬ 1000 < ti) ∧ ∃ i j, i < 16 ∧ fr = nI i ∧ j < 16 ∧ to = nI j ∧ r = xa_L x (i * 16 + j) ∧ u = xa_sL x (upd (xa_L x) (i * 16 + j) ti)) (ga_post (xa_K k) (xa_W k x) sz (xa_W k)) (va_A (xa_W k x) sz)) (ga_XC (xa_K k) (xa_W k x) sz (xa_W k) (fun E u => (E = ga_IOB ∧ x = u ∧ (fr < 0 ∨ 15 < fr ∨ to < 0 ∨ 15 < to)) ∨ (E = ga_IAE ∧ x = u ∧ (¬ fr < 0 ∧ ¬ 15 < fr ∧ ¬ to < 0 ∧ ¬ 15 < to) ∧ (ti < 0 ∨ 1000 < ti)))) 3 18 (va_A (xa_W k x) sz) := by
  refine ga_MetX (by decide) (Nat.le_of_ble_eq_true rfl) ?_
  intro p e s m below meth c hC hr hlocks hT hw ls hl
  have hx := hC.1
  have hb := hC.2.1
  have hl : lv_has ls 6 [(0, .ref (xa_a k 0)), (1, .int fr), (2, .int to), (3, .int ti)] := hl
  refine lv_iload_n hx hb d_NetWires_delay_0 rfl (lv_at hl 1 rfl) ?_
  refine ga_Sxv (As := [.int fr]) (rest := []) hC hw (c_NetWires_demandEndpoint l k hst x fr _) m_NetWires_demandEndpoint ml_NetWires_100 rfl rfl ⟨Nat.le_of_ble_eq_true rfl, Nat.le_of_ble_eq_true rfl⟩ rfl hl.1 rfl (Nat.le_of_ble_eq_true rfl) d_NetWires_delay_1 ⟨Nat.le_of_ble_eq_true rfl, Nat.le_of_ble_eq_true rfl⟩ (fun E ce q9 u H locs hp hw g1 g2 g3 => ?_) (fun u H locs hp hw => ?_)
  · obtain ⟨rfl, rfl, h_1⟩ := hp
    exact ga_out hT hlocks hw (Or.inl ⟨rfl, rfl, h_1.elim Or.inl (fun h => Or.inr (Or.inl h))⟩) g1 g2 g3 (Nat.le_of_ble_eq_true rfl) (Nat.le_of_ble_eq_true rfl)
  · obtain ⟨rfl, h_1, g_1⟩ := hp
    refine lv_iload_n hx hb d_NetWires_delay_4 rfl (lv_at hl 2 rfl) ?_
    refine ga_Sxv (As := [.int to]) (rest := []) hC hw (c_NetWires_demandEndpoint l k hst x to _) m_NetWires_demandEndpoint ml_NetWires_100 rfl rfl ⟨Nat.le_of_ble_eq_true rfl, Nat.le_of_ble_eq_true rfl⟩ rfl hl.1 rfl (Nat.le_of_ble_eq_true rfl) d_NetWires_delay_5 ⟨Nat.le_of_ble_eq_true rfl, Nat.le_of_ble_eq_true rfl⟩ (fun E ce q9 u H locs hp hw g1 g2 g3 => ?_) (fun u H locs hp hw => ?_)
    · obtain ⟨rfl, rfl, h_5⟩ := hp
      exact ga_out hT hlocks hw (Or.inl ⟨rfl, rfl, Or.inr (Or.inr h_5)⟩) g1 g2 g3 (Nat.le_of_ble_eq_true rfl) (Nat.le_of_ble_eq_true rfl)
    · obtain ⟨rfl, h_5, g_5⟩ := hp
      refine lv_iload_n hx hb d_NetWires_delay_8 rfl (lv_at hl 3 rfl) ?_
      refine lv_sipush (v := 1000) hx hb d_NetWires_delay_9 (by decide) ?_
      refine ga_Sxv (As := [.int ti, .int 1000]) (rest := []) hC hw (c_NetWires_demandTicks l k hst x ti 1000 _) m_NetWires_demandTicks ml_NetWires_121 rfl rfl ⟨Nat.le_of_ble_eq_true rfl, Nat.le_of_ble_eq_true rfl⟩ rfl hl.1 rfl (Nat.le_of_ble_eq_true rfl) d_NetWires_delay_12 ⟨Nat.le_of_ble_eq_true rfl, Nat.le_of_ble_eq_true rfl⟩ (fun E ce q9 u H locs hp hw g1 g2 g3 => ?_) (fun u H locs hp hw => ?_)
      · obtain ⟨rfl, rfl, h_12⟩ := hp
        exact ga_out hT hlocks hw (Or.inr ⟨rfl, rfl, ⟨h_1, g_1, h_5, g_5⟩, h_12⟩) g1 g2 g3 (Nat.le_of_ble_eq_true rfl) (Nat.le_of_ble_eq_true rfl)
      · obtain ⟨rfl, h_12, g_12⟩ := hp
        obtain ⟨i, hi, ei⟩ := xa_16 h_1 g_1
        obtain ⟨j, hj, ej⟩ := xa_16 h_5 g_5
        refine lv_iload_n hx hb d_NetWires_delay_15 rfl (lv_at hl 1 rfl) ?_
        refine lv_iload_n hx hb d_NetWires_delay_16 rfl (lv_at hl 2 rfl) ?_
        refine ga_Si (As := [.int fr, .int to]) (rest := []) hC hw (c_NetWires_linkOf l k x fr to _) m_NetWires_linkOf ml_NetWires_153 rfl rfl ⟨Nat.le_of_ble_eq_true rfl, Nat.le_of_ble_eq_true rfl⟩ rfl hl.1 rfl (Nat.le_of_ble_eq_true rfl) d_NetWires_delay_17 ⟨Nat.le_of_ble_eq_true rfl, Nat.le_of_ble_eq_true rfl⟩ (fun r u H locs hp hw => ?_)
        obtain ⟨rfl, rfl⟩ := hp
        refine ga_asi (v := nI (i * 16 + j)) (by rw [ei, ej]; exact (congrArg (· + nI j) (pk_mul i 16)).trans (nI_add _ _)) ?_
        refine lv_istore (lv' := [(4, .int (nI (i * 16 + j))), (0, .ref (xa_a k 0)), (1, .int fr), (2, .int to), (3, .int ti)]) hx hb d_NetWires_delay_20 hl (by decide) rfl (fun ls hl => ?_)
        refine lv_aload_n hx hb d_NetWires_delay_22 rfl (lv_at hl 1 rfl) ?_
        refine xg_NetWires_delays hC hw fl_NetWires_37 d_NetWires_delay_23 ?_
        refine lv_iload hx hb d_NetWires_delay_26 (lv_at hl 0 rfl) ?_
        refine xr_delays (v := xa_L x (i * 16 + j)) hC hw (vp_in_nI (by omega) (by decide)) d_NetWires_delay_28 (by rw [nI_clamp (by omega)]) ?_
        refine lv_istore (lv' := [(5, .int (xa_L x (i * 16 + j))), (4, .int (nI (i * 16 + j))), (0, .ref (xa_a k 0)), (1, .int fr), (2, .int to), (3, .int ti)]) hx hb d_NetWires_delay_29 hl (by decide) rfl (fun ls hl => ?_)
        refine lv_aload_n hx hb d_NetWires_delay_31 rfl (lv_at hl 2 rfl) ?_
        refine xg_NetWires_delays hC hw fl_NetWires_37 d_NetWires_delay_32 ?_
        refine lv_iload hx hb d_NetWires_delay_35 (lv_at hl 1 rfl) ?_
        refine lv_iload_n hx hb d_NetWires_delay_37 rfl (lv_at hl 5 rfl) ?_
        refine xs_delays hC hw (vp_in_nI (by omega) (by decide)) d_NetWires_delay_38 (fun H locs hw => ?_)
        refine lv_iload hx hb d_NetWires_delay_39 (lv_at hl 0 rfl) ?_
        exact vx_ret (ga_iret (u := xa_sL x (upd (xa_L x) (nI (i * 16 + j)).toNatClampNeg ti)) hC hr hlocks hw ⟨⟨h_12, g_12⟩, i, j, hi, ei, hj, ej, rfl, by rw [nI_clamp (by omega)]⟩ (Nat.le_of_ble_eq_true rfl) (Nat.le_of_ble_eq_true rfl) d_NetWires_delay_41)

set_option maxHeartbeats 4000000 in
set_option maxRecDepth 100000 in
theorem c_NetWires_part (l : Launch) (k : xa_k) (hst : l.stackTraces = false) (x : XS) (set : Int32)  (sz : Nat) : vx_Met l y_NetWires_part (Cond.code y_NetWires_part b_NetWires_part 3 (some .int) :: ga_T) ({ frames := 7, cells := 1, slots := 6, locals := 102 }) (va_Pc [.ref (xa_a k 0), .int set] (ga_pre (xa_K k) (xa_W k x) sz)) (va_Qi (fun (r : Int32) (u : XS) => (¬ set < 0 ∧ ¬ 65535 < set) ∧ r = x.1 2 ∧ u = xa_sI x 2 set) (ga_post (xa_K k) (xa_W k x) sz (xa_W k)) (va_A (xa_W k x) sz)) (ga_XC (xa_K k) (xa_W k x) sz (xa_W k) (fun E u => E = ga_IAE ∧ x = u ∧ (set < 0 ∨ 65535 < set))) 1 6 (va_A (xa_W k x) sz) := by
  refine ga_MetX (by decide) (Nat.le_of_ble_eq_true rfl) ?_
  intro p e s m below meth c hC hr hlocks hT hw ls hl
  have hx := hC.1
  have hb := hC.2.1
  have hl : lv_has ls 3 [(0, .ref (xa_a k 0)), (1, .int set)] := hl
  refine lv_iload_n hx hb d_NetWires_part_0 rfl (lv_at hl 1 rfl) ?_
  refine ga_Sxv (As := [.int set]) (rest := []) hC hw (c_NetWires_demandSet l k hst x set _) m_NetWires_demandSet ml_NetWires_157 rfl rfl ⟨Nat.le_of_ble_eq_true rfl, Nat.le_of_ble_eq_true rfl⟩ rfl hl.1 rfl (Nat.le_of_ble_eq_true rfl) d_NetWires_part_1 ⟨Nat.le_of_ble_eq_true rfl, Nat.le_of_ble_eq_true rfl⟩ (fun E ce q9 u H locs hp hw g1 g2 g3 => ?_) (fun u H locs hp hw => ?_)
  · obtain ⟨rfl, rfl, h_1⟩ := hp
    exact ga_out hT hlocks hw ⟨rfl, rfl, h_1⟩ g1 g2 g3 (Nat.le_of_ble_eq_true rfl) (Nat.le_of_ble_eq_true rfl)
  · obtain ⟨rfl, h_1, g_1⟩ := hp
    refine lv_aload_n hx hb d_NetWires_part_4 rfl (lv_at hl 0 rfl) ?_
    refine xg_NetWires_partedSet (v := x.1 2) hC hw fl_NetWires_54 d_NetWires_part_5 rfl ?_
    refine lv_istore_n (lv' := [(2, .int (x.1 2)), (0, .ref (xa_a k 0)), (1, .int set)]) hx hb d_NetWires_part_8 rfl hl (by decide) rfl (fun ls hl => ?_)
    refine lv_aload_n hx hb d_NetWires_part_9 rfl (lv_at hl 1 rfl) ?_
    refine lv_iload_n hx hb d_NetWires_part_10 rfl (lv_at hl 2 rfl) ?_
    refine xp_NetWires_partedSet hC hw fl_NetWires_54 d_NetWires_part_11 (fun H locs hw => ?_)
    refine lv_iload_n hx hb d_NetWires_part_14 rfl (lv_at hl 0 rfl) ?_
    exact vx_ret (ga_iret (u := xa_sI x 2 set) hC hr hlocks hw ⟨⟨h_1, g_1⟩, rfl, rfl⟩ (Nat.le_of_ble_eq_true rfl) (Nat.le_of_ble_eq_true rfl) d_NetWires_part_15)

set_option maxHeartbeats 4000000 in
set_option maxRecDepth 100000 in
theorem c_NetWires_down (l : Launch) (k : xa_k) (hst : l.stackTraces = false) (x : XS) (set : Int32)  (sz : Nat) : vx_Met l y_NetWires_down (Cond.code y_NetWires_down b_NetWires_down 3 (some .int) :: ga_T) ({ frames := 7, cells := 1, slots := 6, locals := 102 }) (va_Pc [.ref (xa_a k 0), .int set] (ga_pre (xa_K k) (xa_W k x) sz)) (va_Qi (fun (r : Int32) (u : XS) => (¬ set < 0 ∧ ¬ 65535 < set) ∧ r = x.1 3 ∧ u = xa_sI x 3 set) (ga_post (xa_K k) (xa_W k x) sz (xa_W k)) (va_A (xa_W k x) sz)) (ga_XC (xa_K k) (xa_W k x) sz (xa_W k) (fun E u => E = ga_IAE ∧ x = u ∧ (set < 0 ∨ 65535 < set))) 1 6 (va_A (xa_W k x) sz) := by
  refine ga_MetX (by decide) (Nat.le_of_ble_eq_true rfl) ?_
  intro p e s m below meth c hC hr hlocks hT hw ls hl
  have hx := hC.1
  have hb := hC.2.1
  have hl : lv_has ls 3 [(0, .ref (xa_a k 0)), (1, .int set)] := hl
  refine lv_iload_n hx hb d_NetWires_down_0 rfl (lv_at hl 1 rfl) ?_
  refine ga_Sxv (As := [.int set]) (rest := []) hC hw (c_NetWires_demandSet l k hst x set _) m_NetWires_demandSet ml_NetWires_157 rfl rfl ⟨Nat.le_of_ble_eq_true rfl, Nat.le_of_ble_eq_true rfl⟩ rfl hl.1 rfl (Nat.le_of_ble_eq_true rfl) d_NetWires_down_1 ⟨Nat.le_of_ble_eq_true rfl, Nat.le_of_ble_eq_true rfl⟩ (fun E ce q9 u H locs hp hw g1 g2 g3 => ?_) (fun u H locs hp hw => ?_)
  · obtain ⟨rfl, rfl, h_1⟩ := hp
    exact ga_out hT hlocks hw ⟨rfl, rfl, h_1⟩ g1 g2 g3 (Nat.le_of_ble_eq_true rfl) (Nat.le_of_ble_eq_true rfl)
  · obtain ⟨rfl, h_1, g_1⟩ := hp
    refine lv_aload_n hx hb d_NetWires_down_4 rfl (lv_at hl 0 rfl) ?_
    refine xg_NetWires_downSet (v := x.1 3) hC hw fl_NetWires_57 d_NetWires_down_5 rfl ?_
    refine lv_istore_n (lv' := [(2, .int (x.1 3)), (0, .ref (xa_a k 0)), (1, .int set)]) hx hb d_NetWires_down_8 rfl hl (by decide) rfl (fun ls hl => ?_)
    refine lv_aload_n hx hb d_NetWires_down_9 rfl (lv_at hl 1 rfl) ?_
    refine lv_iload_n hx hb d_NetWires_down_10 rfl (lv_at hl 2 rfl) ?_
    refine xp_NetWires_downSet hC hw fl_NetWires_57 d_NetWires_down_11 (fun H locs hw => ?_)
    refine lv_iload_n hx hb d_NetWires_down_14 rfl (lv_at hl 0 rfl) ?_
    exact vx_ret (ga_iret (u := xa_sI x 3 set) hC hr hlocks hw ⟨⟨h_1, g_1⟩, rfl, rfl⟩ (Nat.le_of_ble_eq_true rfl) (Nat.le_of_ble_eq_true rfl) d_NetWires_down_15)

set_option maxHeartbeats 4000000 in
set_option maxRecDepth 100000 in
theorem c_NetWires_noise (l : Launch) (k : xa_k) (hst : l.stackTraces = false) (x : XS) (a b c9 : Int32) (d9 : Int64)  (sz : Nat) : vx_Met l y_NetWires_noise (Cond.code y_NetWires_noise b_NetWires_noise 6 none :: ga_T) ({ frames := 6, cells := 1, slots := 6, locals := 82 }) (va_Pc [.ref (xa_a k 0), .int a, .int b, .int c9, .long d9] (ga_pre (xa_K k) (xa_W k x) sz)) (va_Qv (fun (u : XS) => (¬ a < 0 ∧ ¬ 1000 < a ∧ ¬ b < 0 ∧ ¬ 1000 < b ∧ ¬ c9 < 0 ∧ ¬ 1000 < c9) ∧ u = xa_sD (xa_sI (xa_sI (xa_sI x 12 a) 13 b) 14 c9) d9) (ga_post (xa_K k) (xa_W k x) sz (xa_W k)) (va_A (xa_W k x) sz)) (ga_XC (xa_K k) (xa_W k x) sz (xa_W k) (fun E u => E = ga_IAE ∧ x = u ∧ ¬ (¬ a < 0 ∧ ¬ 1000 < a ∧ ¬ b < 0 ∧ ¬ 1000 < b ∧ ¬ c9 < 0 ∧ ¬ 1000 < c9))) 1 6 (va_A (xa_W k x) sz) := by
  refine ga_MetX (by decide) (Nat.le_of_ble_eq_true rfl) ?_
  intro p e s m below meth c hC hr hlocks hT hw ls hl
  have hx := hC.1
  have hb := hC.2.1
  have hl : lv_has ls 6 [(0, .ref (xa_a k 0)), (1, .int a), (2, .int b), (3, .int c9), (4, .long d9)] := hl
  refine lv_iload_n hx hb d_NetWires_noise_0 rfl (lv_at hl 1 rfl) ?_
  refine lv_iconst (v := 0) hx hb d_NetWires_noise_1 (by decide) ?_
  refine lv_sipush (v := 1000) hx hb d_NetWires_noise_2 (by decide) ?_
  refine ga_Si (As := [.int a, .int 0, .int 1000]) (rest := []) hC hw (c_NetWires_isWithin l k x a 0 1000 _) m_NetWires_isWithin ml_NetWires_140 rfl rfl ⟨Nat.le_of_ble_eq_true rfl, Nat.le_of_ble_eq_true rfl⟩ rfl hl.1 rfl (Nat.le_of_ble_eq_true rfl) d_NetWires_noise_5 ⟨Nat.le_of_ble_eq_true rfl, Nat.le_of_ble_eq_true rfl⟩ (fun r u H locs hp hw => ?_)
  obtain ⟨rfl, hp⟩ := hp
  rcases hp with ⟨rfl, ⟨h_5, g_5⟩⟩ | ⟨rfl, h_5⟩
  · refine lv_if_eq (tgt := 33) hx hb d_NetWires_noise_8 (by decide) (fun c_8 => ?_) (fun c_8 => ?_)
    · exact absurd c_8 (by decide)
    · refine lv_iload_n hx hb d_NetWires_noise_11 rfl (lv_at hl 2 rfl) ?_
      refine lv_iconst (v := 0) hx hb d_NetWires_noise_12 (by decide) ?_
      refine lv_sipush (v := 1000) hx hb d_NetWires_noise_13 (by decide) ?_
      refine ga_Si (As := [.int b, .int 0, .int 1000]) (rest := []) hC hw (c_NetWires_isWithin l k x b 0 1000 _) m_NetWires_isWithin ml_NetWires_140 rfl rfl ⟨Nat.le_of_ble_eq_true rfl, Nat.le_of_ble_eq_true rfl⟩ rfl hl.1 rfl (Nat.le_of_ble_eq_true rfl) d_NetWires_noise_16 ⟨Nat.le_of_ble_eq_true rfl, Nat.le_of_ble_eq_true rfl⟩ (fun r u H locs hp hw => ?_)
      obtain ⟨rfl, hp⟩ := hp
      rcases hp with ⟨rfl, ⟨h_16, g_16⟩⟩ | ⟨rfl, h_16⟩
      · refine lv_if_eq (tgt := 33) hx hb d_NetWires_noise_19 (by decide) (fun c_19 => ?_) (fun c_19 => ?_)
        · exact absurd c_19 (by decide)
        · refine lv_iload_n hx hb d_NetWires_noise_22 rfl (lv_at hl 3 rfl) ?_
          refine lv_iconst (v := 0) hx hb d_NetWires_noise_23 (by decide) ?_
          refine lv_sipush (v := 1000) hx hb d_NetWires_noise_24 (by decide) ?_
          refine ga_Si (As := [.int c9, .int 0, .int 1000]) (rest := []) hC hw (c_NetWires_isWithin l k x c9 0 1000 _) m_NetWires_isWithin ml_NetWires_140 rfl rfl ⟨Nat.le_of_ble_eq_true rfl, Nat.le_of_ble_eq_true rfl⟩ rfl hl.1 rfl (Nat.le_of_ble_eq_true rfl) d_NetWires_noise_27 ⟨Nat.le_of_ble_eq_true rfl, Nat.le_of_ble_eq_true rfl⟩ (fun r u H locs hp hw => ?_)
          obtain ⟨rfl, hp⟩ := hp
          rcases hp with ⟨rfl, ⟨h_27, g_27⟩⟩ | ⟨rfl, h_27⟩
          · refine lv_if_ne (tgt := 43) hx hb d_NetWires_noise_30 (by decide) (fun c_30 => ?_) (fun c_30 => ?_)
            · refine lv_aload_n hx hb d_NetWires_noise_43 rfl (lv_at hl 0 rfl) ?_
              refine xg_NetWires_disturbance hC hw fl_NetWires_33 d_NetWires_noise_44 ?_
              refine lv_iload_n hx hb d_NetWires_noise_47 rfl (lv_at hl 1 rfl) ?_
              refine lv_iload_n hx hb d_NetWires_noise_48 rfl (lv_at hl 2 rfl) ?_
              refine lv_iload_n hx hb d_NetWires_noise_49 rfl (lv_at hl 3 rfl) ?_
              refine lv_lload hx hb d_NetWires_noise_50 (lv_at hl 4 rfl) ?_
              refine ga_Vv (As := [.int a, .int b, .int c9, .long d9]) (rest := []) hC hw (c_Noise_set l k x a b c9 d9 _) m_Noise_set ml_NetWires_162 (ga_recv hw (q0 := 7) rfl rfl) rfl rfl ⟨Nat.le_of_ble_eq_true rfl, Nat.le_of_ble_eq_true rfl⟩ rfl hl.1 rfl (Nat.le_of_ble_eq_true rfl) d_NetWires_noise_52 ⟨Nat.le_of_ble_eq_true rfl, Nat.le_of_ble_eq_true rfl⟩ (fun u H locs hp hw => ?_)
              subst hp
              exact vx_ret (ga_vret (u := xa_sD (xa_sI (xa_sI (xa_sI x 12 a) 13 b) 14 c9) d9) hC hr hlocks hw ⟨⟨h_5, g_5, h_16, g_16, h_27, g_27⟩, rfl⟩ (Nat.le_of_ble_eq_true rfl) (Nat.le_of_ble_eq_true rfl) d_NetWires_noise_55)
            · exact absurd c_30 (by decide)
          · refine lv_if_ne (tgt := 43) hx hb d_NetWires_noise_30 (by decide) (fun c_30 => ?_) (fun c_30 => ?_)
            · exact absurd c_30 (by decide)
            · exact ga_thIAE (u := x) hst hC hT hlocks hw hl.1 (is := 160) (tx := "loss, twice and spread are not all 0 .. 1000") (by decide +kernel) ⟨rfl, rfl, fun h => h_27.elim h.2.2.2.2.1 h.2.2.2.2.2⟩ d_NetWires_noise_33 d_NetWires_noise_36 d_NetWires_noise_37 d_NetWires_noise_39 d_NetWires_noise_42 (Nat.le_of_ble_eq_true rfl) (Nat.le_of_ble_eq_true rfl) (Nat.le_of_ble_eq_true rfl) (Nat.le_of_ble_eq_true rfl) (Nat.le_of_ble_eq_true rfl) (Nat.le_of_ble_eq_true rfl)
      · refine lv_if_eq (tgt := 33) hx hb d_NetWires_noise_19 (by decide) (fun c_19 => ?_) (fun c_19 => ?_)
        · exact ga_thIAE (u := x) hst hC hT hlocks hw hl.1 (is := 160) (tx := "loss, twice and spread are not all 0 .. 1000") (by decide +kernel) ⟨rfl, rfl, fun h => h_16.elim h.2.2.1 h.2.2.2.1⟩ d_NetWires_noise_33 d_NetWires_noise_36 d_NetWires_noise_37 d_NetWires_noise_39 d_NetWires_noise_42 (Nat.le_of_ble_eq_true rfl) (Nat.le_of_ble_eq_true rfl) (Nat.le_of_ble_eq_true rfl) (Nat.le_of_ble_eq_true rfl) (Nat.le_of_ble_eq_true rfl) (Nat.le_of_ble_eq_true rfl)
        · exact absurd c_19 (by decide)
  · refine lv_if_eq (tgt := 33) hx hb d_NetWires_noise_8 (by decide) (fun c_8 => ?_) (fun c_8 => ?_)
    · exact ga_thIAE (u := x) hst hC hT hlocks hw hl.1 (is := 160) (tx := "loss, twice and spread are not all 0 .. 1000") (by decide +kernel) ⟨rfl, rfl, fun h => h_5.elim h.1 h.2.1⟩ d_NetWires_noise_33 d_NetWires_noise_36 d_NetWires_noise_37 d_NetWires_noise_39 d_NetWires_noise_42 (Nat.le_of_ble_eq_true rfl) (Nat.le_of_ble_eq_true rfl) (Nat.le_of_ble_eq_true rfl) (Nat.le_of_ble_eq_true rfl) (Nat.le_of_ble_eq_true rfl) (Nat.le_of_ble_eq_true rfl)
    · exact absurd c_8 (by decide)

set_option maxHeartbeats 4000000 in
set_option maxRecDepth 100000 in
theorem c_NetWires_happened (l : Launch) (k : xa_k) (x : XS) (k9 wh : Int32) (w kp : Nat) (hw9 : x.1 9 = nI w) (hw2 : w < 32) (hk9 : x.1 10 = nI kp) (hk2 : kp ≤ 32) (sz : Nat) : Met l y_NetWires_happened (Cond.code y_NetWires_happened b_NetWires_happened 3 (some .int) :: ga_T) ({ frames := 1, cells := 0, slots := 0, locals := 23 }) (va_Pc [.ref (xa_a k 0), .int k9, .int wh] (ga_pre (xa_K k) (xa_W k x) sz)) (va_Qi (fun (r : Int32) (u : XS) => x = u ∧ ((r = -1 ∧ (k9 < 0 ∨ nI kp ≤ k9 ∨ wh < 0 ∨ ¬ wh < 4)) ∨ (∃ i j, i < kp ∧ k9 = nI i ∧ j < 4 ∧ wh = nI j ∧ r = xa_F x ((w + 32 - i) % 32 * 4 + j)))) (ga_post (xa_K k) (xa_W k x) sz (xa_W k)) (va_A (xa_W k x) sz)) 0 0 (va_A (xa_W k x) sz) := by
  refine ga_Met (by decide) (Nat.le_of_ble_eq_true rfl) ?_
  intro p e s m below meth c hC hr hlocks _ hw ls hl
  have hx := hC.1
  have hb := hC.2.1
  have hl : lv_has ls 3 [(0, .ref (xa_a k 0)), (1, .int k9), (2, .int wh)] := hl
  refine lv_aload_n hx hb d_NetWires_happened_0 rfl (lv_at hl 0 rfl) ?_
  refine xg_NetWires_history hC hw fl_NetWires_26 d_NetWires_happened_1 ?_
  refine lv_iload_n hx hb d_NetWires_happened_4 rfl (lv_at hl 1 rfl) ?_
  refine lv_iload_n hx hb d_NetWires_happened_5 rfl (lv_at hl 2 rfl) ?_
  refine ga_Vi (As := [.int k9, .int wh]) (rest := []) hC hw (c_History_fact l k x k9 wh w kp hw9 hw2 hk9 hk2 _) m_History_fact ml_NetWires_198 (ga_recv hw (q0 := 5) rfl rfl) rfl rfl ⟨Nat.le_of_ble_eq_true rfl, Nat.le_of_ble_eq_true rfl⟩ rfl hl.1 rfl (Nat.le_of_ble_eq_true rfl) d_NetWires_happened_6 ⟨Nat.le_of_ble_eq_true rfl, Nat.le_of_ble_eq_true rfl⟩ (fun r u H locs hp hw => ?_)
  obtain ⟨rfl, hp⟩ := hp
  exact ga_iret (u := x) hC hr hlocks hw ⟨rfl, hp⟩ (Nat.le_of_ble_eq_true rfl) (Nat.le_of_ble_eq_true rfl) d_NetWires_happened_9

set_option maxHeartbeats 4000000 in
set_option maxRecDepth 100000 in
theorem c_NetWires_byteAt (l : Launch) (k : xa_k) (hst : l.stackTraces = false) (x : XS) (i9 : Int32) (al : Nat) (af : Nat → Int32) (hA : xa_isB k (xa_P x) (xa_B x) al af) (hal : al < 4000) (sz : Nat) : vx_Met l y_NetWires_byteAt (Cond.code y_NetWires_byteAt b_NetWires_byteAt 2 (some .int) :: ga_T) ({ frames := 6, cells := 1, slots := 6, locals := 82 }) (va_Pc [.ref (xa_a k 0), .int i9] (ga_pre (xa_K k) (xa_W k x) sz)) (va_Qi (fun (r : Int32) (u : XS) => x = u ∧ ∃ j, j < al ∧ i9 = nI j ∧ r = af j &&& 255) (ga_post (xa_K k) (xa_W k x) sz (xa_W k)) (va_A (xa_W k x) sz)) (ga_XC (xa_K k) (xa_W k x) sz (xa_W k) (fun E u => E = ga_IOB ∧ x = u ∧ (i9 < 0 ∨ nI al ≤ i9))) 1 6 (va_A (xa_W k x) sz) := by
  refine ga_MetX (by decide) (Nat.le_of_ble_eq_true rfl) ?_
  intro p e s m below meth c hC hr hlocks hT hw ls hl
  have hx := hC.1
  have hb := hC.2.1
  have hl : lv_has ls 2 [(0, .ref (xa_a k 0)), (1, .int i9)] := hl
  refine lv_iload_n hx hb d_NetWires_byteAt_0 rfl (lv_at hl 1 rfl) ?_
  refine lv_if_lt (tgt := 13) hx hb d_NetWires_byteAt_1 (by decide) (fun c_1 => ?_) (fun c_1 => ?_)
  · exact ga_thIOB (u := x) hst hC hT hlocks hw hl.1 (is := 196) (tx := "no such byte") (by decide +kernel) ⟨rfl, rfl, Or.inl c_1⟩ d_NetWires_byteAt_13 d_NetWires_byteAt_16 d_NetWires_byteAt_17 d_NetWires_byteAt_19 d_NetWires_byteAt_22 (Nat.le_of_ble_eq_true rfl) (Nat.le_of_ble_eq_true rfl) (Nat.le_of_ble_eq_true rfl) (Nat.le_of_ble_eq_true rfl) (Nat.le_of_ble_eq_true rfl) (Nat.le_of_ble_eq_true rfl)
  · refine lv_iload_n hx hb d_NetWires_byteAt_4 rfl (lv_at hl 1 rfl) ?_
    refine lv_aload_n hx hb d_NetWires_byteAt_5 rfl (lv_at hl 0 rfl) ?_
    refine xg_NetWires_arrivedBytes (v := xa_B x) hC hw fl_NetWires_70 d_NetWires_byteAt_6 rfl ?_
    refine xr_len (v := nI al) hC hw hA d_NetWires_byteAt_9 rfl ?_
    refine lv_icmp_lt (tgt := 23) hx hb d_NetWires_byteAt_10 (by decide) (fun c_10 => ?_) (fun c_10 => ?_)
    · obtain ⟨j, hj, ej⟩ := xa_ix2 (n := al) (by omega) c_1 c_10
      refine lv_aload_n hx hb d_NetWires_byteAt_23 rfl (lv_at hl 0 rfl) ?_
      refine xg_NetWires_arrivedBytes (v := xa_B x) hC hw fl_NetWires_70 d_NetWires_byteAt_24 rfl ?_
      refine lv_iload_n hx hb d_NetWires_byteAt_27 rfl (lv_at hl 1 rfl) ?_
      refine xr_byte (v := af i9.toNatClampNeg) hC hw hA (by rw [ej]; exact vp_in_nI hj (by omega)) d_NetWires_byteAt_28 rfl ?_
      refine lv_sipush (v := 255) hx hb d_NetWires_byteAt_29 (by decide) ?_
      refine lv_iand hx hb d_NetWires_byteAt_32 ?_
      exact vx_ret (ga_iret (u := x) hC hr hlocks hw ⟨rfl, j, hj, ej, by rw [ej, nI_clamp (by omega)]⟩ (Nat.le_of_ble_eq_true rfl) (Nat.le_of_ble_eq_true rfl) d_NetWires_byteAt_33)
    · exact ga_thIOB (u := x) hst hC hT hlocks hw hl.1 (is := 196) (tx := "no such byte") (by decide +kernel) ⟨rfl, rfl, Or.inr (Int32.not_lt.mp c_10)⟩ d_NetWires_byteAt_13 d_NetWires_byteAt_16 d_NetWires_byteAt_17 d_NetWires_byteAt_19 d_NetWires_byteAt_22 (Nat.le_of_ble_eq_true rfl) (Nat.le_of_ble_eq_true rfl) (Nat.le_of_ble_eq_true rfl) (Nat.le_of_ble_eq_true rfl) (Nat.le_of_ble_eq_true rfl) (Nat.le_of_ble_eq_true rfl)

set_option maxHeartbeats 4000000 in
set_option maxRecDepth 100000 in
theorem c_NetWires_count (l : Launch) (k : xa_k) (x : XS) (wh : Int32) (al : Nat) (af : Nat → Int32) (hA : xa_isB k (xa_P x) (xa_B x) al af) (sz : Nat) : Met l y_NetWires_count (Cond.code y_NetWires_count b_NetWires_count 2 (some .int) :: ga_T) ({ frames := 0, cells := 0, slots := 0, locals := 0 }) (va_Pc [.ref (xa_a k 0), .int wh] (ga_pre (xa_K k) (xa_W k x) sz)) (va_Qi (fun (r : Int32) (u : XS) => x = u ∧ ((wh = nI 0 ∧ r = x.1 0) ∨ (wh = nI 1 ∧ r = x.1 8) ∨ (wh = nI 2 ∧ r = x.1 4) ∨ (wh = nI 3 ∧ r = x.1 5) ∨ (wh = nI 4 ∧ r = x.1 11) ∨ (wh = nI 5 ∧ r = x.1 1) ∨ (wh = nI 6 ∧ r = x.1 6) ∨ (wh = nI 7 ∧ r = nI al) ∨ ((wh.toInt < 0 ∨ 7 < wh.toInt) ∧ r = -1))) (ga_post (xa_K k) (xa_W k x) sz (xa_W k)) (va_A (xa_W k x) sz)) 0 0 (va_A (xa_W k x) sz) := by
  refine ga_Met (by decide) (Nat.le_of_ble_eq_true rfl) ?_
  intro p e s m below meth c hC hr hlocks _ hw ls hl
  have hx := hC.1
  have hb := hC.2.1
  have hl : lv_has ls 2 [(0, .ref (xa_a k 0)), (1, .int wh)] := hl
  refine lv_iload_n hx hb d_NetWires_count_0 rfl (lv_at hl 1 rfl) ?_
  rcases xa_sw 7 (by decide) wh with ⟨j_1, hj_1, e_1⟩ | h_1
  · rcases (show j_1 = 0 ∨ j_1 = 1 ∨ j_1 = 2 ∨ j_1 = 3 ∨ j_1 = 4 ∨ j_1 = 5 ∨ j_1 = 6 ∨ j_1 = 7 by omega) with rfl | rfl | rfl | rfl | rfl | rfl | rfl | rfl
    · refine ga_asi (v := nI 0) e_1 ?_
      refine lv_tableIn (off := 47) (tgt := 48) hx hb d_NetWires_count_1 (by decide) (by decide) rfl (by decide) ?_
      refine lv_aload_n hx hb d_NetWires_count_48 rfl (lv_at hl 0 rfl) ?_
      refine xg_NetWires_now (v := x.1 0) hC hw fl_NetWires_47 d_NetWires_count_49 rfl ?_
      exact ga_iret (u := x) hC hr hlocks hw ⟨rfl, Or.inl ⟨e_1, rfl⟩⟩ (Nat.le_of_ble_eq_true rfl) (Nat.le_of_ble_eq_true rfl) d_NetWires_count_52
    · refine ga_asi (v := nI 1) e_1 ?_
      refine lv_tableIn (off := 52) (tgt := 53) hx hb d_NetWires_count_1 (by decide) (by decide) rfl (by decide) ?_
      refine lv_aload_n hx hb d_NetWires_count_53 rfl (lv_at hl 0 rfl) ?_
      refine xg_NetWires_agenda hC hw fl_NetWires_19 d_NetWires_count_54 ?_
      refine xg_Agenda_messages (v := x.1 8) hC hw fl_NetWires_206 d_NetWires_count_57 rfl ?_
      exact ga_iret (u := x) hC hr hlocks hw ⟨rfl, Or.inr (Or.inl ⟨e_1, rfl⟩)⟩ (Nat.le_of_ble_eq_true rfl) (Nat.le_of_ble_eq_true rfl) d_NetWires_count_60
    · refine ga_asi (v := nI 2) e_1 ?_
      refine lv_tableIn (off := 60) (tgt := 61) hx hb d_NetWires_count_1 (by decide) (by decide) rfl (by decide) ?_
      refine lv_aload_n hx hb d_NetWires_count_61 rfl (lv_at hl 0 rfl) ?_
      refine xg_NetWires_everOnWay (v := x.1 4) hC hw fl_NetWires_60 d_NetWires_count_62 rfl ?_
      exact ga_iret (u := x) hC hr hlocks hw ⟨rfl, Or.inr (Or.inr (Or.inl ⟨e_1, rfl⟩))⟩ (Nat.le_of_ble_eq_true rfl) (Nat.le_of_ble_eq_true rfl) d_NetWires_count_65
    · refine ga_asi (v := nI 3) e_1 ?_
      refine lv_tableIn (off := 65) (tgt := 66) hx hb d_NetWires_count_1 (by decide) (by decide) rfl (by decide) ?_
      refine lv_aload_n hx hb d_NetWires_count_66 rfl (lv_at hl 0 rfl) ?_
      refine xg_NetWires_lost (v := x.1 5) hC hw fl_NetWires_63 d_NetWires_count_67 rfl ?_
      exact ga_iret (u := x) hC hr hlocks hw ⟨rfl, Or.inr (Or.inr (Or.inr (Or.inl ⟨e_1, rfl⟩)))⟩ (Nat.le_of_ble_eq_true rfl) (Nat.le_of_ble_eq_true rfl) d_NetWires_count_70
    · refine ga_asi (v := nI 4) e_1 ?_
      refine lv_tableIn (off := 70) (tgt := 71) hx hb d_NetWires_count_1 (by decide) (by decide) rfl (by decide) ?_
      refine lv_aload_n hx hb d_NetWires_count_71 rfl (lv_at hl 0 rfl) ?_
      refine xg_NetWires_history hC hw fl_NetWires_26 d_NetWires_count_72 ?_
      refine xg_History_total (v := x.1 11) hC hw fl_NetWires_209 d_NetWires_count_75 rfl ?_
      exact ga_iret (u := x) hC hr hlocks hw ⟨rfl, Or.inr (Or.inr (Or.inr (Or.inr (Or.inl ⟨e_1, rfl⟩))))⟩ (Nat.le_of_ble_eq_true rfl) (Nat.le_of_ble_eq_true rfl) d_NetWires_count_78
    · refine ga_asi (v := nI 5) e_1 ?_
      refine lv_tableIn (off := 78) (tgt := 79) hx hb d_NetWires_count_1 (by decide) (by decide) rfl (by decide) ?_
      refine lv_aload_n hx hb d_NetWires_count_79 rfl (lv_at hl 0 rfl) ?_
      refine xg_NetWires_nextNumber (v := x.1 1) hC hw fl_NetWires_51 d_NetWires_count_80 rfl ?_
      exact ga_iret (u := x) hC hr hlocks hw ⟨rfl, Or.inr (Or.inr (Or.inr (Or.inr (Or.inr (Or.inl ⟨e_1, rfl⟩)))))⟩ (Nat.le_of_ble_eq_true rfl) (Nat.le_of_ble_eq_true rfl) d_NetWires_count_83
    · refine ga_asi (v := nI 6) e_1 ?_
      refine lv_tableIn (off := 83) (tgt := 84) hx hb d_NetWires_count_1 (by decide) (by decide) rfl (by decide) ?_
      refine lv_aload_n hx hb d_NetWires_count_84 rfl (lv_at hl 0 rfl) ?_
      refine xg_NetWires_tape hC hw fl_NetWires_12 d_NetWires_count_85 ?_
      refine xg_Tape_length (v := x.1 6) hC hw fl_NetWires_93 d_NetWires_count_88 rfl ?_
      exact ga_iret (u := x) hC hr hlocks hw ⟨rfl, Or.inr (Or.inr (Or.inr (Or.inr (Or.inr (Or.inr (Or.inl ⟨e_1, rfl⟩))))))⟩ (Nat.le_of_ble_eq_true rfl) (Nat.le_of_ble_eq_true rfl) d_NetWires_count_91
    · refine ga_asi (v := nI 7) e_1 ?_
      refine lv_tableIn (off := 91) (tgt := 92) hx hb d_NetWires_count_1 (by decide) (by decide) rfl (by decide) ?_
      refine lv_aload_n hx hb d_NetWires_count_92 rfl (lv_at hl 0 rfl) ?_
      refine xg_NetWires_arrivedBytes (v := xa_B x) hC hw fl_NetWires_70 d_NetWires_count_93 rfl ?_
      refine xr_len (v := nI al) hC hw hA d_NetWires_count_96 rfl ?_
      exact ga_iret (u := x) hC hr hlocks hw ⟨rfl, Or.inr (Or.inr (Or.inr (Or.inr (Or.inr (Or.inr (Or.inr (Or.inl ⟨e_1, rfl⟩)))))))⟩ (Nat.le_of_ble_eq_true rfl) (Nat.le_of_ble_eq_true rfl) d_NetWires_count_97
  · refine lv_tableOut (tgt := 98) hx hb d_NetWires_count_1 h_1 (by decide) ?_
    refine lv_iconst (v := (-1)) hx hb d_NetWires_count_98 (by decide) ?_
    exact ga_iret (u := x) hC hr hlocks hw ⟨rfl, Or.inr (Or.inr (Or.inr (Or.inr (Or.inr (Or.inr (Or.inr (Or.inr (⟨h_1, rfl⟩))))))))⟩ (Nat.le_of_ble_eq_true rfl) (Nat.le_of_ble_eq_true rfl) d_NetWires_count_99
end
section
set_option maxHeartbeats 4000000 in
set_option maxRecDepth 100000 in
theorem c_NetWires_when (l : Launch) (k : xa_k) (hst : l.stackTraces = false) (x : XS) (ep wh : Int32) (n : Nat) (h0 : xa_R0 x n) (sz : Nat) : vx_Met l y_NetWires_when (Cond.code y_NetWires_when b_NetWires_when 4 (some .int) :: ga_T) ({ frames := 7, cells := 2, slots := 12, locals := 102 }) (va_Pc [.ref (xa_a k 0), .int ep, .int wh] (ga_pre (xa_K k) (xa_W k x) sz)) (va_Qi (fun (r : Int32) (u : XS) => (¬ ep < 0 ∧ ¬ 15 < ep) ∧ x = u ∧ ∃ kd, ((wh = 0 ∧ kd = 32) ∨ (wh = 1 ∧ kd = 48)) ∧ ((r = -1 ∧ ∀ t, t < n → ¬ xa_mt x t kd ep) ∨ (∃ j, j < n ∧ xa_mt x j kd ep ∧ (∀ t, t < j → ¬ xa_mt x t kd ep) ∧ r = xa_at x j 3))) (ga_post (xa_K k) (xa_W k x) sz (xa_W k)) (va_A (xa_W k x) sz)) (ga_XC (xa_K k) (xa_W k x) sz (xa_W k) (fun E u => E = ga_IOB ∧ x = u ∧ ((ep < 0 ∨ 15 < ep) ∨ (¬ wh = 0 ∧ ¬ wh = 1)))) 2 12 (va_A (xa_W k x) sz) := by
  refine ga_MetX (by decide) (Nat.le_of_ble_eq_true rfl) ?_
  intro p e s m below meth c hC hr hlocks hT hw ls hl
  have hx := hC.1
  have hb := hC.2.1
  have hl : lv_has ls 4 [(0, .ref (xa_a k 0)), (1, .int ep), (2, .int wh)] := hl
  refine lv_iload_n hx hb d_NetWires_when_0 rfl (lv_at hl 1 rfl) ?_
  refine ga_Sxv (As := [.int ep]) (rest := []) hC hw (c_NetWires_demandEndpoint l k hst x ep _) m_NetWires_demandEndpoint ml_NetWires_100 rfl rfl ⟨Nat.le_of_ble_eq_true rfl, Nat.le_of_ble_eq_true rfl⟩ rfl hl.1 rfl (Nat.le_of_ble_eq_true rfl) d_NetWires_when_1 ⟨Nat.le_of_ble_eq_true rfl, Nat.le_of_ble_eq_true rfl⟩ (fun E ce q9 u H locs hp hw g1 g2 g3 => ?_) (fun u H locs hp hw => ?_)
  · obtain ⟨rfl, rfl, h_1⟩ := hp
    exact ga_out hT hlocks hw ⟨rfl, rfl, Or.inl h_1⟩ g1 g2 g3 (Nat.le_of_ble_eq_true rfl) (Nat.le_of_ble_eq_true rfl)
  · obtain ⟨rfl, h_1, g_1⟩ := hp
    refine lv_iload_n hx hb d_NetWires_when_4 rfl (lv_at hl 2 rfl) ?_
    refine lv_if_eq (tgt := 23) hx hb d_NetWires_when_5 (by decide) (fun c_5 => ?_) (fun c_5 => ?_)
    · refine lv_aload_n hx hb d_NetWires_when_23 rfl (lv_at hl 0 rfl) ?_
      refine xg_NetWires_agenda hC hw fl_NetWires_19 d_NetWires_when_24 ?_
      refine lv_aload_n hx hb d_NetWires_when_27 rfl (lv_at hl 0 rfl) ?_
      refine xg_NetWires_agenda hC hw fl_NetWires_19 d_NetWires_when_28 ?_
      refine lv_iload_n hx hb d_NetWires_when_31 rfl (lv_at hl 2 rfl) ?_
      refine lv_if_ne (tgt := 40) hx hb d_NetWires_when_32 (by decide) (fun c_32 => ?_) (fun c_32 => ?_)
      · exact absurd c_5 c_32
      · refine lv_bipush (v := 32) hx hb d_NetWires_when_35 (by decide) ?_
        refine lv_goto (tgt := 42) hx hb d_NetWires_when_37 (by decide) ?_
        refine lv_iload_n hx hb d_NetWires_when_42 rfl (lv_at hl 1 rfl) ?_
        refine ga_Vi (As := [.int 32, .int ep]) (rest := [.ref (xa_a k 3)]) hC hw (c_Agenda_placeOfTimer l k x 32 ep n h0 _) m_Agenda_placeOfTimer ml_NetWires_203 (ga_recv hw (q0 := 3) rfl rfl) rfl rfl ⟨Nat.le_of_ble_eq_true rfl, Nat.le_of_ble_eq_true rfl⟩ rfl hl.1 rfl (Nat.le_of_ble_eq_true rfl) d_NetWires_when_43 ⟨Nat.le_of_ble_eq_true rfl, Nat.le_of_ble_eq_true rfl⟩ (fun r u H locs hp hw => ?_)
        obtain ⟨rfl, hp⟩ := hp
        rcases hp with ⟨rfl, h_43⟩ | ⟨j_43, hj_43, rfl, h_43, g_43⟩
        · refine ga_Vq (As := [.int ((-1))]) (rest := []) hC hw (c_Agenda_at l k x ((-1)) n h0 _) m_Agenda_at ml_NetWires_145 (ga_recv hw (q0 := 3) rfl rfl) rfl rfl ⟨Nat.le_of_ble_eq_true rfl, Nat.le_of_ble_eq_true rfl⟩ rfl hl.1 rfl (Nat.le_of_ble_eq_true rfl) d_NetWires_when_46 ⟨Nat.le_of_ble_eq_true rfl, Nat.le_of_ble_eq_true rfl⟩ (fun r u H locs hp hw => ?_)
          obtain ⟨rfl, hp⟩ := hp
          rcases hp with ⟨rfl, h_46⟩ | ⟨j_46, hj_46, ej_46, rfl⟩
          · refine lv_astore_nN (lv' := [(3, .null), (0, .ref (xa_a k 0)), (1, .int ep), (2, .int wh)]) hx hb d_NetWires_when_49 rfl hl (by decide) rfl (fun ls hl => ?_)
            refine lv_aload_nN hx hb d_NetWires_when_50 rfl (lv_at hl 0 rfl) ?_
            refine lv_ifnonnullN hx hb d_NetWires_when_51 ?_
            refine lv_iconst (v := (-1)) hx hb d_NetWires_when_54 (by decide) ?_
            refine lv_goto (tgt := 62) hx hb d_NetWires_when_55 (by decide) ?_
            exact vx_ret (ga_iret (u := x) hC hr hlocks hw ⟨⟨h_1, g_1⟩, rfl, 32, Or.inl ⟨c_5, rfl⟩, Or.inl ⟨rfl, h_43⟩⟩ (Nat.le_of_ble_eq_true rfl) (Nat.le_of_ble_eq_true rfl) d_NetWires_when_62)
          · exact absurd ej_46 (xa_m1 (by have := h0.2.1; omega))
        · refine ga_Vq (As := [.int (nI j_43)]) (rest := []) hC hw (c_Agenda_at l k x (nI j_43) n h0 _) m_Agenda_at ml_NetWires_145 (ga_recv hw (q0 := 3) rfl rfl) rfl rfl ⟨Nat.le_of_ble_eq_true rfl, Nat.le_of_ble_eq_true rfl⟩ rfl hl.1 rfl (Nat.le_of_ble_eq_true rfl) d_NetWires_when_46 ⟨Nat.le_of_ble_eq_true rfl, Nat.le_of_ble_eq_true rfl⟩ (fun r u H locs hp hw => ?_)
          obtain ⟨rfl, hp⟩ := hp
          rcases hp with ⟨rfl, h_46⟩ | ⟨j_46, hj_46, ej_46, rfl⟩
          · exact absurd (xa_nix h0.2.1 h_46 rfl hj_43) id
          · obtain rfl := xa_inj h0.2.1 hj_43 hj_46 ej_46
            refine lv_astore_n (lv' := [(3, .ref (xa_ad x j_43)), (0, .ref (xa_a k 0)), (1, .int ep), (2, .int wh)]) hx hb d_NetWires_when_49 rfl hl (by decide) rfl (fun ls hl => ?_)
            refine lv_aload_n hx hb d_NetWires_when_50 rfl (lv_at hl 0 rfl) ?_
            refine lv_ifnonnull (tgt := 58) hx hb d_NetWires_when_51 (by decide) ?_
            refine lv_aload_n hx hb d_NetWires_when_58 rfl (lv_at hl 0 rfl) ?_
            refine xe_time hC hw (h0.get hj_43).2 fl_NetWires_148 d_NetWires_when_59 ?_
            exact vx_ret (ga_iret (u := x) hC hr hlocks hw ⟨⟨h_1, g_1⟩, rfl, 32, Or.inl ⟨c_5, rfl⟩, Or.inr ⟨j_43, hj_43, h_43, g_43, rfl⟩⟩ (Nat.le_of_ble_eq_true rfl) (Nat.le_of_ble_eq_true rfl) d_NetWires_when_62)
    · refine lv_iload_n hx hb d_NetWires_when_8 rfl (lv_at hl 2 rfl) ?_
      refine lv_iconst (v := 1) hx hb d_NetWires_when_9 (by decide) ?_
      refine lv_icmp_eq (tgt := 23) hx hb d_NetWires_when_10 (by decide) (fun c_10 => ?_) (fun c_10 => ?_)
      · refine lv_aload_n hx hb d_NetWires_when_23 rfl (lv_at hl 0 rfl) ?_
        refine xg_NetWires_agenda hC hw fl_NetWires_19 d_NetWires_when_24 ?_
        refine lv_aload_n hx hb d_NetWires_when_27 rfl (lv_at hl 0 rfl) ?_
        refine xg_NetWires_agenda hC hw fl_NetWires_19 d_NetWires_when_28 ?_
        refine lv_iload_n hx hb d_NetWires_when_31 rfl (lv_at hl 2 rfl) ?_
        refine lv_if_ne (tgt := 40) hx hb d_NetWires_when_32 (by decide) (fun c_32 => ?_) (fun c_32 => ?_)
        · refine lv_bipush (v := 48) hx hb d_NetWires_when_40 (by decide) ?_
          refine lv_iload_n hx hb d_NetWires_when_42 rfl (lv_at hl 1 rfl) ?_
          refine ga_Vi (As := [.int 48, .int ep]) (rest := [.ref (xa_a k 3)]) hC hw (c_Agenda_placeOfTimer l k x 48 ep n h0 _) m_Agenda_placeOfTimer ml_NetWires_203 (ga_recv hw (q0 := 3) rfl rfl) rfl rfl ⟨Nat.le_of_ble_eq_true rfl, Nat.le_of_ble_eq_true rfl⟩ rfl hl.1 rfl (Nat.le_of_ble_eq_true rfl) d_NetWires_when_43 ⟨Nat.le_of_ble_eq_true rfl, Nat.le_of_ble_eq_true rfl⟩ (fun r u H locs hp hw => ?_)
          obtain ⟨rfl, hp⟩ := hp
          rcases hp with ⟨rfl, h_43⟩ | ⟨j_43, hj_43, rfl, h_43, g_43⟩
          · refine ga_Vq (As := [.int ((-1))]) (rest := []) hC hw (c_Agenda_at l k x ((-1)) n h0 _) m_Agenda_at ml_NetWires_145 (ga_recv hw (q0 := 3) rfl rfl) rfl rfl ⟨Nat.le_of_ble_eq_true rfl, Nat.le_of_ble_eq_true rfl⟩ rfl hl.1 rfl (Nat.le_of_ble_eq_true rfl) d_NetWires_when_46 ⟨Nat.le_of_ble_eq_true rfl, Nat.le_of_ble_eq_true rfl⟩ (fun r u H locs hp hw => ?_)
            obtain ⟨rfl, hp⟩ := hp
            rcases hp with ⟨rfl, h_46⟩ | ⟨j_46, hj_46, ej_46, rfl⟩
            · refine lv_astore_nN (lv' := [(3, .null), (0, .ref (xa_a k 0)), (1, .int ep), (2, .int wh)]) hx hb d_NetWires_when_49 rfl hl (by decide) rfl (fun ls hl => ?_)
              refine lv_aload_nN hx hb d_NetWires_when_50 rfl (lv_at hl 0 rfl) ?_
              refine lv_ifnonnullN hx hb d_NetWires_when_51 ?_
              refine lv_iconst (v := (-1)) hx hb d_NetWires_when_54 (by decide) ?_
              refine lv_goto (tgt := 62) hx hb d_NetWires_when_55 (by decide) ?_
              exact vx_ret (ga_iret (u := x) hC hr hlocks hw ⟨⟨h_1, g_1⟩, rfl, 48, Or.inr ⟨c_10, rfl⟩, Or.inl ⟨rfl, h_43⟩⟩ (Nat.le_of_ble_eq_true rfl) (Nat.le_of_ble_eq_true rfl) d_NetWires_when_62)
            · exact absurd ej_46 (xa_m1 (by have := h0.2.1; omega))
          · refine ga_Vq (As := [.int (nI j_43)]) (rest := []) hC hw (c_Agenda_at l k x (nI j_43) n h0 _) m_Agenda_at ml_NetWires_145 (ga_recv hw (q0 := 3) rfl rfl) rfl rfl ⟨Nat.le_of_ble_eq_true rfl, Nat.le_of_ble_eq_true rfl⟩ rfl hl.1 rfl (Nat.le_of_ble_eq_true rfl) d_NetWires_when_46 ⟨Nat.le_of_ble_eq_true rfl, Nat.le_of_ble_eq_true rfl⟩ (fun r u H locs hp hw => ?_)
            obtain ⟨rfl, hp⟩ := hp
            rcases hp with ⟨rfl, h_46⟩ | ⟨j_46, hj_46, ej_46, rfl⟩
            · exact absurd (xa_nix h0.2.1 h_46 rfl hj_43) id
            · obtain rfl := xa_inj h0.2.1 hj_43 hj_46 ej_46
              refine lv_astore_n (lv' := [(3, .ref (xa_ad x j_43)), (0, .ref (xa_a k 0)), (1, .int ep), (2, .int wh)]) hx hb d_NetWires_when_49 rfl hl (by decide) rfl (fun ls hl => ?_)
              refine lv_aload_n hx hb d_NetWires_when_50 rfl (lv_at hl 0 rfl) ?_
              refine lv_ifnonnull (tgt := 58) hx hb d_NetWires_when_51 (by decide) ?_
              refine lv_aload_n hx hb d_NetWires_when_58 rfl (lv_at hl 0 rfl) ?_
              refine xe_time hC hw (h0.get hj_43).2 fl_NetWires_148 d_NetWires_when_59 ?_
              exact vx_ret (ga_iret (u := x) hC hr hlocks hw ⟨⟨h_1, g_1⟩, rfl, 48, Or.inr ⟨c_10, rfl⟩, Or.inr ⟨j_43, hj_43, h_43, g_43, rfl⟩⟩ (Nat.le_of_ble_eq_true rfl) (Nat.le_of_ble_eq_true rfl) d_NetWires_when_62)
        · exact absurd c_32 c_5
      · exact ga_thIOB (u := x) hst hC hT hlocks hw hl.1 (is := 201) (tx := "no such timer") (by decide +kernel) ⟨rfl, rfl, Or.inr ⟨c_5, c_10⟩⟩ d_NetWires_when_13 d_NetWires_when_16 d_NetWires_when_17 d_NetWires_when_19 d_NetWires_when_22 (Nat.le_of_ble_eq_true rfl) (Nat.le_of_ble_eq_true rfl) (Nat.le_of_ble_eq_true rfl) (Nat.le_of_ble_eq_true rfl) (Nat.le_of_ble_eq_true rfl) (Nat.le_of_ble_eq_true rfl)

set_option maxHeartbeats 4000000 in
set_option maxRecDepth 100000 in
theorem c_NetWires_message (l : Launch) (k : xa_k) (x : XS) (k9 wh : Int32) (n : Nat) (bl : Nat → Nat) (bf : Nat → Nat → Int32) (h0 : xa_R0 x n) (hBs : ∀ j, j < n → xa_isB k (xa_P x) (xa_b (xa_P x) (xa_ad x j)) (bl j) (bf j)) (sz : Nat) : Met l y_NetWires_message (Cond.code y_NetWires_message b_NetWires_message 4 (some .int) :: ga_T) ({ frames := 2, cells := 0, slots := 0, locals := 45 }) (va_Pc [.ref (xa_a k 0), .int k9, .int wh] (ga_pre (xa_K k) (xa_W k x) sz)) (va_Qi (fun (r : Int32) (u : XS) => x = u ∧ ((r = -1 ∧ xa_nom x n k9) ∨ (∃ j, xa_isM x n k9 j ∧ ((wh = nI 0 ∧ r = xa_at x j 2) ∨ (wh = nI 1 ∧ r = xa_at x j 1) ∨ (wh = nI 2 ∧ r = xa_at x j 3) ∨ (wh = nI 3 ∧ r = xa_at x j 4) ∨ (wh = nI 4 ∧ r = nI (bl j)) ∨ ((wh.toInt < 0 ∨ 4 < wh.toInt) ∧ r = -1))))) (ga_post (xa_K k) (xa_W k x) sz (xa_W k)) (va_A (xa_W k x) sz)) 0 0 (va_A (xa_W k x) sz) := by
  refine ga_Met (by decide) (Nat.le_of_ble_eq_true rfl) ?_
  intro p e s m below meth c hC hr hlocks _ hw ls hl
  have hx := hC.1
  have hb := hC.2.1
  have hl : lv_has ls 4 [(0, .ref (xa_a k 0)), (1, .int k9), (2, .int wh)] := hl
  refine lv_aload_n hx hb d_NetWires_message_0 rfl (lv_at hl 0 rfl) ?_
  refine xg_NetWires_agenda hC hw fl_NetWires_19 d_NetWires_message_1 ?_
  refine lv_aload_n hx hb d_NetWires_message_4 rfl (lv_at hl 0 rfl) ?_
  refine xg_NetWires_agenda hC hw fl_NetWires_19 d_NetWires_message_5 ?_
  refine lv_iload_n hx hb d_NetWires_message_8 rfl (lv_at hl 1 rfl) ?_
  refine ga_Vi (As := [.int k9]) (rest := [.ref (xa_a k 3)]) hC hw (c_Agenda_placeOfMessage l k x k9 n h0 _) m_Agenda_placeOfMessage ml_NetWires_171 (ga_recv hw (q0 := 3) rfl rfl) rfl rfl ⟨Nat.le_of_ble_eq_true rfl, Nat.le_of_ble_eq_true rfl⟩ rfl hl.1 rfl (Nat.le_of_ble_eq_true rfl) d_NetWires_message_9 ⟨Nat.le_of_ble_eq_true rfl, Nat.le_of_ble_eq_true rfl⟩ (fun r u H locs hp hw => ?_)
  obtain ⟨rfl, hp⟩ := hp
  rcases hp with ⟨rfl, h_9⟩ | ⟨j_9, hj_9, rfl, h_9, g_9⟩
  · refine ga_Vq (As := [.int ((-1))]) (rest := []) hC hw (c_Agenda_at l k x ((-1)) n h0 _) m_Agenda_at ml_NetWires_145 (ga_recv hw (q0 := 3) rfl rfl) rfl rfl ⟨Nat.le_of_ble_eq_true rfl, Nat.le_of_ble_eq_true rfl⟩ rfl hl.1 rfl (Nat.le_of_ble_eq_true rfl) d_NetWires_message_12 ⟨Nat.le_of_ble_eq_true rfl, Nat.le_of_ble_eq_true rfl⟩ (fun r u H locs hp hw => ?_)
    obtain ⟨rfl, hp⟩ := hp
    rcases hp with ⟨rfl, h_12⟩ | ⟨j_12, hj_12, ej_12, rfl⟩
    · refine lv_astore_nN (lv' := [(3, .null), (0, .ref (xa_a k 0)), (1, .int k9), (2, .int wh)]) hx hb d_NetWires_message_15 rfl hl (by decide) rfl (fun ls hl => ?_)
      refine lv_aload_nN hx hb d_NetWires_message_16 rfl (lv_at hl 0 rfl) ?_
      refine lv_ifnonnullN hx hb d_NetWires_message_17 ?_
      refine lv_iconst (v := (-1)) hx hb d_NetWires_message_20 (by decide) ?_
      exact ga_iret (u := x) hC hr hlocks hw ⟨rfl, Or.inl ⟨rfl, h_9⟩⟩ (Nat.le_of_ble_eq_true rfl) (Nat.le_of_ble_eq_true rfl) d_NetWires_message_21
    · exact absurd ej_12 (xa_m1 (by have := h0.2.1; omega))
  · refine ga_Vq (As := [.int (nI j_9)]) (rest := []) hC hw (c_Agenda_at l k x (nI j_9) n h0 _) m_Agenda_at ml_NetWires_145 (ga_recv hw (q0 := 3) rfl rfl) rfl rfl ⟨Nat.le_of_ble_eq_true rfl, Nat.le_of_ble_eq_true rfl⟩ rfl hl.1 rfl (Nat.le_of_ble_eq_true rfl) d_NetWires_message_12 ⟨Nat.le_of_ble_eq_true rfl, Nat.le_of_ble_eq_true rfl⟩ (fun r u H locs hp hw => ?_)
    obtain ⟨rfl, hp⟩ := hp
    rcases hp with ⟨rfl, h_12⟩ | ⟨j_12, hj_12, ej_12, rfl⟩
    · exact absurd (xa_nix h0.2.1 h_12 rfl hj_9) id
    · obtain rfl := xa_inj h0.2.1 hj_9 hj_12 ej_12
      refine lv_astore_n (lv' := [(3, .ref (xa_ad x j_9)), (0, .ref (xa_a k 0)), (1, .int k9), (2, .int wh)]) hx hb d_NetWires_message_15 rfl hl (by decide) rfl (fun ls hl => ?_)
      refine lv_aload_n hx hb d_NetWires_message_16 rfl (lv_at hl 0 rfl) ?_
      refine lv_ifnonnull (tgt := 22) hx hb d_NetWires_message_17 (by decide) ?_
      refine lv_iload_n hx hb d_NetWires_message_22 rfl (lv_at hl 3 rfl) ?_
      rcases xa_sw 4 (by decide) wh with ⟨j_23, hj_23, e_23⟩ | h_23
      · rcases (show j_23 = 0 ∨ j_23 = 1 ∨ j_23 = 2 ∨ j_23 = 3 ∨ j_23 = 4 by omega) with rfl | rfl | rfl | rfl | rfl
        · refine ga_asi (v := nI 0) e_23 ?_
          refine lv_tableIn (off := 33) (tgt := 56) hx hb d_NetWires_message_23 (by decide) (by decide) rfl (by decide) ?_
          refine lv_aload_n hx hb d_NetWires_message_56 rfl (lv_at hl 0 rfl) ?_
          refine xe_from hC hw (h0.get hj_9).2 fl_NetWires_175 d_NetWires_message_57 ?_
          exact ga_iret (u := x) hC hr hlocks hw ⟨rfl, Or.inr ⟨j_9, ⟨hj_9, h_9, g_9⟩, Or.inl ⟨e_23, rfl⟩⟩⟩ (Nat.le_of_ble_eq_true rfl) (Nat.le_of_ble_eq_true rfl) d_NetWires_message_60
        · refine ga_asi (v := nI 1) e_23 ?_
          refine lv_tableIn (off := 38) (tgt := 61) hx hb d_NetWires_message_23 (by decide) (by decide) rfl (by decide) ?_
          refine lv_aload_n hx hb d_NetWires_message_61 rfl (lv_at hl 0 rfl) ?_
          refine xe_endpoint hC hw (h0.get hj_9).2 fl_NetWires_178 d_NetWires_message_62 ?_
          exact ga_iret (u := x) hC hr hlocks hw ⟨rfl, Or.inr ⟨j_9, ⟨hj_9, h_9, g_9⟩, Or.inr (Or.inl ⟨e_23, rfl⟩)⟩⟩ (Nat.le_of_ble_eq_true rfl) (Nat.le_of_ble_eq_true rfl) d_NetWires_message_65
        · refine ga_asi (v := nI 2) e_23 ?_
          refine lv_tableIn (off := 43) (tgt := 66) hx hb d_NetWires_message_23 (by decide) (by decide) rfl (by decide) ?_
          refine lv_aload_n hx hb d_NetWires_message_66 rfl (lv_at hl 0 rfl) ?_
          refine xe_time hC hw (h0.get hj_9).2 fl_NetWires_148 d_NetWires_message_67 ?_
          exact ga_iret (u := x) hC hr hlocks hw ⟨rfl, Or.inr ⟨j_9, ⟨hj_9, h_9, g_9⟩, Or.inr (Or.inr (Or.inl ⟨e_23, rfl⟩))⟩⟩ (Nat.le_of_ble_eq_true rfl) (Nat.le_of_ble_eq_true rfl) d_NetWires_message_70
        · refine ga_asi (v := nI 3) e_23 ?_
          refine lv_tableIn (off := 48) (tgt := 71) hx hb d_NetWires_message_23 (by decide) (by decide) rfl (by decide) ?_
          refine lv_aload_n hx hb d_NetWires_message_71 rfl (lv_at hl 0 rfl) ?_
          refine xe_number hC hw (h0.get hj_9).2 fl_NetWires_188 d_NetWires_message_72 ?_
          exact ga_iret (u := x) hC hr hlocks hw ⟨rfl, Or.inr ⟨j_9, ⟨hj_9, h_9, g_9⟩, Or.inr (Or.inr (Or.inr (Or.inl ⟨e_23, rfl⟩)))⟩⟩ (Nat.le_of_ble_eq_true rfl) (Nat.le_of_ble_eq_true rfl) d_NetWires_message_75
        · refine ga_asi (v := nI 4) e_23 ?_
          refine lv_tableIn (off := 53) (tgt := 76) hx hb d_NetWires_message_23 (by decide) (by decide) rfl (by decide) ?_
          refine lv_aload_n hx hb d_NetWires_message_76 rfl (lv_at hl 0 rfl) ?_
          refine xe_bytes hC hw (h0.get hj_9).2 fl_NetWires_181 d_NetWires_message_77 ?_
          refine xr_len (v := nI (bl j_9)) hC hw (hBs j_9 hj_9) d_NetWires_message_80 rfl ?_
          exact ga_iret (u := x) hC hr hlocks hw ⟨rfl, Or.inr ⟨j_9, ⟨hj_9, h_9, g_9⟩, Or.inr (Or.inr (Or.inr (Or.inr (Or.inl ⟨e_23, rfl⟩))))⟩⟩ (Nat.le_of_ble_eq_true rfl) (Nat.le_of_ble_eq_true rfl) d_NetWires_message_81
      · refine lv_tableOut (tgt := 82) hx hb d_NetWires_message_23 h_23 (by decide) ?_
        refine lv_iconst (v := (-1)) hx hb d_NetWires_message_82 (by decide) ?_
        exact ga_iret (u := x) hC hr hlocks hw ⟨rfl, Or.inr ⟨j_9, ⟨hj_9, h_9, g_9⟩, Or.inr (Or.inr (Or.inr (Or.inr (Or.inr (⟨h_23, rfl⟩)))))⟩⟩ (Nat.le_of_ble_eq_true rfl) (Nat.le_of_ble_eq_true rfl) d_NetWires_message_83

set_option maxHeartbeats 4000000 in
set_option maxRecDepth 100000 in
theorem c_NetWires_messageAt (l : Launch) (k : xa_k) (hst : l.stackTraces = false) (x : XS) (k9 i9 : Int32) (n : Nat) (bl : Nat → Nat) (bf : Nat → Nat → Int32) (h0 : xa_R0 x n) (hBs : ∀ j, j < n → xa_isB k (xa_P x) (xa_b (xa_P x) (xa_ad x j)) (bl j) (bf j)) (hbl : ∀ j, j < n → bl j < 4000) (sz : Nat) : vx_Met l y_NetWires_messageAt (Cond.code y_NetWires_messageAt b_NetWires_messageAt 4 (some .int) :: ga_T) ({ frames := 6, cells := 1, slots := 6, locals := 82 }) (va_Pc [.ref (xa_a k 0), .int k9, .int i9] (ga_pre (xa_K k) (xa_W k x) sz)) (va_Qi (fun (r : Int32) (u : XS) => x = u ∧ ∃ j i, xa_isM x n k9 j ∧ i < bl j ∧ i9 = nI i ∧ r = bf j i &&& 255) (ga_post (xa_K k) (xa_W k x) sz (xa_W k)) (va_A (xa_W k x) sz)) (ga_XC (xa_K k) (xa_W k x) sz (xa_W k) (fun E u => E = ga_IOB ∧ x = u ∧ (xa_nom x n k9 ∨ ∃ j, xa_isM x n k9 j ∧ (i9 < 0 ∨ nI (bl j) ≤ i9)))) 1 6 (va_A (xa_W k x) sz) := by
  refine ga_MetX (by decide) (Nat.le_of_ble_eq_true rfl) ?_
  intro p e s m below meth c hC hr hlocks hT hw ls hl
  have hx := hC.1
  have hb := hC.2.1
  have hl : lv_has ls 4 [(0, .ref (xa_a k 0)), (1, .int k9), (2, .int i9)] := hl
  refine lv_aload_n hx hb d_NetWires_messageAt_0 rfl (lv_at hl 0 rfl) ?_
  refine xg_NetWires_agenda hC hw fl_NetWires_19 d_NetWires_messageAt_1 ?_
  refine lv_aload_n hx hb d_NetWires_messageAt_4 rfl (lv_at hl 0 rfl) ?_
  refine xg_NetWires_agenda hC hw fl_NetWires_19 d_NetWires_messageAt_5 ?_
  refine lv_iload_n hx hb d_NetWires_messageAt_8 rfl (lv_at hl 1 rfl) ?_
  refine ga_Vi (As := [.int k9]) (rest := [.ref (xa_a k 3)]) hC hw (c_Agenda_placeOfMessage l k x k9 n h0 _) m_Agenda_placeOfMessage ml_NetWires_171 (ga_recv hw (q0 := 3) rfl rfl) rfl rfl ⟨Nat.le_of_ble_eq_true rfl, Nat.le_of_ble_eq_true rfl⟩ rfl hl.1 rfl (Nat.le_of_ble_eq_true rfl) d_NetWires_messageAt_9 ⟨Nat.le_of_ble_eq_true rfl, Nat.le_of_ble_eq_true rfl⟩ (fun r u H locs hp hw => ?_)
  obtain ⟨rfl, hp⟩ := hp
  rcases hp with ⟨rfl, h_9⟩ | ⟨j_9, hj_9, rfl, h_9, g_9⟩
  · refine ga_Vq (As := [.int ((-1))]) (rest := []) hC hw (c_Agenda_at l k x ((-1)) n h0 _) m_Agenda_at ml_NetWires_145 (ga_recv hw (q0 := 3) rfl rfl) rfl rfl ⟨Nat.le_of_ble_eq_true rfl, Nat.le_of_ble_eq_true rfl⟩ rfl hl.1 rfl (Nat.le_of_ble_eq_true rfl) d_NetWires_messageAt_12 ⟨Nat.le_of_ble_eq_true rfl, Nat.le_of_ble_eq_true rfl⟩ (fun r u H locs hp hw => ?_)
    obtain ⟨rfl, hp⟩ := hp
    rcases hp with ⟨rfl, h_12⟩ | ⟨j_12, hj_12, ej_12, rfl⟩
    · refine lv_astore_nN (lv' := [(3, .null), (0, .ref (xa_a k 0)), (1, .int k9), (2, .int i9)]) hx hb d_NetWires_messageAt_15 rfl hl (by decide) rfl (fun ls hl => ?_)
      refine lv_aload_nN hx hb d_NetWires_messageAt_16 rfl (lv_at hl 0 rfl) ?_
      refine lv_ifnonnullN hx hb d_NetWires_messageAt_17 ?_
      exact ga_thIOB (u := x) hst hC hT hlocks hw hl.1 (is := 193) (tx := "no such message") (by decide +kernel) ⟨rfl, rfl, Or.inl h_9⟩ d_NetWires_messageAt_20 d_NetWires_messageAt_23 d_NetWires_messageAt_24 d_NetWires_messageAt_26 d_NetWires_messageAt_29 (Nat.le_of_ble_eq_true rfl) (Nat.le_of_ble_eq_true rfl) (Nat.le_of_ble_eq_true rfl) (Nat.le_of_ble_eq_true rfl) (Nat.le_of_ble_eq_true rfl) (Nat.le_of_ble_eq_true rfl)
    · exact absurd ej_12 (xa_m1 (by have := h0.2.1; omega))
  · refine ga_Vq (As := [.int (nI j_9)]) (rest := []) hC hw (c_Agenda_at l k x (nI j_9) n h0 _) m_Agenda_at ml_NetWires_145 (ga_recv hw (q0 := 3) rfl rfl) rfl rfl ⟨Nat.le_of_ble_eq_true rfl, Nat.le_of_ble_eq_true rfl⟩ rfl hl.1 rfl (Nat.le_of_ble_eq_true rfl) d_NetWires_messageAt_12 ⟨Nat.le_of_ble_eq_true rfl, Nat.le_of_ble_eq_true rfl⟩ (fun r u H locs hp hw => ?_)
    obtain ⟨rfl, hp⟩ := hp
    rcases hp with ⟨rfl, h_12⟩ | ⟨j_12, hj_12, ej_12, rfl⟩
    · exact absurd (xa_nix h0.2.1 h_12 rfl hj_9) id
    · obtain rfl := xa_inj h0.2.1 hj_9 hj_12 ej_12
      refine lv_astore_n (lv' := [(3, .ref (xa_ad x j_9)), (0, .ref (xa_a k 0)), (1, .int k9), (2, .int i9)]) hx hb d_NetWires_messageAt_15 rfl hl (by decide) rfl (fun ls hl => ?_)
      refine lv_aload_n hx hb d_NetWires_messageAt_16 rfl (lv_at hl 0 rfl) ?_
      refine lv_ifnonnull (tgt := 30) hx hb d_NetWires_messageAt_17 (by decide) ?_
      refine lv_iload_n hx hb d_NetWires_messageAt_30 rfl (lv_at hl 3 rfl) ?_
      refine lv_if_lt (tgt := 43) hx hb d_NetWires_messageAt_31 (by decide) (fun c_31 => ?_) (fun c_31 => ?_)
      · exact ga_thIOB (u := x) hst hC hT hlocks hw hl.1 (is := 196) (tx := "no such byte") (by decide +kernel) ⟨rfl, rfl, Or.inr ⟨j_9, ⟨hj_9, h_9, g_9⟩, Or.inl c_31⟩⟩ d_NetWires_messageAt_43 d_NetWires_messageAt_46 d_NetWires_messageAt_47 d_NetWires_messageAt_49 d_NetWires_messageAt_52 (Nat.le_of_ble_eq_true rfl) (Nat.le_of_ble_eq_true rfl) (Nat.le_of_ble_eq_true rfl) (Nat.le_of_ble_eq_true rfl) (Nat.le_of_ble_eq_true rfl) (Nat.le_of_ble_eq_true rfl)
      · refine lv_iload_n hx hb d_NetWires_messageAt_34 rfl (lv_at hl 3 rfl) ?_
        refine lv_aload_n hx hb d_NetWires_messageAt_35 rfl (lv_at hl 0 rfl) ?_
        refine xe_bytes hC hw (h0.get hj_9).2 fl_NetWires_181 d_NetWires_messageAt_36 ?_
        refine xr_len (v := nI (bl j_9)) hC hw (hBs j_9 hj_9) d_NetWires_messageAt_39 rfl ?_
        refine lv_icmp_lt (tgt := 53) hx hb d_NetWires_messageAt_40 (by decide) (fun c_40 => ?_) (fun c_40 => ?_)
        · obtain ⟨i, hi, ei⟩ := xa_ix2 (n := bl j_9) (by have := hbl j_9 hj_9; omega) c_31 c_40
          refine lv_aload_n hx hb d_NetWires_messageAt_53 rfl (lv_at hl 0 rfl) ?_
          refine xe_bytes hC hw (h0.get hj_9).2 fl_NetWires_181 d_NetWires_messageAt_54 ?_
          refine lv_iload_n hx hb d_NetWires_messageAt_57 rfl (lv_at hl 3 rfl) ?_
          refine xr_byte (v := (bf j_9) i9.toNatClampNeg) hC hw (hBs j_9 hj_9) (by rw [ei]; exact vp_in_nI hi (by have := hbl j_9 hj_9; omega)) d_NetWires_messageAt_58 rfl ?_
          refine lv_sipush (v := 255) hx hb d_NetWires_messageAt_59 (by decide) ?_
          refine lv_iand hx hb d_NetWires_messageAt_62 ?_
          exact vx_ret (ga_iret (u := x) hC hr hlocks hw ⟨rfl, j_9, i, ⟨hj_9, h_9, g_9⟩, hi, ei, by rw [ei, nI_clamp (by have := hbl j_9 hj_9; omega)]⟩ (Nat.le_of_ble_eq_true rfl) (Nat.le_of_ble_eq_true rfl) d_NetWires_messageAt_63)
        · exact ga_thIOB (u := x) hst hC hT hlocks hw hl.1 (is := 196) (tx := "no such byte") (by decide +kernel) ⟨rfl, rfl, Or.inr ⟨j_9, ⟨hj_9, h_9, g_9⟩, Or.inr (Int32.not_lt.mp c_40)⟩⟩ d_NetWires_messageAt_43 d_NetWires_messageAt_46 d_NetWires_messageAt_47 d_NetWires_messageAt_49 d_NetWires_messageAt_52 (Nat.le_of_ble_eq_true rfl) (Nat.le_of_ble_eq_true rfl) (Nat.le_of_ble_eq_true rfl) (Nat.le_of_ble_eq_true rfl) (Nat.le_of_ble_eq_true rfl) (Nat.le_of_ble_eq_true rfl)

set_option maxHeartbeats 4000000 in
set_option maxRecDepth 100000 in
theorem c_NetWires_meddle (l : Launch) (k : xa_k) (hst : l.stackTraces = false) (x : XS) (k9 wh ti : Int32) (n : Nat) (h0 : xa_R0 x n) (hep : ∀ j, j < n → xa_at x j 0 = 0 → ∃ a9 b9, a9 < 16 ∧ xa_at x j 2 = nI a9 ∧ b9 < 16 ∧ xa_at x j 1 = nI b9) (hn : x.1 8 < 200 → n < 232) (sz : Nat) : vx_Met l y_NetWires_meddle (Cond.code y_NetWires_meddle b_NetWires_meddle 6 (some .boolean) :: ga_T) ({ frames := 6, cells := 1, slots := 6, locals := 114 }) (va_Pc [.ref (xa_a k 0), .int k9, .int wh, .int ti] (ga_pre (xa_K k) (xa_W k x) sz)) (va_Qi (fun (r : Int32) (u : XS) => ((wh = 2 ∧ ¬ ti < 0 ∧ ¬ 1000 < ti) ∨ ((wh = 0 ∨ wh = 1) ∧ ti = 0)) ∧ ((r = 0 ∧ x = u ∧ xa_nom x n k9) ∨ (r = 1 ∧ ∃ j, xa_isM x n k9 j ∧ ((wh = 1 ∧ ∃ a9 b9 r2, a9 < 16 ∧ xa_at x j 2 = nI a9 ∧ b9 < 16 ∧ xa_at x j 1 = nI b9 ∧ xa_lau x n a9 b9 (xa_at x j 2) (xa_at x j 1) 0 (xa_b (xa_P x) (xa_ad x j)) r2 u) ∨ (wh = 0 ∧ u = xa_sI (xa_take x n j) 5 ((xa_take x n j).1 5 + 1)) ∨ (wh = 2 ∧ xa_addP (xa_take x n j) (n - 1) (xa_at x j 2) (xa_at x j 1) (xa_at x j 3 + ti) (xa_b (xa_P x) (xa_ad x j)) u))))) (ga_post (xa_K k) (xa_W k x) sz (xa_W k)) (va_A (xa_W k x) sz)) (ga_XC (xa_K k) (xa_W k x) sz (xa_W k) (fun E u => E = ga_IAE ∧ x = u ∧ ¬ ((wh = 2 ∧ ¬ ti < 0 ∧ ¬ 1000 < ti) ∨ ((wh = 0 ∨ wh = 1) ∧ ti = 0)))) 1 6 (va_A (xa_W k x) sz) := by
  refine ga_MetX (by decide) (Nat.le_of_ble_eq_true rfl) ?_
  intro p e s m below meth c hC hr hlocks hT hw ls hl
  have hx := hC.1
  have hb := hC.2.1
  have hl : lv_has ls 6 [(0, .ref (xa_a k 0)), (1, .int k9), (2, .int wh), (3, .int ti)] := hl
  refine lv_iload_n hx hb d_NetWires_meddle_0 rfl (lv_at hl 2 rfl) ?_
  refine lv_iload_n hx hb d_NetWires_meddle_1 rfl (lv_at hl 3 rfl) ?_
  refine ga_Si (As := [.int wh, .int ti]) (rest := []) hC hw (c_NetWires_canMeddle l k x wh ti _) m_NetWires_canMeddle ml_NetWires_166 rfl rfl ⟨Nat.le_of_ble_eq_true rfl, Nat.le_of_ble_eq_true rfl⟩ rfl hl.1 rfl (Nat.le_of_ble_eq_true rfl) d_NetWires_meddle_2 ⟨Nat.le_of_ble_eq_true rfl, Nat.le_of_ble_eq_true rfl⟩ (fun r u H locs hp hw => ?_)
  obtain ⟨rfl, hp⟩ := hp
  rcases hp with ⟨rfl, h_2⟩ | ⟨rfl, h_2⟩
  · refine lv_if_ne (tgt := 18) hx hb d_NetWires_meddle_5 (by decide) (fun c_5 => ?_) (fun c_5 => ?_)
    · refine lv_aload_n hx hb d_NetWires_meddle_18 rfl (lv_at hl 0 rfl) ?_
      refine xg_NetWires_agenda hC hw fl_NetWires_19 d_NetWires_meddle_19 ?_
      refine lv_iload_n hx hb d_NetWires_meddle_22 rfl (lv_at hl 1 rfl) ?_
      refine ga_Vi (As := [.int k9]) (rest := []) hC hw (c_Agenda_placeOfMessage l k x k9 n h0 _) m_Agenda_placeOfMessage ml_NetWires_171 (ga_recv hw (q0 := 3) rfl rfl) rfl rfl ⟨Nat.le_of_ble_eq_true rfl, Nat.le_of_ble_eq_true rfl⟩ rfl hl.1 rfl (Nat.le_of_ble_eq_true rfl) d_NetWires_meddle_23 ⟨Nat.le_of_ble_eq_true rfl, Nat.le_of_ble_eq_true rfl⟩ (fun r u H locs hp hw => ?_)
      obtain ⟨rfl, hp⟩ := hp
      rcases hp with ⟨rfl, h_23⟩ | ⟨j_23, hj_23, rfl, h_23, g_23⟩
      · refine lv_istore (lv' := [(4, .int ((-1))), (0, .ref (xa_a k 0)), (1, .int k9), (2, .int wh), (3, .int ti)]) hx hb d_NetWires_meddle_26 hl (by decide) rfl (fun ls hl => ?_)
        refine lv_aload_n hx hb d_NetWires_meddle_28 rfl (lv_at hl 1 rfl) ?_
        refine xg_NetWires_agenda hC hw fl_NetWires_19 d_NetWires_meddle_29 ?_
        refine lv_iload hx hb d_NetWires_meddle_32 (lv_at hl 0 rfl) ?_
        refine ga_Vq (As := [.int ((-1))]) (rest := []) hC hw (c_Agenda_at l k x ((-1)) n h0 _) m_Agenda_at ml_NetWires_145 (ga_recv hw (q0 := 3) rfl rfl) rfl rfl ⟨Nat.le_of_ble_eq_true rfl, Nat.le_of_ble_eq_true rfl⟩ rfl hl.1 rfl (Nat.le_of_ble_eq_true rfl) d_NetWires_meddle_34 ⟨Nat.le_of_ble_eq_true rfl, Nat.le_of_ble_eq_true rfl⟩ (fun r u H locs hp hw => ?_)
        obtain ⟨rfl, hp⟩ := hp
        rcases hp with ⟨rfl, h_34⟩ | ⟨j_34, hj_34, ej_34, rfl⟩
        · refine lv_astoreN (lv' := [(5, .null), (4, .int ((-1))), (0, .ref (xa_a k 0)), (1, .int k9), (2, .int wh), (3, .int ti)]) hx hb d_NetWires_meddle_37 hl (by decide) rfl (fun ls hl => ?_)
          refine lv_aloadN hx hb d_NetWires_meddle_39 (lv_at hl 0 rfl) ?_
          refine lv_ifnonnullN hx hb d_NetWires_meddle_41 ?_
          refine lv_iconst (v := 0) hx hb d_NetWires_meddle_44 (by decide) ?_
          exact vx_ret (ga_zret (u := x) hC hr hlocks hw (Or.inl rfl) ⟨h_2, Or.inl ⟨rfl, rfl, h_23⟩⟩ (Nat.le_of_ble_eq_true rfl) (Nat.le_of_ble_eq_true rfl) d_NetWires_meddle_45)
        · exact absurd ej_34 (xa_m1 (by have := h0.2.1; omega))
      · refine lv_istore (lv' := [(4, .int (nI j_23)), (0, .ref (xa_a k 0)), (1, .int k9), (2, .int wh), (3, .int ti)]) hx hb d_NetWires_meddle_26 hl (by decide) rfl (fun ls hl => ?_)
        refine lv_aload_n hx hb d_NetWires_meddle_28 rfl (lv_at hl 1 rfl) ?_
        refine xg_NetWires_agenda hC hw fl_NetWires_19 d_NetWires_meddle_29 ?_
        refine lv_iload hx hb d_NetWires_meddle_32 (lv_at hl 0 rfl) ?_
        refine ga_Vq (As := [.int (nI j_23)]) (rest := []) hC hw (c_Agenda_at l k x (nI j_23) n h0 _) m_Agenda_at ml_NetWires_145 (ga_recv hw (q0 := 3) rfl rfl) rfl rfl ⟨Nat.le_of_ble_eq_true rfl, Nat.le_of_ble_eq_true rfl⟩ rfl hl.1 rfl (Nat.le_of_ble_eq_true rfl) d_NetWires_meddle_34 ⟨Nat.le_of_ble_eq_true rfl, Nat.le_of_ble_eq_true rfl⟩ (fun r u H locs hp hw => ?_)
        obtain ⟨rfl, hp⟩ := hp
        rcases hp with ⟨rfl, h_34⟩ | ⟨j_34, hj_34, ej_34, rfl⟩
        · exact absurd (xa_nix h0.2.1 h_34 rfl hj_23) id
        · obtain rfl := xa_inj h0.2.1 hj_23 hj_34 ej_34
          refine lv_astore (lv' := [(5, .ref (xa_ad x j_23)), (4, .int (nI j_23)), (0, .ref (xa_a k 0)), (1, .int k9), (2, .int wh), (3, .int ti)]) hx hb d_NetWires_meddle_37 hl (by decide) rfl (fun ls hl => ?_)
          refine lv_aload hx hb d_NetWires_meddle_39 (lv_at hl 0 rfl) ?_
          refine lv_ifnonnull (tgt := 46) hx hb d_NetWires_meddle_41 (by decide) ?_
          refine lv_iload_n hx hb d_NetWires_meddle_46 rfl (lv_at hl 4 rfl) ?_
          refine lv_iconst (v := 1) hx hb d_NetWires_meddle_47 (by decide) ?_
          refine lv_icmp_ne (tgt := 74) hx hb d_NetWires_meddle_48 (by decide) (fun c_48 => ?_) (fun c_48 => ?_)
          · refine lv_aload_n hx hb d_NetWires_meddle_74 rfl (lv_at hl 2 rfl) ?_
            refine xg_NetWires_agenda hC hw fl_NetWires_19 d_NetWires_meddle_75 ?_
            refine lv_iload hx hb d_NetWires_meddle_78 (lv_at hl 1 rfl) ?_
            refine ga_Vq (As := [.int (nI j_23)]) (rest := []) hC hw (c_Agenda_takeAt l k x (nI j_23) n h0 _) m_Agenda_takeAt ml_NetWires_132 (ga_recv hw (q0 := 3) rfl rfl) rfl rfl ⟨Nat.le_of_ble_eq_true rfl, Nat.le_of_ble_eq_true rfl⟩ rfl hl.1 rfl (Nat.le_of_ble_eq_true rfl) d_NetWires_meddle_80 ⟨Nat.le_of_ble_eq_true rfl, Nat.le_of_ble_eq_true rfl⟩ (fun r u H locs hp hw => ?_)
            rcases hp with ⟨rfl, rfl, h_80⟩ | ⟨j_80, hj_80, ej_80, rfl, rfl⟩
            · exact absurd (xa_nix h0.2.1 h_80 rfl hj_23) id
            · obtain rfl := xa_inj h0.2.1 hj_23 hj_80 ej_80
              have hE9 : xa_isE (xa_P (xa_take x n j_23)) (xa_ad x j_23) (xa_v (xa_P x) (xa_ad x j_23)) (xa_b (xa_P x) (xa_ad x j_23)) := by rw [xa_take_P]; exact (h0.get hj_23).2
              refine lv_pop hx hb d_NetWires_meddle_83 rfl ?_
              refine lv_iload_n hx hb d_NetWires_meddle_84 rfl (lv_at hl 4 rfl) ?_
              refine lv_if_ne (tgt := 101) hx hb d_NetWires_meddle_85 (by decide) (fun c_85 => ?_) (fun c_85 => ?_)
              · refine lv_aload_n hx hb d_NetWires_meddle_101 rfl (lv_at hl 2 rfl) ?_
                refine lv_aload hx hb d_NetWires_meddle_102 (lv_at hl 0 rfl) ?_
                refine xe_from hC hw hE9 fl_NetWires_175 d_NetWires_meddle_104 ?_
                refine lv_aload hx hb d_NetWires_meddle_107 (lv_at hl 0 rfl) ?_
                refine xe_endpoint hC hw hE9 fl_NetWires_178 d_NetWires_meddle_109 ?_
                refine lv_aload hx hb d_NetWires_meddle_112 (lv_at hl 0 rfl) ?_
                refine xe_time hC hw hE9 fl_NetWires_148 d_NetWires_meddle_114 ?_
                refine lv_iload_n hx hb d_NetWires_meddle_117 rfl (lv_at hl 5 rfl) ?_
                refine lv_iadd hx hb d_NetWires_meddle_118 ?_
                refine lv_aload hx hb d_NetWires_meddle_119 (lv_at hl 0 rfl) ?_
                refine xe_bytes hC hw hE9 fl_NetWires_181 d_NetWires_meddle_121 ?_
                refine ga_Vv (As := [.int (xa_v (xa_P x) (xa_ad x j_23) 2), .int (xa_v (xa_P x) (xa_ad x j_23) 1), .int ((xa_v (xa_P x) (xa_ad x j_23) 3) + ti), .ref (xa_b (xa_P x) (xa_ad x j_23))]) (rest := []) hC hw (c_NetWires_addMessage l k (xa_take x n j_23) (xa_v (xa_P x) (xa_ad x j_23) 2) (xa_v (xa_P x) (xa_ad x j_23) 1) ((xa_v (xa_P x) (xa_ad x j_23) 3) + ti) (xa_b (xa_P x) (xa_ad x j_23)) (n - 1) (h0.take hj_23) (by have := h0.2.1; omega) _) m_NetWires_addMessage ml_NetWires_184 (ga_recv hw (q0 := 0) rfl rfl) rfl rfl ⟨Nat.le_of_ble_eq_true rfl, Nat.le_of_ble_eq_true rfl⟩ rfl hl.1 rfl (Nat.le_of_ble_eq_true rfl) d_NetWires_meddle_124 ⟨Nat.le_of_ble_eq_true rfl, Nat.le_of_ble_eq_true rfl⟩ (fun u H locs hp hw => ?_)
                have hp_124 := hp
                refine lv_iconst (v := 1) hx hb d_NetWires_meddle_127 (by decide) ?_
                exact vx_ret (ga_zret (u := u) hC hr hlocks hw (Or.inr rfl) ⟨h_2, Or.inr ⟨rfl, j_23, ⟨hj_23, h_23, g_23⟩, Or.inr (Or.inr ⟨h_2.elim (fun h => h.1) (fun h => absurd h.1 (fun h3 => h3.elim c_85 c_48)), hp_124⟩)⟩⟩ (Nat.le_of_ble_eq_true rfl) (Nat.le_of_ble_eq_true rfl) d_NetWires_meddle_128)
              · refine lv_aload_n hx hb d_NetWires_meddle_88 rfl (lv_at hl 2 rfl) ?_
                refine lv_dup hx hb d_NetWires_meddle_89 rfl ?_
                refine xg_NetWires_lost (v := (xa_take x n j_23).1 5) hC hw fl_NetWires_63 d_NetWires_meddle_90 rfl ?_
                refine lv_iconst (v := 1) hx hb d_NetWires_meddle_93 (by decide) ?_
                refine lv_iadd hx hb d_NetWires_meddle_94 ?_
                refine xp_NetWires_lost hC hw fl_NetWires_63 d_NetWires_meddle_95 (fun H locs hw => ?_)
                refine lv_goto (tgt := 127) hx hb d_NetWires_meddle_98 (by decide) ?_
                refine lv_iconst (v := 1) hx hb d_NetWires_meddle_127 (by decide) ?_
                exact vx_ret (ga_zret (u := xa_sI (xa_take x n j_23) 5 (((xa_take x n j_23).1 5) + 1)) hC hr hlocks hw (Or.inr rfl) ⟨h_2, Or.inr ⟨rfl, j_23, ⟨hj_23, h_23, g_23⟩, Or.inr (Or.inl ⟨c_85, rfl⟩)⟩⟩ (Nat.le_of_ble_eq_true rfl) (Nat.le_of_ble_eq_true rfl) d_NetWires_meddle_128)
          · obtain ⟨a9, b9, ha9, ea9, hb9, eb9⟩ := hep j_23 hj_23 h_23
            refine lv_aload_n hx hb d_NetWires_meddle_51 rfl (lv_at hl 2 rfl) ?_
            refine lv_aload hx hb d_NetWires_meddle_52 (lv_at hl 0 rfl) ?_
            refine xe_from hC hw (h0.get hj_23).2 fl_NetWires_175 d_NetWires_meddle_54 ?_
            refine lv_aload hx hb d_NetWires_meddle_57 (lv_at hl 0 rfl) ?_
            refine xe_endpoint hC hw (h0.get hj_23).2 fl_NetWires_178 d_NetWires_meddle_59 ?_
            refine lv_iconst (v := 0) hx hb d_NetWires_meddle_62 (by decide) ?_
            refine lv_aload hx hb d_NetWires_meddle_63 (lv_at hl 0 rfl) ?_
            refine xe_bytes hC hw (h0.get hj_23).2 fl_NetWires_181 d_NetWires_meddle_65 ?_
            refine ga_Vi (As := [.int (xa_v (xa_P x) (xa_ad x j_23) 2), .int (xa_v (xa_P x) (xa_ad x j_23) 1), .int 0, .ref (xa_b (xa_P x) (xa_ad x j_23))]) (rest := []) hC hw (c_NetWires_launch l k x (xa_v (xa_P x) (xa_ad x j_23) 2) (xa_v (xa_P x) (xa_ad x j_23) 1) 0 (xa_b (xa_P x) (xa_ad x j_23)) n a9 b9 h0 ea9 ha9 eb9 hb9 hn _) m_NetWires_launch ml_NetWires_116 (ga_recv hw (q0 := 0) rfl rfl) rfl rfl ⟨Nat.le_of_ble_eq_true rfl, Nat.le_of_ble_eq_true rfl⟩ rfl hl.1 rfl (Nat.le_of_ble_eq_true rfl) d_NetWires_meddle_68 ⟨Nat.le_of_ble_eq_true rfl, Nat.le_of_ble_eq_true rfl⟩ (fun r u H locs hp hw => ?_)
            have hp_68 := hp
            refine lv_pop hx hb d_NetWires_meddle_71 rfl ?_
            refine lv_iconst (v := 1) hx hb d_NetWires_meddle_72 (by decide) ?_
            exact vx_ret (ga_zret (u := u) hC hr hlocks hw (Or.inr rfl) ⟨h_2, Or.inr ⟨rfl, j_23, ⟨hj_23, h_23, g_23⟩, Or.inl ⟨c_48, a9, b9, _, ha9, ea9, hb9, eb9, hp_68⟩⟩⟩ (Nat.le_of_ble_eq_true rfl) (Nat.le_of_ble_eq_true rfl) d_NetWires_meddle_73)
    · exact absurd c_5 (by decide)
  · refine lv_if_ne (tgt := 18) hx hb d_NetWires_meddle_5 (by decide) (fun c_5 => ?_) (fun c_5 => ?_)
    · exact absurd c_5 (by decide)
    · exact ga_thIAE (u := x) hst hC hT hlocks hw hl.1 (is := 169) (tx := "no such meddling") (by decide +kernel) ⟨rfl, rfl, h_2⟩ d_NetWires_meddle_8 d_NetWires_meddle_11 d_NetWires_meddle_12 d_NetWires_meddle_14 d_NetWires_meddle_17 (Nat.le_of_ble_eq_true rfl) (Nat.le_of_ble_eq_true rfl) (Nat.le_of_ble_eq_true rfl) (Nat.le_of_ble_eq_true rfl) (Nat.le_of_ble_eq_true rfl) (Nat.le_of_ble_eq_true rfl)

set_option maxHeartbeats 4000000 in
set_option maxRecDepth 100000 in
theorem c_NetWires_launchThroughNoise (l : Launch) (k : xa_k) (x : XS) (fr to : Int32) (b n i9 j9 sp : Nat) (h0 : xa_R0 x n) (hfr9 : fr = nI i9) (hi9 : i9 < 16) (hto9 : to = nI j9) (hj9 : j9 < 16) (hsp : x.1 14 = nI sp) (hsp2 : sp ≤ 1000) (hn : x.1 8 < 200 → n < 232) (hn2 : x.1 8 + 1 < 200 → n + 1 < 232) (sz : Nat) : Met l y_NetWires_launchThroughNoise (Cond.code y_NetWires_launchThroughNoise b_NetWires_launchThroughNoise 8 (some .int) :: ga_T) ({ frames := 5, cells := 2, slots := 12, locals := 114 }) (va_Pc [.ref (xa_a k 0), .int fr, .int to, .ref b] (ga_pre (xa_K k) (xa_W k x) sz)) (va_Qi (fun (r : Int32) (u : XS) => xa_noi x n i9 j9 sp fr to b r u) (ga_post (xa_K k) (xa_W k x) sz (xa_W k)) (va_A (xa_W k x) sz)) 2 12 (va_A (xa_W k x) sz) := by
  refine ga_Met (by decide) (Nat.le_of_ble_eq_true rfl) ?_
  intro p e s m below meth c hC hr hlocks _ hw ls hl
  have hx := hC.1
  have hb := hC.2.1
  have hl : lv_has ls 8 [(0, .ref (xa_a k 0)), (1, .int fr), (2, .int to), (3, .ref b)] := hl
  refine lv_aload_n hx hb d_NetWires_launchThroughNoise_0 rfl (lv_at hl 0 rfl) ?_
  refine xg_NetWires_disturbance hC hw fl_NetWires_33 d_NetWires_launchThroughNoise_1 ?_
  refine lv_sipush (v := 1000) hx hb d_NetWires_launchThroughNoise_4 (by decide) ?_
  refine ga_Vi (As := [.int 1000]) (rest := []) hC hw (c_Noise_drawBelow l k x 1000 _) m_Noise_drawBelow ml_NetWires_222 (ga_recv hw (q0 := 7) rfl rfl) rfl rfl ⟨Nat.le_of_ble_eq_true rfl, Nat.le_of_ble_eq_true rfl⟩ rfl hl.1 rfl (Nat.le_of_ble_eq_true rfl) d_NetWires_launchThroughNoise_7 ⟨Nat.le_of_ble_eq_true rfl, Nat.le_of_ble_eq_true rfl⟩ (fun r u H locs hp hw => ?_)
  obtain ⟨rfl, hp⟩ := hp
  obtain ⟨d_7, ed_7⟩ : ∃ z, z = xa_lcg (xa_D x) := ⟨_, rfl⟩
  rw [← ed_7] at hw hp
  have f_7 : d_7 = xa_lcg (xa_D x) := ed_7
  have e_7 := xa_drw (by decide) hp
  subst e_7
  refine lv_aload_n hx hb d_NetWires_launchThroughNoise_10 rfl (lv_at hl 0 rfl) ?_
  refine xg_NetWires_disturbance hC hw fl_NetWires_33 d_NetWires_launchThroughNoise_11 ?_
  refine xg_Noise_loss (v := x.1 12) hC hw fl_NetWires_225 d_NetWires_launchThroughNoise_14 rfl ?_
  refine lv_icmp_ge (tgt := 32) hx hb d_NetWires_launchThroughNoise_17 (by decide) (fun c_17 => ?_) (fun c_17 => ?_)
  · refine lv_aload_n hx hb d_NetWires_launchThroughNoise_32 rfl (lv_at hl 0 rfl) ?_
    refine xg_NetWires_disturbance hC hw fl_NetWires_33 d_NetWires_launchThroughNoise_33 ?_
    refine lv_sipush (v := 1000) hx hb d_NetWires_launchThroughNoise_36 (by decide) ?_
    refine ga_Vi (As := [.int 1000]) (rest := []) hC hw (c_Noise_drawBelow l k (xa_sD x d_7) 1000 _) m_Noise_drawBelow ml_NetWires_222 (ga_recv hw (q0 := 7) rfl rfl) rfl rfl ⟨Nat.le_of_ble_eq_true rfl, Nat.le_of_ble_eq_true rfl⟩ rfl hl.1 rfl (Nat.le_of_ble_eq_true rfl) d_NetWires_launchThroughNoise_39 ⟨Nat.le_of_ble_eq_true rfl, Nat.le_of_ble_eq_true rfl⟩ (fun r u H locs hp hw => ?_)
    obtain ⟨rfl, hp⟩ := hp
    obtain ⟨d_39, ed_39⟩ : ∃ z, z = xa_lcg (xa_D (xa_sD x d_7)) := ⟨_, rfl⟩
    rw [← ed_39] at hw hp
    have f_39 : d_39 = xa_lcg d_7 := ed_39
    have e_39 := xa_drw (by decide) hp
    subst e_39
    refine lv_aload_n hx hb d_NetWires_launchThroughNoise_42 rfl (lv_at hl 0 rfl) ?_
    refine xg_NetWires_disturbance hC hw fl_NetWires_33 d_NetWires_launchThroughNoise_43 ?_
    refine xg_Noise_twice (v := x.1 13) hC hw fl_NetWires_228 d_NetWires_launchThroughNoise_46 rfl ?_
    refine lv_icmp_ge (tgt := 56) hx hb d_NetWires_launchThroughNoise_49 (by decide) (fun c_49 => ?_) (fun c_49 => ?_)
    · refine lv_iconst (v := 1) hx hb d_NetWires_launchThroughNoise_56 (by decide) ?_
      refine lv_istore (lv' := [(4, .int 1), (0, .ref (xa_a k 0)), (1, .int fr), (2, .int to), (3, .ref b)]) hx hb d_NetWires_launchThroughNoise_57 hl (by decide) rfl (fun ls hl => ?_)
      refine lv_iconst (v := 0) hx hb d_NetWires_launchThroughNoise_59 (by decide) ?_
      refine lv_istore (lv' := [(5, .int 0), (4, .int 1), (0, .ref (xa_a k 0)), (1, .int fr), (2, .int to), (3, .ref b)]) hx hb d_NetWires_launchThroughNoise_60 hl (by decide) rfl (fun ls hl => ?_)
      refine lv_iconst (v := 0) hx hb d_NetWires_launchThroughNoise_62 (by decide) ?_
      refine lv_istore (lv' := [(6, .int 0), (5, .int 0), (4, .int 1), (0, .ref (xa_a k 0)), (1, .int fr), (2, .int to), (3, .ref b)]) hx hb d_NetWires_launchThroughNoise_63 hl (by decide) rfl (fun ls hl => ?_)
      refine lv_iload hx hb d_NetWires_launchThroughNoise_65 (lv_at hl 0 rfl) ?_
      refine lv_iload hx hb d_NetWires_launchThroughNoise_67 (lv_at hl 2 rfl) ?_
      refine lv_icmp_ge (tgt := 110) hx hb d_NetWires_launchThroughNoise_69 (by decide) (fun c_69 => ?_) (fun c_69 => ?_)
      · exact absurd c_69 (by decide)
      · refine lv_aload_n hx hb d_NetWires_launchThroughNoise_72 rfl (lv_at hl 3 rfl) ?_
        refine xg_NetWires_disturbance hC hw fl_NetWires_33 d_NetWires_launchThroughNoise_73 ?_
        refine lv_aload_n hx hb d_NetWires_launchThroughNoise_76 rfl (lv_at hl 3 rfl) ?_
        refine xg_NetWires_disturbance hC hw fl_NetWires_33 d_NetWires_launchThroughNoise_77 ?_
        refine xg_Noise_spread (v := x.1 14) hC hw fl_NetWires_231 d_NetWires_launchThroughNoise_80 rfl ?_
        refine lv_iconst (v := 1) hx hb d_NetWires_launchThroughNoise_83 (by decide) ?_
        refine lv_iadd hx hb d_NetWires_launchThroughNoise_84 ?_
        refine ga_asi (v := nI (sp + 1)) (by rw [hsp]; exact nI_1 sp) ?_
        refine ga_Vi (As := [.int (nI (sp + 1))]) (rest := []) hC hw (c_Noise_drawBelow l k (xa_sD (xa_sD x d_7) d_39) (nI (sp + 1)) _) m_Noise_drawBelow ml_NetWires_222 (ga_recv hw (q0 := 7) rfl rfl) rfl rfl ⟨Nat.le_of_ble_eq_true rfl, Nat.le_of_ble_eq_true rfl⟩ rfl hl.1 rfl (Nat.le_of_ble_eq_true rfl) d_NetWires_launchThroughNoise_85 ⟨Nat.le_of_ble_eq_true rfl, Nat.le_of_ble_eq_true rfl⟩ (fun r u H locs hp hw => ?_)
        obtain ⟨rfl, hp⟩ := hp
        obtain ⟨d_85, ed_85⟩ : ∃ z, z = xa_lcg (xa_D (xa_sD (xa_sD x d_7) d_39)) := ⟨_, rfl⟩
        rw [← ed_85] at hw hp
        have f_85 : d_85 = xa_lcg d_39 := ed_85
        have e_85 := xa_drw (xa_posn sp hsp2) hp
        subst e_85
        refine lv_istore (lv' := [(7, .int (xa_draw d_85 (nI (sp + 1)))), (6, .int 0), (5, .int 0), (4, .int 1), (0, .ref (xa_a k 0)), (1, .int fr), (2, .int to), (3, .ref b)]) hx hb d_NetWires_launchThroughNoise_88 hl (by decide) rfl (fun ls hl => ?_)
        refine lv_iload hx hb d_NetWires_launchThroughNoise_90 (lv_at hl 2 rfl) ?_
        refine lv_aload_n hx hb d_NetWires_launchThroughNoise_92 rfl (lv_at hl 4 rfl) ?_
        refine lv_iload_n hx hb d_NetWires_launchThroughNoise_93 rfl (lv_at hl 5 rfl) ?_
        refine lv_iload_n hx hb d_NetWires_launchThroughNoise_94 rfl (lv_at hl 6 rfl) ?_
        refine lv_iload hx hb d_NetWires_launchThroughNoise_95 (lv_at hl 0 rfl) ?_
        refine lv_aload_n hx hb d_NetWires_launchThroughNoise_97 rfl (lv_at hl 7 rfl) ?_
        refine ga_Vi (As := [.int fr, .int to, .int (xa_draw d_85 (nI (sp + 1))), .ref b]) (rest := [.int 0]) hC hw (c_NetWires_launch l k (xa_sD (xa_sD (xa_sD x d_7) d_39) d_85) fr to (xa_draw d_85 (nI (sp + 1))) b n i9 j9 (show xa_R0 _ n from h0) hfr9 hi9 hto9 hj9 hn _) m_NetWires_launch ml_NetWires_116 (ga_recv hw (q0 := 0) rfl rfl) rfl rfl ⟨Nat.le_of_ble_eq_true rfl, Nat.le_of_ble_eq_true rfl⟩ rfl hl.1 rfl (Nat.le_of_ble_eq_true rfl) d_NetWires_launchThroughNoise_98 ⟨Nat.le_of_ble_eq_true rfl, Nat.le_of_ble_eq_true rfl⟩ (fun r u H locs hp hw => ?_)
        obtain ⟨n1, hn1, hR1, hI1, h81, hr1⟩ := xa_lau_R0 hp (show xa_R0 _ n from h0) hn
        have hp1 := hp
        obtain ⟨r1, er1⟩ : ∃ z, z = r := ⟨_, rfl⟩
        subst er1
        obtain ⟨u1, eu1⟩ : ∃ z, z = u := ⟨_, rfl⟩
        subst eu1
        have hs1 : u1.1 14 = nI sp := (hI1 14 (by decide) (by decide) (by decide) (by decide) (by decide)).trans hsp
        refine lv_iadd hx hb d_NetWires_launchThroughNoise_101 ?_
        refine lv_istore (lv' := [(5, .int (0 + r1)), (7, .int (xa_draw d_85 (nI (sp + 1)))), (6, .int 0), (4, .int 1), (0, .ref (xa_a k 0)), (1, .int fr), (2, .int to), (3, .ref b)]) hx hb d_NetWires_launchThroughNoise_102 hl (by decide) rfl (fun ls hl => ?_)
        refine lv_iinc (v := 1) (lv' := [(6, .int 1), (5, .int (0 + r1)), (7, .int (xa_draw d_85 (nI (sp + 1)))), (4, .int 1), (0, .ref (xa_a k 0)), (1, .int fr), (2, .int to), (3, .ref b)]) hx hb d_NetWires_launchThroughNoise_104 hl (k := 2) rfl (rfl) (by decide) rfl (fun ls hl => ?_)
        refine lv_goto (tgt := 65) hx hb d_NetWires_launchThroughNoise_107 (by decide) ?_
        refine lv_iload hx hb d_NetWires_launchThroughNoise_65 (lv_at hl 0 rfl) ?_
        refine lv_iload hx hb d_NetWires_launchThroughNoise_67 (lv_at hl 3 rfl) ?_
        refine lv_icmp_ge (tgt := 110) hx hb d_NetWires_launchThroughNoise_69 (by decide) (fun c_69 => ?_) (fun c_69 => ?_)
        · refine lv_iload hx hb d_NetWires_launchThroughNoise_110 (lv_at hl 1 rfl) ?_
          exact ga_iret (u := u1) hC hr hlocks hw (by unfold xa_noi; rw [← f_7, ← f_39, ← f_85]; exact Or.inr ⟨Int32.not_lt.mpr c_17, r1, u1, hp1, Or.inl ⟨Int32.not_lt.mpr c_49, rfl, rfl⟩⟩) (Nat.le_of_ble_eq_true rfl) (Nat.le_of_ble_eq_true rfl) d_NetWires_launchThroughNoise_112
        · exact absurd c_69 (by decide)
    · refine lv_iconst (v := 2) hx hb d_NetWires_launchThroughNoise_52 (by decide) ?_
      refine lv_goto (tgt := 57) hx hb d_NetWires_launchThroughNoise_53 (by decide) ?_
      refine lv_istore (lv' := [(4, .int 2), (0, .ref (xa_a k 0)), (1, .int fr), (2, .int to), (3, .ref b)]) hx hb d_NetWires_launchThroughNoise_57 hl (by decide) rfl (fun ls hl => ?_)
      refine lv_iconst (v := 0) hx hb d_NetWires_launchThroughNoise_59 (by decide) ?_
      refine lv_istore (lv' := [(5, .int 0), (4, .int 2), (0, .ref (xa_a k 0)), (1, .int fr), (2, .int to), (3, .ref b)]) hx hb d_NetWires_launchThroughNoise_60 hl (by decide) rfl (fun ls hl => ?_)
      refine lv_iconst (v := 0) hx hb d_NetWires_launchThroughNoise_62 (by decide) ?_
      refine lv_istore (lv' := [(6, .int 0), (5, .int 0), (4, .int 2), (0, .ref (xa_a k 0)), (1, .int fr), (2, .int to), (3, .ref b)]) hx hb d_NetWires_launchThroughNoise_63 hl (by decide) rfl (fun ls hl => ?_)
      refine lv_iload hx hb d_NetWires_launchThroughNoise_65 (lv_at hl 0 rfl) ?_
      refine lv_iload hx hb d_NetWires_launchThroughNoise_67 (lv_at hl 2 rfl) ?_
      refine lv_icmp_ge (tgt := 110) hx hb d_NetWires_launchThroughNoise_69 (by decide) (fun c_69 => ?_) (fun c_69 => ?_)
      · exact absurd c_69 (by decide)
      · refine lv_aload_n hx hb d_NetWires_launchThroughNoise_72 rfl (lv_at hl 3 rfl) ?_
        refine xg_NetWires_disturbance hC hw fl_NetWires_33 d_NetWires_launchThroughNoise_73 ?_
        refine lv_aload_n hx hb d_NetWires_launchThroughNoise_76 rfl (lv_at hl 3 rfl) ?_
        refine xg_NetWires_disturbance hC hw fl_NetWires_33 d_NetWires_launchThroughNoise_77 ?_
        refine xg_Noise_spread (v := x.1 14) hC hw fl_NetWires_231 d_NetWires_launchThroughNoise_80 rfl ?_
        refine lv_iconst (v := 1) hx hb d_NetWires_launchThroughNoise_83 (by decide) ?_
        refine lv_iadd hx hb d_NetWires_launchThroughNoise_84 ?_
        refine ga_asi (v := nI (sp + 1)) (by rw [hsp]; exact nI_1 sp) ?_
        refine ga_Vi (As := [.int (nI (sp + 1))]) (rest := []) hC hw (c_Noise_drawBelow l k (xa_sD (xa_sD x d_7) d_39) (nI (sp + 1)) _) m_Noise_drawBelow ml_NetWires_222 (ga_recv hw (q0 := 7) rfl rfl) rfl rfl ⟨Nat.le_of_ble_eq_true rfl, Nat.le_of_ble_eq_true rfl⟩ rfl hl.1 rfl (Nat.le_of_ble_eq_true rfl) d_NetWires_launchThroughNoise_85 ⟨Nat.le_of_ble_eq_true rfl, Nat.le_of_ble_eq_true rfl⟩ (fun r u H locs hp hw => ?_)
        obtain ⟨rfl, hp⟩ := hp
        obtain ⟨d_85, ed_85⟩ : ∃ z, z = xa_lcg (xa_D (xa_sD (xa_sD x d_7) d_39)) := ⟨_, rfl⟩
        rw [← ed_85] at hw hp
        have f_85 : d_85 = xa_lcg d_39 := ed_85
        have e_85 := xa_drw (xa_posn sp hsp2) hp
        subst e_85
        refine lv_istore (lv' := [(7, .int (xa_draw d_85 (nI (sp + 1)))), (6, .int 0), (5, .int 0), (4, .int 2), (0, .ref (xa_a k 0)), (1, .int fr), (2, .int to), (3, .ref b)]) hx hb d_NetWires_launchThroughNoise_88 hl (by decide) rfl (fun ls hl => ?_)
        refine lv_iload hx hb d_NetWires_launchThroughNoise_90 (lv_at hl 2 rfl) ?_
        refine lv_aload_n hx hb d_NetWires_launchThroughNoise_92 rfl (lv_at hl 4 rfl) ?_
        refine lv_iload_n hx hb d_NetWires_launchThroughNoise_93 rfl (lv_at hl 5 rfl) ?_
        refine lv_iload_n hx hb d_NetWires_launchThroughNoise_94 rfl (lv_at hl 6 rfl) ?_
        refine lv_iload hx hb d_NetWires_launchThroughNoise_95 (lv_at hl 0 rfl) ?_
        refine lv_aload_n hx hb d_NetWires_launchThroughNoise_97 rfl (lv_at hl 7 rfl) ?_
        refine ga_Vi (As := [.int fr, .int to, .int (xa_draw d_85 (nI (sp + 1))), .ref b]) (rest := [.int 0]) hC hw (c_NetWires_launch l k (xa_sD (xa_sD (xa_sD x d_7) d_39) d_85) fr to (xa_draw d_85 (nI (sp + 1))) b n i9 j9 (show xa_R0 _ n from h0) hfr9 hi9 hto9 hj9 hn _) m_NetWires_launch ml_NetWires_116 (ga_recv hw (q0 := 0) rfl rfl) rfl rfl ⟨Nat.le_of_ble_eq_true rfl, Nat.le_of_ble_eq_true rfl⟩ rfl hl.1 rfl (Nat.le_of_ble_eq_true rfl) d_NetWires_launchThroughNoise_98 ⟨Nat.le_of_ble_eq_true rfl, Nat.le_of_ble_eq_true rfl⟩ (fun r u H locs hp hw => ?_)
        obtain ⟨n1, hn1, hR1, hI1, h81, hr1⟩ := xa_lau_R0 hp (show xa_R0 _ n from h0) hn
        have hp1 := hp
        obtain ⟨r1, er1⟩ : ∃ z, z = r := ⟨_, rfl⟩
        subst er1
        obtain ⟨u1, eu1⟩ : ∃ z, z = u := ⟨_, rfl⟩
        subst eu1
        have hs1 : u1.1 14 = nI sp := (hI1 14 (by decide) (by decide) (by decide) (by decide) (by decide)).trans hsp
        refine lv_iadd hx hb d_NetWires_launchThroughNoise_101 ?_
        refine lv_istore (lv' := [(5, .int (0 + r1)), (7, .int (xa_draw d_85 (nI (sp + 1)))), (6, .int 0), (4, .int 2), (0, .ref (xa_a k 0)), (1, .int fr), (2, .int to), (3, .ref b)]) hx hb d_NetWires_launchThroughNoise_102 hl (by decide) rfl (fun ls hl => ?_)
        refine lv_iinc (v := 1) (lv' := [(6, .int 1), (5, .int (0 + r1)), (7, .int (xa_draw d_85 (nI (sp + 1)))), (4, .int 2), (0, .ref (xa_a k 0)), (1, .int fr), (2, .int to), (3, .ref b)]) hx hb d_NetWires_launchThroughNoise_104 hl (k := 2) rfl (rfl) (by decide) rfl (fun ls hl => ?_)
        refine lv_goto (tgt := 65) hx hb d_NetWires_launchThroughNoise_107 (by decide) ?_
        refine lv_iload hx hb d_NetWires_launchThroughNoise_65 (lv_at hl 0 rfl) ?_
        refine lv_iload hx hb d_NetWires_launchThroughNoise_67 (lv_at hl 3 rfl) ?_
        refine lv_icmp_ge (tgt := 110) hx hb d_NetWires_launchThroughNoise_69 (by decide) (fun c_69 => ?_) (fun c_69 => ?_)
        · exact absurd c_69 (by decide)
        · refine lv_aload_n hx hb d_NetWires_launchThroughNoise_72 rfl (lv_at hl 4 rfl) ?_
          refine xg_NetWires_disturbance hC hw fl_NetWires_33 d_NetWires_launchThroughNoise_73 ?_
          refine lv_aload_n hx hb d_NetWires_launchThroughNoise_76 rfl (lv_at hl 4 rfl) ?_
          refine xg_NetWires_disturbance hC hw fl_NetWires_33 d_NetWires_launchThroughNoise_77 ?_
          refine xg_Noise_spread (v := u1.1 14) hC hw fl_NetWires_231 d_NetWires_launchThroughNoise_80 rfl ?_
          refine lv_iconst (v := 1) hx hb d_NetWires_launchThroughNoise_83 (by decide) ?_
          refine lv_iadd hx hb d_NetWires_launchThroughNoise_84 ?_
          refine ga_asi (v := nI (sp + 1)) (by rw [hs1]; exact nI_1 sp) ?_
          refine ga_Vi (As := [.int (nI (sp + 1))]) (rest := []) hC hw (c_Noise_drawBelow l k u1 (nI (sp + 1)) _) m_Noise_drawBelow ml_NetWires_222 (ga_recv hw (q0 := 7) rfl rfl) rfl rfl ⟨Nat.le_of_ble_eq_true rfl, Nat.le_of_ble_eq_true rfl⟩ rfl hl.1 rfl (Nat.le_of_ble_eq_true rfl) d_NetWires_launchThroughNoise_85 ⟨Nat.le_of_ble_eq_true rfl, Nat.le_of_ble_eq_true rfl⟩ (fun r u H locs hp hw => ?_)
          obtain ⟨rfl, hp⟩ := hp
          obtain ⟨d_85b, ed_85b⟩ : ∃ z, z = xa_lcg (xa_D u1) := ⟨_, rfl⟩
          rw [← ed_85b] at hw hp
          have f_85b : d_85b = xa_lcg (xa_D u1) := ed_85b
          have e_85b := xa_drw (xa_posn sp hsp2) hp
          subst e_85b
          refine lv_istore (lv' := [(7, .int (xa_draw d_85b (nI (sp + 1)))), (6, .int 1), (5, .int (0 + r1)), (4, .int 2), (0, .ref (xa_a k 0)), (1, .int fr), (2, .int to), (3, .ref b)]) hx hb d_NetWires_launchThroughNoise_88 hl (by decide) rfl (fun ls hl => ?_)
          refine lv_iload hx hb d_NetWires_launchThroughNoise_90 (lv_at hl 2 rfl) ?_
          refine lv_aload_n hx hb d_NetWires_launchThroughNoise_92 rfl (lv_at hl 4 rfl) ?_
          refine lv_iload_n hx hb d_NetWires_launchThroughNoise_93 rfl (lv_at hl 5 rfl) ?_
          refine lv_iload_n hx hb d_NetWires_launchThroughNoise_94 rfl (lv_at hl 6 rfl) ?_
          refine lv_iload hx hb d_NetWires_launchThroughNoise_95 (lv_at hl 0 rfl) ?_
          refine lv_aload_n hx hb d_NetWires_launchThroughNoise_97 rfl (lv_at hl 7 rfl) ?_
          refine ga_Vi (As := [.int fr, .int to, .int (xa_draw d_85b (nI (sp + 1))), .ref b]) (rest := [.int (0 + r1)]) hC hw (c_NetWires_launch l k (xa_sD u1 d_85b) fr to (xa_draw d_85b (nI (sp + 1))) b n1 i9 j9 (show xa_R0 _ n1 from hR1) hfr9 hi9 hto9 hj9 (fun h => xa_second hn hn2 hn1 h81 h) _) m_NetWires_launch ml_NetWires_116 (ga_recv hw (q0 := 0) rfl rfl) rfl rfl ⟨Nat.le_of_ble_eq_true rfl, Nat.le_of_ble_eq_true rfl⟩ rfl hl.1 rfl (Nat.le_of_ble_eq_true rfl) d_NetWires_launchThroughNoise_98 ⟨Nat.le_of_ble_eq_true rfl, Nat.le_of_ble_eq_true rfl⟩ (fun r u H locs hp hw => ?_)
          have hp2 := hp
          refine lv_iadd hx hb d_NetWires_launchThroughNoise_101 ?_
          refine lv_istore (lv' := [(5, .int ((0 + r1) + r)), (7, .int (xa_draw d_85b (nI (sp + 1)))), (6, .int 1), (4, .int 2), (0, .ref (xa_a k 0)), (1, .int fr), (2, .int to), (3, .ref b)]) hx hb d_NetWires_launchThroughNoise_102 hl (by decide) rfl (fun ls hl => ?_)
          refine lv_iinc (v := 2) (lv' := [(6, .int 2), (5, .int ((0 + r1) + r)), (7, .int (xa_draw d_85b (nI (sp + 1)))), (4, .int 2), (0, .ref (xa_a k 0)), (1, .int fr), (2, .int to), (3, .ref b)]) hx hb d_NetWires_launchThroughNoise_104 hl (k := 2) rfl (rfl) (by decide) rfl (fun ls hl => ?_)
          refine lv_goto (tgt := 65) hx hb d_NetWires_launchThroughNoise_107 (by decide) ?_
          refine lv_iload hx hb d_NetWires_launchThroughNoise_65 (lv_at hl 0 rfl) ?_
          refine lv_iload hx hb d_NetWires_launchThroughNoise_67 (lv_at hl 3 rfl) ?_
          refine lv_icmp_ge (tgt := 110) hx hb d_NetWires_launchThroughNoise_69 (by decide) (fun c_69 => ?_) (fun c_69 => ?_)
          · refine lv_iload hx hb d_NetWires_launchThroughNoise_110 (lv_at hl 1 rfl) ?_
            exact ga_iret (u := u) hC hr hlocks hw (by unfold xa_noi; rw [← f_7, ← f_39, ← f_85]; exact Or.inr ⟨Int32.not_lt.mpr c_17, r1, u1, hp1, Or.inr ⟨Int32.not_le.mp c_49, n1, r, hn1, by rw [← f_85b]; exact hp2, rfl⟩⟩) (Nat.le_of_ble_eq_true rfl) (Nat.le_of_ble_eq_true rfl) d_NetWires_launchThroughNoise_112
          · exact absurd c_69 (by decide)
  · refine lv_aload_n hx hb d_NetWires_launchThroughNoise_20 rfl (lv_at hl 0 rfl) ?_
    refine lv_dup hx hb d_NetWires_launchThroughNoise_21 rfl ?_
    refine xg_NetWires_lost (v := x.1 5) hC hw fl_NetWires_63 d_NetWires_launchThroughNoise_22 rfl ?_
    refine lv_iconst (v := 1) hx hb d_NetWires_launchThroughNoise_25 (by decide) ?_
    refine lv_iadd hx hb d_NetWires_launchThroughNoise_26 ?_
    refine xp_NetWires_lost hC hw fl_NetWires_63 d_NetWires_launchThroughNoise_27 (fun H locs hw => ?_)
    refine lv_iconst (v := 0) hx hb d_NetWires_launchThroughNoise_30 (by decide) ?_
    exact ga_iret (u := xa_sI (xa_sD x d_7) 5 ((x.1 5) + 1)) hC hr hlocks hw (by unfold xa_noi; rw [← f_7]; exact Or.inl ⟨Int32.not_le.mp c_17, rfl, rfl⟩) (Nat.le_of_ble_eq_true rfl) (Nat.le_of_ble_eq_true rfl) d_NetWires_launchThroughNoise_31

set_option maxHeartbeats 4000000 in
set_option maxRecDepth 100000 in
theorem c_NetWires_send (l : Launch) (k : xa_k) (hst : l.stackTraces = false) (x : XS) (fr to : Int32) (n t sp : Nat) (h0 : xa_R0 x n) (ht : x.1 6 = nI t) (ht2 : t ≤ 2048) (hfit : ∀ j, j < 2048 → fits .byte (.int (xa_T x j)) = true) (hsp : x.1 14 = nI sp) (hsp2 : sp ≤ 1000) (hn : x.1 8 < 200 → n < 232) (hn2 : x.1 8 + 1 < 200 → n + 1 < 232) (sz : Nat) : vx_Met l y_NetWires_send (Cond.code y_NetWires_send b_NetWires_send 4 (some .int) :: ga_T) ({ frames := 7, cells := 5, slots := 2072, locals := 141 }) (va_Pc [.ref (xa_a k 0), .int fr, .int to] (ga_pre (xa_K k) (xa_W k x) sz)) (va_Qi (fun (r : Int32) (u : XS) => ∃ b f P2, xa_ext (xa_P x) P2 ∧ xa_isB k P2 b t f ∧ (∀ j, j < t → f j = xa_T x j) ∧ ∃ i9 j9, i9 < 16 ∧ fr = nI i9 ∧ j9 < 16 ∧ to = nI j9 ∧ ((xa_par x fr to ∧ r = 0 ∧ u = xa_sI (xa_sI (xa_sP x P2) 6 0) 5 (x.1 5 + 1)) ∨ (¬ xa_par x fr to ∧ (x.1 12 = 0 ∧ x.1 13 = 0 ∧ x.1 14 = 0) ∧ xa_lau (xa_sI (xa_sP x P2) 6 0) n i9 j9 fr to 0 b r u) ∨ (¬ xa_par x fr to ∧ ¬ (x.1 12 = 0 ∧ x.1 13 = 0 ∧ x.1 14 = 0) ∧ xa_noi (xa_sI (xa_sP x P2) 6 0) n i9 j9 sp fr to b r u))) (ga_post (xa_K k) (xa_W k x) sz (xa_W k)) (va_A (xa_W k x) sz)) (ga_XC (xa_K k) (xa_W k x) sz (xa_W k) (fun E u => E = ga_IOB ∧ (∃ P2, xa_ext (xa_P x) P2 ∧ u = xa_sI (xa_sP x P2) 6 0) ∧ (fr < 0 ∨ 15 < fr ∨ to < 0 ∨ 15 < to))) 5 2072 (va_A (xa_W k x) sz) := by
  refine ga_MetX (by decide) (Nat.le_of_ble_eq_true rfl) ?_
  intro p e s m below meth c hC hr hlocks hT hw ls hl
  have hx := hC.1
  have hb := hC.2.1
  have hl : lv_has ls 4 [(0, .ref (xa_a k 0)), (1, .int fr), (2, .int to)] := hl
  refine lv_aload_n hx hb d_NetWires_send_0 rfl (lv_at hl 0 rfl) ?_
  refine xg_NetWires_tape hC hw fl_NetWires_12 d_NetWires_send_1 ?_
  refine ga_Vq (As := []) (rest := []) hC hw (c_Tape_takeAll l k x t ht ht2 hfit _) m_Tape_takeAll ml_NetWires_96 (ga_recv hw (q0 := 1) rfl rfl) rfl rfl ⟨Nat.le_of_ble_eq_true rfl, Nat.le_of_ble_eq_true rfl⟩ rfl hl.1 rfl (Nat.le_of_ble_eq_true rfl) d_NetWires_send_4 ⟨Nat.le_of_ble_eq_true rfl, Nat.le_of_ble_eq_true rfl⟩ (fun r u H locs hp hw => ?_)
  obtain ⟨b, f, P2, rfl, hext, hB, hbf, rfl⟩ := hp
  refine lv_astore_n (lv' := [(3, .ref b), (0, .ref (xa_a k 0)), (1, .int fr), (2, .int to)]) hx hb d_NetWires_send_7 rfl hl (by decide) rfl (fun ls hl => ?_)
  refine lv_iload_n hx hb d_NetWires_send_8 rfl (lv_at hl 2 rfl) ?_
  refine ga_Sxv (As := [.int fr]) (rest := []) hC hw (c_NetWires_demandEndpoint l k hst (xa_sI (xa_sP x P2) 6 0) fr _) m_NetWires_demandEndpoint ml_NetWires_100 rfl rfl ⟨Nat.le_of_ble_eq_true rfl, Nat.le_of_ble_eq_true rfl⟩ rfl hl.1 rfl (Nat.le_of_ble_eq_true rfl) d_NetWires_send_9 ⟨Nat.le_of_ble_eq_true rfl, Nat.le_of_ble_eq_true rfl⟩ (fun E ce q9 u H locs hp hw g1 g2 g3 => ?_) (fun u H locs hp hw => ?_)
  · obtain ⟨rfl, rfl, h_9⟩ := hp
    exact ga_out hT hlocks hw ⟨rfl, ⟨P2, hext, rfl⟩, h_9.elim Or.inl (fun h => Or.inr (Or.inl h))⟩ g1 g2 g3 (Nat.le_of_ble_eq_true rfl) (Nat.le_of_ble_eq_true rfl)
  · obtain ⟨rfl, h_9, g_9⟩ := hp
    refine lv_iload_n hx hb d_NetWires_send_12 rfl (lv_at hl 3 rfl) ?_
    refine ga_Sxv (As := [.int to]) (rest := []) hC hw (c_NetWires_demandEndpoint l k hst (xa_sI (xa_sP x P2) 6 0) to _) m_NetWires_demandEndpoint ml_NetWires_100 rfl rfl ⟨Nat.le_of_ble_eq_true rfl, Nat.le_of_ble_eq_true rfl⟩ rfl hl.1 rfl (Nat.le_of_ble_eq_true rfl) d_NetWires_send_13 ⟨Nat.le_of_ble_eq_true rfl, Nat.le_of_ble_eq_true rfl⟩ (fun E ce q9 u H locs hp hw g1 g2 g3 => ?_) (fun u H locs hp hw => ?_)
    · obtain ⟨rfl, rfl, h_13⟩ := hp
      exact ga_out hT hlocks hw ⟨rfl, ⟨P2, hext, rfl⟩, Or.inr (Or.inr h_13)⟩ g1 g2 g3 (Nat.le_of_ble_eq_true rfl) (Nat.le_of_ble_eq_true rfl)
    · obtain ⟨rfl, h_13, g_13⟩ := hp
      obtain ⟨i9, hi9, ei9⟩ := xa_16 h_9 g_9
      obtain ⟨j9, hj9, ej9⟩ := xa_16 h_13 g_13
      have h0e := (h0.ext hext).1
      refine lv_aload_n hx hb d_NetWires_send_16 rfl (lv_at hl 1 rfl) ?_
      refine lv_iload_n hx hb d_NetWires_send_17 rfl (lv_at hl 2 rfl) ?_
      refine lv_iload_n hx hb d_NetWires_send_18 rfl (lv_at hl 3 rfl) ?_
      refine ga_Vi (As := [.int fr, .int to]) (rest := []) hC hw (c_NetWires_areParted l k (xa_sI (xa_sP x P2) 6 0) fr to _) m_NetWires_areParted ml_NetWires_104 (ga_recv hw (q0 := 0) rfl rfl) rfl rfl ⟨Nat.le_of_ble_eq_true rfl, Nat.le_of_ble_eq_true rfl⟩ rfl hl.1 rfl (Nat.le_of_ble_eq_true rfl) d_NetWires_send_19 ⟨Nat.le_of_ble_eq_true rfl, Nat.le_of_ble_eq_true rfl⟩ (fun r u H locs hp hw => ?_)
      obtain ⟨rfl, hp⟩ := hp
      rcases hp with ⟨rfl, h_19⟩ | ⟨rfl, h_19⟩
      · refine lv_if_eq (tgt := 37) hx hb d_NetWires_send_22 (by decide) (fun c_22 => ?_) (fun c_22 => ?_)
        · exact absurd c_22 (by decide)
        · refine lv_aload_n hx hb d_NetWires_send_25 rfl (lv_at hl 1 rfl) ?_
          refine lv_dup hx hb d_NetWires_send_26 rfl ?_
          refine xg_NetWires_lost (v := (xa_sI (xa_sP x P2) 6 0).1 5) hC hw fl_NetWires_63 d_NetWires_send_27 rfl ?_
          refine lv_iconst (v := 1) hx hb d_NetWires_send_30 (by decide) ?_
          refine lv_iadd hx hb d_NetWires_send_31 ?_
          refine xp_NetWires_lost hC hw fl_NetWires_63 d_NetWires_send_32 (fun H locs hw => ?_)
          refine lv_iconst (v := 0) hx hb d_NetWires_send_35 (by decide) ?_
          exact vx_ret (ga_iret (u := xa_sI (xa_sI (xa_sP x P2) 6 0) 5 (((xa_sI (xa_sP x P2) 6 0).1 5) + 1)) hC hr hlocks hw ⟨b, f, P2, hext, hB, hbf, i9, j9, hi9, ei9, hj9, ej9, Or.inl ⟨h_19, rfl, rfl⟩⟩ (Nat.le_of_ble_eq_true rfl) (Nat.le_of_ble_eq_true rfl) d_NetWires_send_36)
      · refine lv_if_eq (tgt := 37) hx hb d_NetWires_send_22 (by decide) (fun c_22 => ?_) (fun c_22 => ?_)
        · refine lv_aload_n hx hb d_NetWires_send_37 rfl (lv_at hl 1 rfl) ?_
          refine xg_NetWires_disturbance hC hw fl_NetWires_33 d_NetWires_send_38 ?_
          refine ga_Vi (As := []) (rest := []) hC hw (c_Noise_isOn l k (xa_sI (xa_sP x P2) 6 0) _) m_Noise_isOn ml_NetWires_108 (ga_recv hw (q0 := 7) rfl rfl) rfl rfl ⟨Nat.le_of_ble_eq_true rfl, Nat.le_of_ble_eq_true rfl⟩ rfl hl.1 rfl (Nat.le_of_ble_eq_true rfl) d_NetWires_send_41 ⟨Nat.le_of_ble_eq_true rfl, Nat.le_of_ble_eq_true rfl⟩ (fun r u H locs hp hw => ?_)
          obtain ⟨rfl, hp⟩ := hp
          rcases hp with ⟨rfl, h_41⟩ | ⟨rfl, h_41⟩
          · refine lv_if_eq (tgt := 55) hx hb d_NetWires_send_44 (by decide) (fun c_44 => ?_) (fun c_44 => ?_)
            · exact absurd c_44 (by decide)
            · refine lv_aload_n hx hb d_NetWires_send_47 rfl (lv_at hl 1 rfl) ?_
              refine lv_iload_n hx hb d_NetWires_send_48 rfl (lv_at hl 2 rfl) ?_
              refine lv_iload_n hx hb d_NetWires_send_49 rfl (lv_at hl 3 rfl) ?_
              refine lv_aload_n hx hb d_NetWires_send_50 rfl (lv_at hl 0 rfl) ?_
              refine ga_Vi (As := [.int fr, .int to, .ref b]) (rest := []) hC hw (c_NetWires_launchThroughNoise l k (xa_sI (xa_sP x P2) 6 0) fr to b n i9 j9 sp (show xa_R0 _ n from h0e) ei9 hi9 ej9 hj9 hsp hsp2 hn hn2 _) m_NetWires_launchThroughNoise ml_NetWires_112 (ga_recv hw (q0 := 0) rfl rfl) rfl rfl ⟨Nat.le_of_ble_eq_true rfl, Nat.le_of_ble_eq_true rfl⟩ rfl hl.1 rfl (Nat.le_of_ble_eq_true rfl) d_NetWires_send_51 ⟨Nat.le_of_ble_eq_true rfl, Nat.le_of_ble_eq_true rfl⟩ (fun r u H locs hp hw => ?_)
              have hp_51 := hp
              exact vx_ret (ga_iret (u := u) hC hr hlocks hw ⟨b, f, P2, hext, hB, hbf, i9, j9, hi9, ei9, hj9, ej9, Or.inr (Or.inr ⟨h_19, h_41, hp_51⟩)⟩ (Nat.le_of_ble_eq_true rfl) (Nat.le_of_ble_eq_true rfl) d_NetWires_send_54)
          · refine lv_if_eq (tgt := 55) hx hb d_NetWires_send_44 (by decide) (fun c_44 => ?_) (fun c_44 => ?_)
            · refine lv_aload_n hx hb d_NetWires_send_55 rfl (lv_at hl 1 rfl) ?_
              refine lv_iload_n hx hb d_NetWires_send_56 rfl (lv_at hl 2 rfl) ?_
              refine lv_iload_n hx hb d_NetWires_send_57 rfl (lv_at hl 3 rfl) ?_
              refine lv_iconst (v := 0) hx hb d_NetWires_send_58 (by decide) ?_
              refine lv_aload_n hx hb d_NetWires_send_59 rfl (lv_at hl 0 rfl) ?_
              refine ga_Vi (As := [.int fr, .int to, .int 0, .ref b]) (rest := []) hC hw (c_NetWires_launch l k (xa_sI (xa_sP x P2) 6 0) fr to 0 b n i9 j9 (show xa_R0 _ n from h0e) ei9 hi9 ej9 hj9 hn _) m_NetWires_launch ml_NetWires_116 (ga_recv hw (q0 := 0) rfl rfl) rfl rfl ⟨Nat.le_of_ble_eq_true rfl, Nat.le_of_ble_eq_true rfl⟩ rfl hl.1 rfl (Nat.le_of_ble_eq_true rfl) d_NetWires_send_60 ⟨Nat.le_of_ble_eq_true rfl, Nat.le_of_ble_eq_true rfl⟩ (fun r u H locs hp hw => ?_)
              have hp_60 := hp
              exact vx_ret (ga_iret (u := u) hC hr hlocks hw ⟨b, f, P2, hext, hB, hbf, i9, j9, hi9, ei9, hj9, ej9, Or.inr (Or.inl ⟨h_19, h_41, hp_60⟩)⟩ (Nat.le_of_ble_eq_true rfl) (Nat.le_of_ble_eq_true rfl) d_NetWires_send_63)
            · exact absurd c_44 (by decide)
        · exact absurd c_22 (by decide)
end
