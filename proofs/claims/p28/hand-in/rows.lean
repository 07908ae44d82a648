section
-- ===== PART A: goes FIRST, ahead of the names: the tables' words, and 'selects' of the private methods out of them =====
/-- a private method of a class that the tables say can be made, by its rows of tables_1 -/
def lw_okq (q : MethodName × Nat) : Prop := (q.1.cls ≠ "java/lang/invoke/MethodHandle" ∧ q.1.cls ≠ "java/lang/invoke/VarHandle") ∧ Cond.instantiable q.1.cls q.2 ∈ tables_1 ∧ Cond.privateMethod q.1 ∈ tables_1 ∧ Cond.instanceMethod q.1 ∈ tables_1
theorem lw_p0 : lw_okq (⟨"java/lang/Throwable", "fillInStackTrace", "(I)Ljava/lang/Throwable;"⟩, 6) := ⟨⟨by decide +kernel, by decide +kernel⟩, List.mem_of_getElem? (i := 263) (by decide +kernel), List.mem_of_getElem? (i := 261) (by decide +kernel), List.mem_of_getElem? (i := 262) (by decide +kernel)⟩
theorem lw_p1 : lw_okq (⟨"GlossedPage", "needUnit", "(I)V"⟩, 7) := ⟨⟨by decide +kernel, by decide +kernel⟩, List.mem_of_getElem? (i := 19) (by decide +kernel), List.mem_of_getElem? (i := 373) (by decide +kernel), List.mem_of_getElem? (i := 374) (by decide +kernel)⟩
theorem lw_p2 : lw_okq (⟨"GlossedPage", "needComment", "(I)V"⟩, 7) := ⟨⟨by decide +kernel, by decide +kernel⟩, List.mem_of_getElem? (i := 19) (by decide +kernel), List.mem_of_getElem? (i := 421) (by decide +kernel), List.mem_of_getElem? (i := 422) (by decide +kernel)⟩
theorem lw_p3 : lw_okq (⟨"GlossedPage$Comments", "weigh", "()V"⟩, 12) := ⟨⟨by decide +kernel, by decide +kernel⟩, List.mem_of_getElem? (i := 79) (by decide +kernel), List.mem_of_getElem? (i := 452) (by decide +kernel), List.mem_of_getElem? (i := 453) (by decide +kernel)⟩
theorem lw_p4 : lw_okq (⟨"GlossedPage$Comments", "isLight", "(I)Z"⟩, 12) := ⟨⟨by decide +kernel, by decide +kernel⟩, List.mem_of_getElem? (i := 79) (by decide +kernel), List.mem_of_getElem? (i := 459) (by decide +kernel), List.mem_of_getElem? (i := 460) (by decide +kernel)⟩
theorem lw_p5 : lw_okq (⟨"GlossedPage", "needAuthor", "(I)V"⟩, 7) := ⟨⟨by decide +kernel, by decide +kernel⟩, List.mem_of_getElem? (i := 19) (by decide +kernel), List.mem_of_getElem? (i := 488) (by decide +kernel), List.mem_of_getElem? (i := 489) (by decide +kernel)⟩
theorem lw_p6 : lw_okq (⟨"GlossedPage", "needRoomForComment", "()V"⟩, 7) := ⟨⟨by decide +kernel, by decide +kernel⟩, List.mem_of_getElem? (i := 19) (by decide +kernel), List.mem_of_getElem? (i := 497) (by decide +kernel), List.mem_of_getElem? (i := 498) (by decide +kernel)⟩
def lw_privs_1 : List (MethodName × Nat) := [(⟨"java/lang/Throwable", "fillInStackTrace", "(I)Ljava/lang/Throwable;"⟩, 6), (⟨"GlossedPage", "needUnit", "(I)V"⟩, 7), (⟨"GlossedPage", "needComment", "(I)V"⟩, 7), (⟨"GlossedPage$Comments", "weigh", "()V"⟩, 12), (⟨"GlossedPage$Comments", "isLight", "(I)Z"⟩, 12), (⟨"GlossedPage", "needAuthor", "(I)V"⟩, 7), (⟨"GlossedPage", "needRoomForComment", "()V"⟩, 7)]
theorem lw_r1 : ∀ q ∈ lw_privs_1, lw_okq q := List.forall_mem_cons.mpr ⟨lw_p0, List.forall_mem_cons.mpr ⟨lw_p1, List.forall_mem_cons.mpr ⟨lw_p2, List.forall_mem_cons.mpr ⟨lw_p3, List.forall_mem_cons.mpr ⟨lw_p4, List.forall_mem_cons.mpr ⟨lw_p5, List.forall_mem_cons.mpr ⟨lw_p6, fun _ h => absurd h List.not_mem_nil⟩⟩⟩⟩⟩⟩⟩
def lw_privs : List (MethodName × Nat) := lw_privs_1
def lw_tbl : List Cond := k2_sels lw_privs ++ tables_1
theorem lw_privs_ok : ∀ q ∈ lw_privs, lw_okq q := lw_r1
-- ===== end of PART A; then your names; then what follows =====
end
section
/-! ===== BEGIN words of one list among another's, by their places ===== -/
theorem goodIn_r {big : List Cond} (ws : List Cond) (ps : List Nat) (hp : ws = ps.filterMap (fun i => big[i]?)) (h : ws.all goodWord = true) : GoodIn big ws := by
  intro w hw
  have h1 := List.all_eq_true.mp h w hw
  rw [hp] at hw
  obtain ⟨i, -, hi⟩ := List.mem_filterMap.mp hw
  have hm : w ∈ big := by first | exact List.mem_of_getElem? hi | exact List.getElem?_mem hi
  exact ⟨hm, good_of_word h1⟩
theorem goodIn_app {big a b : List Cond} (ha : GoodIn big a) (hb : GoodIn big b) : GoodIn big (a ++ b) := fun w h => (List.mem_append.mp h).elim (ha w) (hb w)
theorem goodIn_ca {big a b : List Cond} {c : Cond} (ha : GoodIn big (c :: a)) (hb : GoodIn big b) : GoodIn big (c :: (a ++ b)) := fun w h => (List.mem_cons.mp h).elim (fun e => ha w (List.mem_cons.mpr (Or.inl e))) (fun h => (List.mem_append.mp h).elim (fun h => ha w (List.mem_cons.mpr (Or.inr h))) (hb w))
theorem goodIn_sub {big ws : List Cond} (hm : ∀ w ∈ ws, w ∈ big) (h : ws.all goodWord = true) : GoodIn big ws := fun w hw => ⟨hm w hw, good_of_word (List.all_eq_true.mp h w hw)⟩
/-! ===== END ===== -/

/-! ===== BEGIN exceptions that leave a method, and their catching by the caller (launches without stack traces) ===== -/
section VXA
/-! The laws vx_back, vx_callV, vx_callS, vx_callSW, vx_throw0, vx_throwS follow proofs of the library, with one case more: JvmDerived/Free/Laws.lean (Back.of_free), Shelf42/LK1.lean (callV, callS), Shelf/KitTraced.lean (throwNew0V, throwNewS). -/
/-- where a method has thrown q: the class by its name, the cell, what was written, the world -/
def vx_T (XC : String → State → State → Prop) (st : State) (q : Addr) (t : State) (mc ms : Nat) (free : Addr → Prop) : Prop :=
  ∃ (E : String) (ce : Cell) (L : List Loc), XC E st t ∧ t.heap[q]? = some ce ∧ ce.vm = .none ∧ st.vm.findClass E = some ce.cls ∧ st.WarmedH t.vm ∧ st.sameButNew ({ t with vm := st.vm } : State) L mc ms ∧ ∀ z ∈ L, free z.base
def vx_Q (Qc : Array Value → State → Outcome → State → Prop) (XC : String → State → State → Prop) (mc ms : Nat) (free : Addr → Prop) : Array Value → State → Outcome → State → Prop := fun a st o t =>
  (Qc a st o t ∧ ∃ L, FrameEnd st o t L mc ms ∧ ∀ q ∈ L, free q.base) ∨ ∃ q, o = .threw q ∧ vx_T XC st q t mc ms free
/-- a callee that returns or throws -/
def vx_Met (l : Launch) (y : MethodName) (ws : List Cond) (rm : Room) (Pc : Array Value → State → Prop) (Qc : Array Value → State → Outcome → State → Prop) (XC : String → State → State → Prop) (mc ms : Nat) (free : Addr → Prop) : Prop :=
  MetFree l y (headSpec ws rm) Pc (fun _ _ _ _ _ => True) (vx_Q Qc XC mc ms free)
def vx_Post (XC : String → State → State → Prop) (mc ms : Nat) (free : Addr → Prop) : Pt → Array Value → Addr → Pt → Prop := fun A a q B =>
  ∃ (g : JFrame) (mk : MethodId) (t : State) (L : List Loc) (E : String) (ce : Cell), B.U.heap = t.heap ∧ B.U.vm = t.vm ∧ XC E (A.U.calling g mk a) t ∧ t.heap[q]? = some ce ∧ ce.vm = .none ∧ A.U.vm.findClass E = some ce.cls ∧ B.locs = A.locs ++ L ∧ (∀ z ∈ L, free z.base) ∧ B.cells = A.cells + mc ∧ B.slots = A.slots + ms
def vx_Back (l : Launch) (R : Room) (p : Program) (e : Env) (below : List Frame) (s : State) (sargs : Array Value) (y : MethodName) (len W9 : Nat)
    (Pre : Pt → Array Value → Prop) (Post : Pt → Array Value → Option Value → Pt → Prop) (PostX : Pt → Array Value → Addr → Pt → Prop) : Prop :=
  ∀ (m : MethodId) (meth : Method) (c : Code) (A : Pt) (g : JFrame) (ig : Instr) (mk : MethodId) (a : Array Value),
    Stand p l e R s m sargs below meth c A.U A.locs A.cells A.slots → g.method = m → g.locals.size = c.maxLocals → decode c.code g.pc = .ok (ig, len) →
    2 * g.monitorRoom + (g.stack.map fun v => v.category).sum ≤ W9 → A.U.methodNamed? y = some mk → Pre A a →
    (∃ (v : Option Value) (B : Pt), Stand p l e R s m sargs below meth c B.U B.locs B.cells B.slots ∧ Post A a v B ∧
      Steps p.tables e below (doInvoke e (A.U.setTop g) [] mk a).1 (B.U.setTop { g with pc := g.pc + len, stack := v.toList ++ g.stack })) ∨
    (∃ (q : Addr) (B : Pt), Stand p l e R s m sargs below meth c B.U B.locs B.cells B.slots ∧ PostX A a q B ∧
      Steps p.tables e below (doInvoke e (A.U.setTop g) [] mk a).1 ((B.U.setTop g).pushFrame (.throwing q)))
section Payer
variable {l : Launch} {R : Room} {p : Program} {e : Env} {below : List Frame} {s : State} {sargs : Array Value} {y : MethodName} {len W9 : Nat}
theorem vx_back {ws : List Cond} {rm : Room} {Pc : Array Value → State → Prop} {Qc : Array Value → State → Outcome → State → Prop} {XC : String → State → State → Prop} {mc ms : Nat} {free : Addr → Prop} {bytes : ByteArray} {maxL : Nat} {ret : Option FieldType}
    (hM : vx_Met l y ws rm Pc Qc XC mc ms free) (hblind : FrameBlind Pc) (hrc : rm.cells = mc) (hrs : rm.slots = ms)
    (hframes : rm.frames + 1 ≤ R.frames) (hlocals : W9 + (maxL + 11) + rm.locals ≤ R.locals)
    (hws : ∀ w ∈ ws, ∀ a' U, s.WarmedH U.vm → w.before a' U = true) (hcode : Cond.code y bytes maxL ret ∈ ws) (hinit : ∀ a' U, s.WarmedH U.vm → (Cond.initialized y.cls).before a' U = true) :
    vx_Back l R p e below s sargs y len W9 (PreOf R mc ms Pc) (PostOf Qc mc ms free) (vx_Post XC mc ms free) := by
  intro m meth c A g ig mk a X hg hsize hdg hW hn hp
  have h1 : (headSpec ws rm).pre.before a A.U = true := atoms_intro fun w hw => hws w hw _ _ X.warmed
  have h2 : (Cond.code y bytes maxL ret).before a A.U = true := hws _ hcode _ _ X.warmed
  have h3 : (Cond.initialized y.cls).before a A.U = true := hinit _ _ X.warmed
  have h4 : A.cells + (headSpec ws rm).room.cells ≤ R.cells := by rw [show (headSpec ws rm).room.cells = mc from hrc]; exact hp.1
  have h5 : A.slots + (headSpec ws rm).room.slots ≤ R.slots := by rw [show (headSpec ws rm).room.slots = ms from hrs]; exact hp.2.1
  have hPc : Pc a (A.U.calling g mk a) := hblind _ _ _ _ hp.2.2
  obtain ⟨U, Ls, c0, s0⟩ := A
  dsimp only [Pt.U, Pt.locs, Pt.cells, Pt.slots] at h1 h2 h3 h4 h5 X hn hPc ⊢
  obtain ⟨methY, cY, hmY, hcY, -, hlY, -, -, -, -⟩ := Cond.code_spec hn h2
  obtain ⟨kY, hkY, -⟩ := className_of_methodNamed hn
  have hinitY : kY.init = .initialized := Cond.initialized_spec (findClass_of_methodNamed hn) hkY h3
  have h : At U g.method c below := by rw [hg]; exact X.here
  have hlocals9 : W9 + (maxL + 11) + (headSpec ws rm).room.locals ≤ R.locals := hlocals
  have happ : (headSpec ws rm).appliesLoose y e.platform (U.calling g mk a) = true :=
    Spec.appliesLoose_calling (g := g) h hdg hn hkY hinitY
      (X.room_calling (g := g) (R' := (headSpec ws rm).room) hsize hmY hcY hframes (by rw [hlY]; omega) h4 h5) h1
  obtain ⟨mid, hmid⟩ := h.above
  have hfr : (U.setTop g).frames = (.java g :: mid) ++ below := by rw [State.frames_setTop' g h.top, hmid]; rfl
  obtain ⟨o, s₂, hsteps, -, hend, hq⟩ := Steps.callFree hM p X.admits X.cas X.clock (acts := []) hfr happ hPc trivial
  have hq' : vx_Q Qc XC mc ms free a (U.calling g mk a) o s₂ := hq
  rw [State.frames_setTop' g h.top] at hend
  obtain ⟨g₀, hg0⟩ := Option.isSome_iff_exists.mp h.top
  obtain ⟨r, hr⟩ := State.topJava?_eq_some.mp hg0
  have hr' : (({ U with heap := s₂.heap, slotsUsed := s₂.slotsUsed } : State).setVm s₂.vm).frames = .java g₀ :: r := hr
  rcases hq' with ⟨hqc, L, hfe, hL⟩ | ⟨q, rfl, E, ce, L, hx, hce, hcv, hcl, hW₂, hsm, hL⟩
  · obtain ⟨⟨v, rfl⟩, hW₂, e2, q2, q3, q4, q5, q6⟩ := id hfe
    have e3 : s₂ = ({ (U.calling g mk a).setFrames s₂.frames with heap := s₂.heap, slotsUsed := s₂.slotsUsed } : State).setVm s₂.vm := by
      have : s₂ = ({ s₂ with vm := (U.calling g mk a).vm } : State).setVm s₂.vm := rfl
      rw [e2] at this
      exact this
    obtain ⟨c₂, i₂, len₂, hc₂, hd₂, hf₂⟩ := hend
    have hW' : U.WarmedH s₂.vm := hW₂
    have hcc : c₂ = c := by
      have h1 : s₂.code? g.method = U.code? g.method := by
        rw [State.code?_eq, State.code?_eq, hW'.alike.method?]
      exact Option.some.inj (hc₂.symm.trans (h1.trans h.code))
    subst hcc
    have hlen : len₂ = len := by rw [hdg] at hd₂; cases hd₂; rfl
    subst hlen
    have hs₂ : s₂ = (({ U with heap := s₂.heap, slotsUsed := s₂.slotsUsed } : State).setVm s₂.vm).setTop { g with pc := g.pc + len₂, stack := v.toList ++ g.stack } := by
      refine e3.trans ?_
      rw [hf₂, State.calling_eq h.top, State.setFrames_setFrames, State.setTop_of_frames _ hr', hr]
      rfl
    have hsame : U.sameButNew ({ U with heap := s₂.heap, slotsUsed := s₂.slotsUsed } : State) L mc ms := by
      refine ⟨?_, q2, q3, q4, q5, q6⟩
      obtain ⟨t, ht, -⟩ := State.frames_cons hr
      show ({ U with heap := s₂.heap, slotsUsed := s₂.slotsUsed } : State) = { U.setFrames U.frames with heap := s₂.heap, slotsUsed := s₂.slotsUsed }
      rw [State.setFrames_self ht]
    subst hg
    refine Or.inl ⟨v, ⟨(({ U with heap := s₂.heap, slotsUsed := s₂.slotsUsed } : State).setVm s₂.vm), Ls ++ L, c0 + mc, s0 + ms⟩,
      ⟨X.admits, X.cas, X.clock, X.frames, X.room, X.hears, X.method, X.code, (X.here.setHeapUsed s₂.heap s₂.slotsUsed).setVm hW'.alike, X.tail, State.WarmedH.trans X.warmed hW', X.limits, X.bytes, X.same.trans (hsame.setVm s.vm)⟩,
      ⟨g, mk, s₂, L, rfl, rfl, hqc, rfl, hL, rfl, rfl⟩, ?_⟩
    show Steps p.tables e below _ ((({ U with heap := s₂.heap, slotsUsed := s₂.slotsUsed } : State).setVm s₂.vm).setTop { g with pc := g.pc + len₂, stack := v.toList ++ g.stack })
    rw [← hs₂]
    exact hsteps
  · obtain ⟨e2, q2, q3, q4, q5, q6⟩ := id hsm
    have e3 : s₂ = ({ (U.calling g mk a).setFrames s₂.frames with heap := s₂.heap, slotsUsed := s₂.slotsUsed } : State).setVm s₂.vm := by
      have : s₂ = ({ s₂ with vm := (U.calling g mk a).vm } : State).setVm s₂.vm := rfl
      rw [e2] at this
      exact this
    have hf₂ : s₂.frames = .throwing q :: .java g :: U.frames.tail := hend
    have hW' : U.WarmedH s₂.vm := hW₂
    have hs₂ : s₂ = ((({ U with heap := s₂.heap, slotsUsed := s₂.slotsUsed } : State).setVm s₂.vm).setTop g).pushFrame (.throwing q) := by
      refine e3.trans ?_
      rw [hf₂, State.calling_eq h.top, State.setFrames_setFrames, State.pushFrame, State.frames_setTop _ hr', State.setTop_of_frames _ hr', State.setFrames_setFrames, hr]
      rfl
    have hsame : U.sameButNew ({ U with heap := s₂.heap, slotsUsed := s₂.slotsUsed } : State) L mc ms := by
      refine ⟨?_, q2, q3, q4, q5, q6⟩
      obtain ⟨t, ht, -⟩ := State.frames_cons hr
      show ({ U with heap := s₂.heap, slotsUsed := s₂.slotsUsed } : State) = { U.setFrames U.frames with heap := s₂.heap, slotsUsed := s₂.slotsUsed }
      rw [State.setFrames_self ht]
    subst hg
    refine Or.inr ⟨q, ⟨(({ U with heap := s₂.heap, slotsUsed := s₂.slotsUsed } : State).setVm s₂.vm), Ls ++ L, c0 + mc, s0 + ms⟩,
      ⟨X.admits, X.cas, X.clock, X.frames, X.room, X.hears, X.method, X.code, (X.here.setHeapUsed s₂.heap s₂.slotsUsed).setVm hW'.alike, X.tail, State.WarmedH.trans X.warmed hW', X.limits, X.bytes, X.same.trans (hsame.setVm s.vm)⟩,
      ⟨g, mk, s₂, L, E, ce, rfl, rfl, hx, hce, hcv, hcl, rfl, hL, rfl, rfl⟩, ?_⟩
    show Steps p.tables e below _ (((({ U with heap := s₂.heap, slotsUsed := s₂.slotsUsed } : State).setVm s₂.vm).setTop g).pushFrame (.throwing q))
    rw [← hs₂]
    exact hsteps
end Payer
section Calls
variable {p : Program} {l : Launch} {e : Env} {R : Room} {s : State} {m : MethodId} {args : Array Value} {below : List Frame} {meth : Method} {c : Code} {T : State} {locs : List Loc} {cells slots : Nat}
theorem vx_callV (X : Stand p l e R s m args below meth c T locs cells slots) (hexec : p.tables.exec = Jvm.exec) {own C : String} {index : Nat} {y : MethodName} {bytes : ByteArray} {maxL : Nat} {ret : Option FieldType}
    (hown : s.vm.findClass own = some m.cls) (hlink : (Cond.methodLink own index y).before args s = true) (hinst : (Cond.instanceMethod y).before args s = true) (hsel : (Cond.selects C y y).before args s = true)
    (hcode : (Cond.code y bytes maxL ret).before args s = true) (hy : y.cls ≠ "java/lang/invoke/MethodHandle" ∧ y.cls ≠ "java/lang/invoke/VarHandle")
    {W9 : Nat} {Pre : Pt → Array Value → Prop} {Post : Pt → Array Value → Option Value → Pt → Prop} {PostX : Pt → Array Value → Addr → Pt → Prop} (hK : vx_Back l R p e below s args y 3 W9 Pre Post PostX)
    {b : Addr} {cellB : Cell} (hcell : T.heap[b]? = some cellB) (hobj : cellB.vm.isStatics = false) (hcls : s.vm.findClass C = some cellB.cls)
    {g : JFrame} (hg : g.method = m) (hsize : g.locals.size = c.maxLocals) {argsL rest : List Value} (hlen : ∀ sig, parseMethodDescriptor y.desc = some sig → argsL.length = sig.parameters.length)
    (hstack : g.stack = argsL.reverse ++ .ref b :: rest) (hW : 2 * g.monitorRoom + (rest.map fun v => v.category).sum ≤ W9) (hdg : decode c.code g.pc = .ok (.invokevirtual index, 3))
    (hpre : ∀ vm₁, s.WarmedH vm₁ → Pre ⟨T.setVm vm₁, locs, cells, slots⟩ (Value.ref b :: argsL).toArray) :
    (∃ (v : Option Value) (vm₁ : Vm) (B : Pt), s.WarmedH vm₁ ∧ Stand p l e R s m args below meth c B.U B.locs B.cells B.slots ∧ Post ⟨T.setVm vm₁, locs, cells, slots⟩ (Value.ref b :: argsL).toArray v B ∧
      ∀ target, Steps p.tables e below (B.U.setTop { g with pc := g.pc + 3, stack := v.toList ++ rest }) target → Steps p.tables e below (T.setTop g) target) ∨
    (∃ (q : Addr) (vm₁ : Vm) (B : Pt), s.WarmedH vm₁ ∧ Stand p l e R s m args below meth c B.U B.locs B.cells B.slots ∧ PostX ⟨T.setVm vm₁, locs, cells, slots⟩ (Value.ref b :: argsL).toArray q B ∧
      Steps p.tables e below (T.setTop g) ((B.U.setTop { g with stack := rest }).pushFrame (.throwing q))) := by
  obtain ⟨mk, methM, hnamed, hmethM, hstM, habM⟩ := Cond.instanceMethod_spec hinst
  obtain ⟨methM', cM, hmethM', -, -, -, -, -, -, hsigM⟩ := Cond.code_spec hnamed hcode
  cases hmethM.symm.trans hmethM'
  obtain ⟨c2, r2, m2, q1, q2, q3, q4, kP, hkP, hkPi⟩ := Cond.selects_spec hsel
  cases hcls.symm.trans q1
  cases (State.methodFound?_of_named hnamed hy).symm.trans q2
  cases hnamed.symm.trans q3
  have hselP : selectMethod e.platform s.vm cellB.cls mk = .method mk := by rw [Launch.admits_selectMethod X.admits]; exact q4
  obtain ⟨vm₁, X₁, hstep₁⟩ := X.invokevirtual hexec hown hlink hnamed hmethM hstM hkP hkPi hy (a := b) (cell := cellB) hcell
    (fun z h => by rw [h] at hobj; cases hobj) hselP hmethM habM hkP hkPi (g := g) hg (argsL := argsL) (rest := rest) (hlen _ hsigM) hstack hdg
  rcases hK m meth c ⟨T.setVm vm₁, locs, cells, slots⟩ { g with stack := rest } (.invokevirtual index) mk (Value.ref b :: argsL).toArray X₁ hg hsize hdg hW (X₁.named hnamed) (hpre vm₁ X₁.warmed) with ⟨v, B, X', hpost, hsteps⟩ | ⟨q, B, X', hpost, hsteps⟩
  · exact Or.inl ⟨v, vm₁, B, X₁.warmed, X', hpost, fun target h => hstep₁ _ fun acts => by rw [doInvoke_state]; exact hsteps.trans h⟩
  · exact Or.inr ⟨q, vm₁, B, X₁.warmed, X', hpost, hstep₁ _ fun acts => by rw [doInvoke_state]; exact hsteps⟩
theorem vx_callS (X : Stand p l e R s m args below meth c T locs cells slots) (hexec : p.tables.exec = Jvm.exec) {own : String} {index : Nat} {y : MethodName} {bytes : ByteArray} {maxL : Nat} {ret : Option FieldType}
    (hown : s.vm.findClass own = some m.cls) (hlink : (Cond.methodLink own index y).before args s = true) (hstat : (Cond.static y).before args s = true) (hinit : (Cond.initialized y.cls).before args s = true)
    (hcode : (Cond.code y bytes maxL ret).before args s = true) (hy : y.cls ≠ "java/lang/invoke/MethodHandle" ∧ y.cls ≠ "java/lang/invoke/VarHandle")
    {W9 : Nat} {Pre : Pt → Array Value → Prop} {Post : Pt → Array Value → Option Value → Pt → Prop} {PostX : Pt → Array Value → Addr → Pt → Prop} (hK : vx_Back l R p e below s args y 3 W9 Pre Post PostX)
    {g : JFrame} (hg : g.method = m) (hsize : g.locals.size = c.maxLocals) {argsL rest : List Value} (hlen : ∀ sig, parseMethodDescriptor y.desc = some sig → argsL.length = sig.parameters.length)
    (hstack : g.stack = argsL.reverse ++ rest) (hW : 2 * g.monitorRoom + (rest.map fun v => v.category).sum ≤ W9) (hdg : decode c.code g.pc = .ok (.invokestatic index, 3))
    (hpre : ∀ vm₁, s.WarmedH vm₁ → Pre ⟨T.setVm vm₁, locs, cells, slots⟩ argsL.toArray) :
    (∃ (v : Option Value) (vm₁ : Vm) (B : Pt), s.WarmedH vm₁ ∧ Stand p l e R s m args below meth c B.U B.locs B.cells B.slots ∧ Post ⟨T.setVm vm₁, locs, cells, slots⟩ argsL.toArray v B ∧
      ∀ target, Steps p.tables e below (B.U.setTop { g with pc := g.pc + 3, stack := v.toList ++ rest }) target → Steps p.tables e below (T.setTop g) target) ∨
    (∃ (q : Addr) (vm₁ : Vm) (B : Pt), s.WarmedH vm₁ ∧ Stand p l e R s m args below meth c B.U B.locs B.cells B.slots ∧ PostX ⟨T.setVm vm₁, locs, cells, slots⟩ argsL.toArray q B ∧
      Steps p.tables e below (T.setTop g) ((B.U.setTop { g with stack := rest }).pushFrame (.throwing q))) := by
  obtain ⟨mk, hnamed⟩ := Cond.code_named hcode
  obtain ⟨methM, cM, hmethM, -, -, -, -, -, -, hsigM⟩ := Cond.code_spec hnamed hcode
  have hstatic : methM.isStatic = true := Cond.static_spec hnamed hmethM hstat
  obtain ⟨kP, hkP, -⟩ := className_of_methodNamed hnamed
  have hinitP : kP.init = .initialized := Cond.initialized_spec (findClass_of_methodNamed hnamed) hkP hinit
  obtain ⟨vm₁, X₁, hstep₁⟩ := X.invokestatic hexec hown hlink hnamed hmethM hstatic hkP hinitP hy (g := g) hg (argsL := argsL) (rest := rest) (hlen _ hsigM) hstack hdg
  rcases hK m meth c ⟨T.setVm vm₁, locs, cells, slots⟩ { g with stack := rest } (.invokestatic index) mk argsL.toArray X₁ hg hsize hdg hW (X₁.named hnamed) (hpre vm₁ X₁.warmed) with ⟨v, B, X', hpost, hsteps⟩ | ⟨q, B, X', hpost, hsteps⟩
  · exact Or.inl ⟨v, vm₁, B, X₁.warmed, X', hpost, fun target h => hstep₁ _ fun acts => by rw [doInvoke_state]; exact hsteps.trans h⟩
  · exact Or.inr ⟨q, vm₁, B, X₁.warmed, X', hpost, hstep₁ _ fun acts => by rw [doInvoke_state]; exact hsteps⟩
end Calls
theorem vx_cls {s : State} {T : State} {vm₁ : Vm} {E : String} {k : ClassId} (hW : s.WarmedH vm₁) (h : (T.setVm vm₁).vm.findClass E = some k) : s.vm.findClass E = some k := by
  have h1 : vm₁.findClass E = some k := h
  rw [hW.alike.findClass] at h1
  exact h1
/-- the method's frame g, with q thrown over it -/
def vx_W (p : Program) (l : Launch) (e : Env) (R : Room) (s : State) (m : MethodId) (args : Array Value) (below : List Frame) (meth : Method) (c : Code) (H : Heap) (locs : List Loc) (cells slots : Nat) (Q : State → Prop) (g : JFrame) (q : Addr) : Prop :=
  ∀ T : State, T.heap = H → Stand p l e R s m args below meth c T locs cells slots → ∃ t, Steps p.tables e below ((T.setTop g).pushFrame (.throwing q)) t ∧ Q t
def vx_Run (p : Program) (l : Launch) (e : Env) (R : Room) (s : State) (m : MethodId) (args : Array Value) (below : List Frame) (meth : Method) (c : Code) (H : Heap) (locs : List Loc) (cells slots mc ms : Nat) (g : JFrame) (rest : List Value) (Qa : State → Outcome → State → Prop) (XC : String → State → State → Prop) (free : Addr → Prop) : Prop :=
  ∀ T : State, T.heap = H → Stand p l e R s m args below meth c T locs cells slots →
    (∃ (v : Option Value) (st₀ t T' : State) (L : List Loc), st₀.heap = H ∧ Stand p l e R s m args below meth c T' (locs ++ L) (cells + mc) (slots + ms) ∧ (∀ q ∈ L, free q.base) ∧ T'.heap = t.heap ∧ T'.vm = t.vm ∧ Qa st₀ (.returned v) t ∧
      Goes p e below T g T' { g with pc := g.pc + 3, stack := v.toList ++ rest }) ∨
    (∃ (q : Addr) (st₀ t T' : State) (L : List Loc) (E : String) (ce : Cell), st₀.heap = H ∧ Stand p l e R s m args below meth c T' (locs ++ L) (cells + mc) (slots + ms) ∧ (∀ z ∈ L, free z.base) ∧ T'.heap = t.heap ∧ T'.vm = t.vm ∧ XC E st₀ t ∧ t.heap[q]? = some ce ∧ ce.vm = .none ∧ s.vm.findClass E = some ce.cls ∧
      Steps p.tables e below (T.setTop g) ((T'.setTop { g with stack := rest }).pushFrame (.throwing q)))
def vx_X {S : Type} (px : S → Prop) (B : String → S → State → Prop) (A : Nat → Prop) : String → State → State → Prop := fun E st t => ∃ u : S, px u ∧ B E u t ∧ va_F A st t
section Runs
variable {p : Program} {l : Launch} {e : Env} {R : Room} {s : State} {m : MethodId} {args : Array Value} {below : List Frame} {meth : Method} {c : Code} {H : Heap} {locs : List Loc} {cells slots : Nat}
variable {y : MethodName} {bytes cc : ByteArray} {maxL nL mc ms n index : Nat} {ret : Option FieldType} {ws : List Cond} {rm : Room} {Pc : Array Value → State → Prop} {Qc : Array Value → State → Outcome → State → Prop} {XC : String → State → State → Prop} {free : Addr → Prop} {Ts : List Cond} {own C : String} {b : Addr} {As rest : List Value} {g : JFrame}
theorem vx_callBack (cb : CallB R s args own index y bytes maxL ret ws rm mc ms n) (hM : vx_Met l y ws rm Pc Qc XC mc ms free) (hbl : FrameBlind Pc) : vx_Back l R p e below s args y 3 8 (PreOf R mc ms Pc) (PostOf Qc mc ms free) (vx_Post XC mc ms free) := by
  obtain ⟨hrc, hrs, hfr, hlo, hws, hcw, -, hini, -⟩ := cb
  exact vx_back (bytes := bytes) (maxL := maxL) (ret := ret) hM hbl hrc hrs hfr hlo hws hcw (fun a' U hW => word_at hW (Or.inl (by first | rfl | simp [Cond.onTables, Cond.keeps, Cond.steady])) hini)
theorem vx_runV (S : CallFix p m c cc nL s args Ts own) (hM : vx_Met l y ws rm Pc Qc XC mc ms free) (cw : CallW R s args own C index y bytes maxL ret ws rm mc ms n) (hp : PreV s H C b Pc As)
    (hg : g.method = m) (hn : As.length = n) (hsize : g.locals.size = nL) (hstack : g.stack = As.reverse ++ .ref b :: rest) (hW : 2 * g.monitorRoom + (rest.map fun v => v.category).sum ≤ 8) (hdg : decode cc g.pc = .ok (.invokevirtual index, 3)) (hf : cells + mc ≤ R.cells ∧ slots + ms ≤ R.slots) :
    vx_Run p l e R s m args below meth c H locs cells slots mc ms g rest (Qc (Value.ref b :: As).toArray) XC free := by
  have hK : vx_Back l R p e below s args y 3 8 (PreOf R mc ms Pc) (PostOf Qc mc ms free) (vx_Post XC mc ms free) := vx_callBack cw.1 hM hp.1
  obtain ⟨⟨-, -, -, -, -, -, hcode, -, hy, hlen, hl⟩, hin, hse⟩ := cw
  obtain ⟨hx, hb, hml, ho, -⟩ := S
  obtain ⟨-, ⟨cellB, hcB, hoB, hclB⟩, hPc⟩ := hp
  intro T hT X
  rcases vx_callV X hx (C := C) (bytes := bytes) (maxL := maxL) (ret := ret) ho hl hin hse hcode hy hK (by rw [hT]; exact hcB) hoB hclB hg (hsize.trans hml.symm) (argsL := As) (rest := rest) (fun sig h => hn.trans (hlen sig h)) hstack hW (by rw [hb]; exact hdg)
    (fun vm₁ hW₁ => ⟨hf.1, hf.2, hPc (T.setVm vm₁) hT hW₁⟩) with ⟨v, vm₁, ⟨U', l2, c2, s2⟩, hW₁, X', ⟨g', mk, t, L, e1, e2, hq, h1, hL, h2, h3⟩, st⟩ | ⟨q, vm₁, ⟨U', l2, c2, s2⟩, hW₁, X', ⟨g', mk, t, L, E, ce, e1, e2, hq, hce, hcv, hcl, h1, hL, h2, h3⟩, st⟩
  · dsimp only [Pt.U, Pt.locs, Pt.cells, Pt.slots] at X' e1 e2 h1 h2 h3 st
    subst h1; subst h2; subst h3
    exact Or.inl ⟨v, (T.setVm vm₁).calling g' mk (Value.ref b :: As).toArray, t, U', L, hT, X', hL, e1, e2, hq, st⟩
  · dsimp only [Pt.U, Pt.locs, Pt.cells, Pt.slots] at X' e1 e2 h1 h2 h3 st hcl
    subst h1; subst h2; subst h3
    exact Or.inr ⟨q, (T.setVm vm₁).calling g' mk (Value.ref b :: As).toArray, t, U', L, E, ce, hT, X', hL, e1, e2, hq, hce, hcv, vx_cls hW₁ hcl, st⟩
theorem vx_runS (S : CallFix p m c cc nL s args Ts own) (hM : vx_Met l y ws rm Pc Qc XC mc ms free) (cw : CallB R s args own index y bytes maxL ret ws rm mc ms n ∧ (Cond.static y).before args s = true) (hp : PreS s H Pc As)
    (hg : g.method = m) (hn : As.length = n) (hsize : g.locals.size = nL) (hstack : g.stack = As.reverse ++ rest) (hW : 2 * g.monitorRoom + (rest.map fun v => v.category).sum ≤ 8) (hdg : decode cc g.pc = .ok (.invokestatic index, 3)) (hf : cells + mc ≤ R.cells ∧ slots + ms ≤ R.slots) :
    vx_Run p l e R s m args below meth c H locs cells slots mc ms g rest (Qc As.toArray) XC free := by
  have hK : vx_Back l R p e below s args y 3 8 (PreOf R mc ms Pc) (PostOf Qc mc ms free) (vx_Post XC mc ms free) := vx_callBack cw.1 hM hp.1
  obtain ⟨⟨-, -, -, -, -, -, hcode, hini, hy, hlen, hl⟩, hstt⟩ := cw
  obtain ⟨hx, hb, hml, ho, -⟩ := S
  intro T hT X
  rcases vx_callS X hx (bytes := bytes) (maxL := maxL) (ret := ret) ho hl hstt hini hcode hy hK hg (hsize.trans hml.symm) (argsL := As) (rest := rest) (fun sig h => hn.trans (hlen sig h)) hstack hW (by rw [hb]; exact hdg)
    (fun vm₁ hW₁ => ⟨hf.1, hf.2, hp.2 (T.setVm vm₁) hT hW₁⟩) with ⟨v, vm₁, ⟨U', l2, c2, s2⟩, hW₁, X', ⟨g', mk, t, L, e1, e2, hq, h1, hL, h2, h3⟩, st⟩ | ⟨q, vm₁, ⟨U', l2, c2, s2⟩, hW₁, X', ⟨g', mk, t, L, E, ce, e1, e2, hq, hce, hcv, hcl, h1, hL, h2, h3⟩, st⟩
  · dsimp only [Pt.U, Pt.locs, Pt.cells, Pt.slots] at X' e1 e2 h1 h2 h3 st
    subst h1; subst h2; subst h3
    exact Or.inl ⟨v, (T.setVm vm₁).calling g' mk As.toArray, t, U', L, hT, X', hL, e1, e2, hq, st⟩
  · dsimp only [Pt.U, Pt.locs, Pt.cells, Pt.slots] at X' e1 e2 h1 h2 h3 st hcl
    subst h1; subst h2; subst h3
    exact Or.inr ⟨q, (T.setVm vm₁).calling g' mk As.toArray, t, U', L, E, ce, hT, X', hL, e1, e2, hq, hce, hcv, vx_cls hW₁ hcl, st⟩
end Runs
section Rows
variable {p : Program} {l : Launch} {e : Env} {R : Room} {s : State} {m : MethodId} {args : Array Value} {below : List Frame} {meth : Method} {c : Code} {H : Heap} {locs : List Loc} {cells slots : Nat} {Q : State → Prop}
variable {mc ms : Nat} {free : Addr → Prop} {A0 A1 : Nat → Prop} {H0 : Heap} {a : Array Value} {pc : Nat} {ls : Array Slot} {st0 rest : List Value}
theorem vx_keep {st₀ t T' : State} {L : List Loc} (h0 : st₀.heap = H) (e1 : T'.heap = t.heap) (hS : va_S A0 H0 H locs) (hA : ∀ q, q < H.size → A1 q → A0 q) (hf : ∀ q, free q → A0 q) (hL : ∀ q ∈ L, free q.base) (hF : va_F A1 st₀ t) :
    H.size ≤ T'.heap.size ∧ (∀ q : Nat, q < H.size → ¬ A1 q → T'.heap[q]? = H[q]?) ∧ va_S A0 H0 T'.heap (locs ++ L) := by
  obtain ⟨hz, hk⟩ := hF
  rw [h0] at hz hk
  exact ⟨by rw [e1]; exact hz, fun q h1 h2 => by rw [e1]; exact hk q h1 h2,
    ⟨Nat.le_trans hS.1 (by rw [e1]; exact hz), fun q h1 h2 => by rw [e1, hk q (Nat.lt_of_lt_of_le h1 hS.1) (fun z => h2 (hA q (Nat.lt_of_lt_of_le h1 hS.1) z))]; exact hS.2.1 q h1 h2, fun q hq => by
      rcases List.mem_append.mp hq with h | h
      · exact hS.2.2 q h
      · exact hf _ (hL q h)⟩⟩
theorem vx_calli {S SX : Type} {post : Int32 → S → Prop} {px : SX → Prop} {B : S → State → Prop} {BX : String → SX → State → Prop} {AX : Nat → Prop} (hr : vx_Run p l e R s m args below meth c H locs cells slots mc ms (F0 m pc ls st0) rest (va_Qi post B A1 a) (vx_X px BX AX) free) (hS : va_S A0 H0 H locs) (hA : ∀ q, q < H.size → A1 q → A0 q) (hf : ∀ q, free q → A0 q) (hAX : ∀ q, q < H.size → AX q → A0 q)
    (kx : ∀ (E : String) (ce : Cell) (q9 : Addr) (u : SX) (t : State) (H1 : Heap) (locs1 : List Loc), t.heap = H1 → s.vm.Alike t.vm → px u → BX E u t → H.size ≤ H1.size → (∀ q : Nat, q < H.size → ¬ AX q → H1[q]? = H[q]?) → va_S A0 H0 H1 locs1 → H1[q9]? = some ce → ce.vm = .none → s.vm.findClass E = some ce.cls → vx_W p l e R s m args below meth c H1 locs1 (cells + mc) (slots + ms) Q (F0 m pc ls rest) q9)
    (kk : ∀ (r : Int32) (u : S) (t : State) (H1 : Heap) (locs1 : List Loc), t.heap = H1 → s.vm.Alike t.vm → post r u → B u t → H.size ≤ H1.size → (∀ q : Nat, q < H.size → ¬ A1 q → H1[q]? = H[q]?) → va_S A0 H0 H1 locs1 → W p l e R s m args below meth c H1 locs1 (cells + mc) (slots + ms) Q (F0 m (pc + 3) ls (.int r :: rest))) : W p l e R s m args below meth c H locs cells slots Q (F0 m pc ls st0) := by
  intro T hT X
  rcases hr T hT X with ⟨v, st₀, t, T', L, h0, X', hL, e1, e2, ⟨⟨r, u, hv, hp, hb⟩, hF⟩, st⟩ | ⟨q, st₀, t, T', L, E, ce, h0, X', hL, e1, e2, ⟨u, hp, hb, hF⟩, hce, hcv, hcl, st⟩
  · cases hv
    obtain ⟨k1, k2, k3⟩ := vx_keep h0 e1 hS hA hf hL hF
    obtain ⟨t2, a1, b1⟩ := kk r u t T'.heap (locs ++ L) e1.symm (by rw [← e2]; exact X'.warmed.alike) hp hb k1 k2 k3 T' rfl X'
    exact ⟨t2, st t2 a1, b1⟩
  · obtain ⟨k1, k2, k3⟩ := vx_keep h0 e1 hS hAX hf hL hF
    obtain ⟨t2, a1, b1⟩ := kx E ce q u t T'.heap (locs ++ L) e1.symm (by rw [← e2]; exact X'.warmed.alike) hp hb k1 k2 k3 (by rw [e1]; exact hce) hcv hcl T' rfl X'
    exact ⟨t2, st.trans a1, b1⟩
theorem vx_calll {S SX : Type} {post : Int64 → S → Prop} {px : SX → Prop} {B : S → State → Prop} {BX : String → SX → State → Prop} {AX : Nat → Prop} (hr : vx_Run p l e R s m args below meth c H locs cells slots mc ms (F0 m pc ls st0) rest (va_Ql post B A1 a) (vx_X px BX AX) free) (hS : va_S A0 H0 H locs) (hA : ∀ q, q < H.size → A1 q → A0 q) (hf : ∀ q, free q → A0 q) (hAX : ∀ q, q < H.size → AX q → A0 q)
    (kx : ∀ (E : String) (ce : Cell) (q9 : Addr) (u : SX) (t : State) (H1 : Heap) (locs1 : List Loc), t.heap = H1 → s.vm.Alike t.vm → px u → BX E u t → H.size ≤ H1.size → (∀ q : Nat, q < H.size → ¬ AX q → H1[q]? = H[q]?) → va_S A0 H0 H1 locs1 → H1[q9]? = some ce → ce.vm = .none → s.vm.findClass E = some ce.cls → vx_W p l e R s m args below meth c H1 locs1 (cells + mc) (slots + ms) Q (F0 m pc ls rest) q9)
    (kk : ∀ (r : Int64) (u : S) (t : State) (H1 : Heap) (locs1 : List Loc), t.heap = H1 → s.vm.Alike t.vm → post r u → B u t → H.size ≤ H1.size → (∀ q : Nat, q < H.size → ¬ A1 q → H1[q]? = H[q]?) → va_S A0 H0 H1 locs1 → W p l e R s m args below meth c H1 locs1 (cells + mc) (slots + ms) Q (F0 m (pc + 3) ls (.long r :: rest))) : W p l e R s m args below meth c H locs cells slots Q (F0 m pc ls st0) := by
  intro T hT X
  rcases hr T hT X with ⟨v, st₀, t, T', L, h0, X', hL, e1, e2, ⟨⟨r, u, hv, hp, hb⟩, hF⟩, st⟩ | ⟨q, st₀, t, T', L, E, ce, h0, X', hL, e1, e2, ⟨u, hp, hb, hF⟩, hce, hcv, hcl, st⟩
  · cases hv
    obtain ⟨k1, k2, k3⟩ := vx_keep h0 e1 hS hA hf hL hF
    obtain ⟨t2, a1, b1⟩ := kk r u t T'.heap (locs ++ L) e1.symm (by rw [← e2]; exact X'.warmed.alike) hp hb k1 k2 k3 T' rfl X'
    exact ⟨t2, st t2 a1, b1⟩
  · obtain ⟨k1, k2, k3⟩ := vx_keep h0 e1 hS hAX hf hL hF
    obtain ⟨t2, a1, b1⟩ := kx E ce q u t T'.heap (locs ++ L) e1.symm (by rw [← e2]; exact X'.warmed.alike) hp hb k1 k2 k3 (by rw [e1]; exact hce) hcv hcl T' rfl X'
    exact ⟨t2, st.trans a1, b1⟩
theorem vx_callf {S SX : Type} {post : UInt32 → S → Prop} {px : SX → Prop} {B : S → State → Prop} {BX : String → SX → State → Prop} {AX : Nat → Prop} (hr : vx_Run p l e R s m args below meth c H locs cells slots mc ms (F0 m pc ls st0) rest (va_Qf post B A1 a) (vx_X px BX AX) free) (hS : va_S A0 H0 H locs) (hA : ∀ q, q < H.size → A1 q → A0 q) (hf : ∀ q, free q → A0 q) (hAX : ∀ q, q < H.size → AX q → A0 q)
    (kx : ∀ (E : String) (ce : Cell) (q9 : Addr) (u : SX) (t : State) (H1 : Heap) (locs1 : List Loc), t.heap = H1 → s.vm.Alike t.vm → px u → BX E u t → H.size ≤ H1.size → (∀ q : Nat, q < H.size → ¬ AX q → H1[q]? = H[q]?) → va_S A0 H0 H1 locs1 → H1[q9]? = some ce → ce.vm = .none → s.vm.findClass E = some ce.cls → vx_W p l e R s m args below meth c H1 locs1 (cells + mc) (slots + ms) Q (F0 m pc ls rest) q9)
    (kk : ∀ (r : UInt32) (u : S) (t : State) (H1 : Heap) (locs1 : List Loc), t.heap = H1 → s.vm.Alike t.vm → post r u → B u t → H.size ≤ H1.size → (∀ q : Nat, q < H.size → ¬ A1 q → H1[q]? = H[q]?) → va_S A0 H0 H1 locs1 → W p l e R s m args below meth c H1 locs1 (cells + mc) (slots + ms) Q (F0 m (pc + 3) ls (.float r :: rest))) : W p l e R s m args below meth c H locs cells slots Q (F0 m pc ls st0) := by
  intro T hT X
  rcases hr T hT X with ⟨v, st₀, t, T', L, h0, X', hL, e1, e2, ⟨⟨r, u, hv, hp, hb⟩, hF⟩, st⟩ | ⟨q, st₀, t, T', L, E, ce, h0, X', hL, e1, e2, ⟨u, hp, hb, hF⟩, hce, hcv, hcl, st⟩
  · cases hv
    obtain ⟨k1, k2, k3⟩ := vx_keep h0 e1 hS hA hf hL hF
    obtain ⟨t2, a1, b1⟩ := kk r u t T'.heap (locs ++ L) e1.symm (by rw [← e2]; exact X'.warmed.alike) hp hb k1 k2 k3 T' rfl X'
    exact ⟨t2, st t2 a1, b1⟩
  · obtain ⟨k1, k2, k3⟩ := vx_keep h0 e1 hS hAX hf hL hF
    obtain ⟨t2, a1, b1⟩ := kx E ce q u t T'.heap (locs ++ L) e1.symm (by rw [← e2]; exact X'.warmed.alike) hp hb k1 k2 k3 (by rw [e1]; exact hce) hcv hcl T' rfl X'
    exact ⟨t2, st.trans a1, b1⟩
theorem vx_calld {S SX : Type} {post : UInt64 → S → Prop} {px : SX → Prop} {B : S → State → Prop} {BX : String → SX → State → Prop} {AX : Nat → Prop} (hr : vx_Run p l e R s m args below meth c H locs cells slots mc ms (F0 m pc ls st0) rest (va_Qd post B A1 a) (vx_X px BX AX) free) (hS : va_S A0 H0 H locs) (hA : ∀ q, q < H.size → A1 q → A0 q) (hf : ∀ q, free q → A0 q) (hAX : ∀ q, q < H.size → AX q → A0 q)
    (kx : ∀ (E : String) (ce : Cell) (q9 : Addr) (u : SX) (t : State) (H1 : Heap) (locs1 : List Loc), t.heap = H1 → s.vm.Alike t.vm → px u → BX E u t → H.size ≤ H1.size → (∀ q : Nat, q < H.size → ¬ AX q → H1[q]? = H[q]?) → va_S A0 H0 H1 locs1 → H1[q9]? = some ce → ce.vm = .none → s.vm.findClass E = some ce.cls → vx_W p l e R s m args below meth c H1 locs1 (cells + mc) (slots + ms) Q (F0 m pc ls rest) q9)
    (kk : ∀ (r : UInt64) (u : S) (t : State) (H1 : Heap) (locs1 : List Loc), t.heap = H1 → s.vm.Alike t.vm → post r u → B u t → H.size ≤ H1.size → (∀ q : Nat, q < H.size → ¬ A1 q → H1[q]? = H[q]?) → va_S A0 H0 H1 locs1 → W p l e R s m args below meth c H1 locs1 (cells + mc) (slots + ms) Q (F0 m (pc + 3) ls (.double r :: rest))) : W p l e R s m args below meth c H locs cells slots Q (F0 m pc ls st0) := by
  intro T hT X
  rcases hr T hT X with ⟨v, st₀, t, T', L, h0, X', hL, e1, e2, ⟨⟨r, u, hv, hp, hb⟩, hF⟩, st⟩ | ⟨q, st₀, t, T', L, E, ce, h0, X', hL, e1, e2, ⟨u, hp, hb, hF⟩, hce, hcv, hcl, st⟩
  · cases hv
    obtain ⟨k1, k2, k3⟩ := vx_keep h0 e1 hS hA hf hL hF
    obtain ⟨t2, a1, b1⟩ := kk r u t T'.heap (locs ++ L) e1.symm (by rw [← e2]; exact X'.warmed.alike) hp hb k1 k2 k3 T' rfl X'
    exact ⟨t2, st t2 a1, b1⟩
  · obtain ⟨k1, k2, k3⟩ := vx_keep h0 e1 hS hAX hf hL hF
    obtain ⟨t2, a1, b1⟩ := kx E ce q u t T'.heap (locs ++ L) e1.symm (by rw [← e2]; exact X'.warmed.alike) hp hb k1 k2 k3 (by rw [e1]; exact hce) hcv hcl T' rfl X'
    exact ⟨t2, st.trans a1, b1⟩
theorem vx_callv {S SX : Type} {post : S → Prop} {px : SX → Prop} {B : S → State → Prop} {BX : String → SX → State → Prop} {AX : Nat → Prop} (hr : vx_Run p l e R s m args below meth c H locs cells slots mc ms (F0 m pc ls st0) rest (va_Qv post B A1 a) (vx_X px BX AX) free) (hS : va_S A0 H0 H locs) (hA : ∀ q, q < H.size → A1 q → A0 q) (hf : ∀ q, free q → A0 q) (hAX : ∀ q, q < H.size → AX q → A0 q)
    (kx : ∀ (E : String) (ce : Cell) (q9 : Addr) (u : SX) (t : State) (H1 : Heap) (locs1 : List Loc), t.heap = H1 → s.vm.Alike t.vm → px u → BX E u t → H.size ≤ H1.size → (∀ q : Nat, q < H.size → ¬ AX q → H1[q]? = H[q]?) → va_S A0 H0 H1 locs1 → H1[q9]? = some ce → ce.vm = .none → s.vm.findClass E = some ce.cls → vx_W p l e R s m args below meth c H1 locs1 (cells + mc) (slots + ms) Q (F0 m pc ls rest) q9)
    (kk : ∀ (u : S) (t : State) (H1 : Heap) (locs1 : List Loc), t.heap = H1 → s.vm.Alike t.vm → post u → B u t → H.size ≤ H1.size → (∀ q : Nat, q < H.size → ¬ A1 q → H1[q]? = H[q]?) → va_S A0 H0 H1 locs1 → W p l e R s m args below meth c H1 locs1 (cells + mc) (slots + ms) Q (F0 m (pc + 3) ls (rest))) : W p l e R s m args below meth c H locs cells slots Q (F0 m pc ls st0) := by
  intro T hT X
  rcases hr T hT X with ⟨v, st₀, t, T', L, h0, X', hL, e1, e2, ⟨⟨u, hv, hp, hb⟩, hF⟩, st⟩ | ⟨q, st₀, t, T', L, E, ce, h0, X', hL, e1, e2, ⟨u, hp, hb, hF⟩, hce, hcv, hcl, st⟩
  · cases hv
    obtain ⟨k1, k2, k3⟩ := vx_keep h0 e1 hS hA hf hL hF
    obtain ⟨t2, a1, b1⟩ := kk u t T'.heap (locs ++ L) e1.symm (by rw [← e2]; exact X'.warmed.alike) hp hb k1 k2 k3 T' rfl X'
    exact ⟨t2, st t2 a1, b1⟩
  · obtain ⟨k1, k2, k3⟩ := vx_keep h0 e1 hS hAX hf hL hF
    obtain ⟨t2, a1, b1⟩ := kx E ce q u t T'.heap (locs ++ L) e1.symm (by rw [← e2]; exact X'.warmed.alike) hp hb k1 k2 k3 (by rw [e1]; exact hce) hcv hcl T' rfl X'
    exact ⟨t2, st.trans a1, b1⟩
/-- caught by the row x of this method's table; the rows ahead don't take it -/
theorem vx_catch {own name : String} {E : String} {ce : Cell} {q : Addr} (hown : s.vm.findClass own = some m.cls) (pre : List ExceptionTableEntry) (x : ExceptionTableEntry) (suf : List ExceptionTableEntry) (hsplit : c.exceptionTable.toList = pre ++ x :: suf)
    (hpass : ∀ z ∈ pre, covers z pc = false ∨ (z.catchType ≠ 0 ∧ ∃ nm : String, (Cond.classLink own z.catchType nm).before args s = true ∧ va_Nc E nm s)) (hx : covers x pc = true) (h0 : x.catchType ≠ 0)
    (hlink : (Cond.classLink own x.catchType name).before args s = true) (hcast : (Cond.castable E name).before args s = true) (hcell : H[q]? = some ce) (hv : ce.vm = .none) (hcl : s.vm.findClass E = some ce.cls)
    (kk : W p l e R s m args below meth c H locs cells slots Q (F0 m x.handlerPc ls [.ref q])) : vx_W p l e R s m args below meth c H locs cells slots Q (F0 m pc ls rest) q := by
  intro T hT X
  have hpl : e.platform.magicAccessors = ({} : Platform).magicAccessors := by rw [X.admits.platform]
  obtain ⟨c3, c4, hc3, hc4, hasg⟩ := Cond.castable_spec hcast
  cases Option.some.inj (hc3.symm.trans hcl)
  obtain ⟨c5, hc5, hcl5⟩ := Cond.classLink_spec hown hlink e.platform hpl
  cases Option.some.inj (hc4.symm.trans hc5)
  obtain ⟨vm', X', st⟩ := X.thenCaughtThrough q (g := F0 m pc ls rest) rfl (Steps.refl _) (by rw [hT]; exact hcell) (by rw [hv]; rfl) (by obtain ⟨k9, h9, -⟩ := Vm.findClass_spec hcl; exact ⟨k9, h9⟩) pre x suf hsplit
    (fun z hz => by
      rcases hpass z hz with h | ⟨hz0, nm, hl1, hn1⟩
      · exact Or.inl h
      · obtain ⟨c6, hc6, hcl6⟩ := Cond.classLink_spec hown hl1 e.platform hpl
        obtain ⟨a8, b8, h1, h2, h3⟩ := hn1
        cases Option.some.inj (h1.symm.trans hcl)
        cases Option.some.inj (h2.symm.trans hc6)
        exact Or.inr ⟨hz0, _, hcl6, h3⟩) hx (Or.inr ⟨h0, c4, hcl5, hasg⟩)
  obtain ⟨t, a1, b1⟩ := kk (T.setVm vm') hT X'
  exact ⟨t, st.trans a1, b1⟩
end Rows
section Ends
variable {p : Program} {l : Launch} {e : Env} {R : Room} {s : State} {m : MethodId} {args : Array Value} {below : List Frame} {meth : Method} {c : Code} {H : Heap} {locs : List Loc} {cells slots : Nat} {Q : State → Prop}
variable {mc ms : Nat} {free : Addr → Prop} {A0 A1 : Nat → Prop} {H0 : Heap} {a : Array Value} {ls : Array Slot} {st0 rest : List Value}
variable {Qc : Array Value → State → Outcome → State → Prop} {XC : String → State → State → Prop}
/-- what a body that may throw owes at its end -/
def vx_MQ (below : List Frame) (Qc : Array Value → State → Outcome → State → Prop) (XC : String → State → State → Prop) (a : Array Value) (s : State) (mc ms : Nat) (free : Addr → Prop) : State → Prop := fun t =>
  ∃ o, t.status = .running ∧ Ended t below o ∧ vx_Q Qc XC mc ms free a s o t
theorem vx_ret {g : JFrame} {mc ms : Nat} (k : W p l e R s m args below meth c H locs cells slots (MQ below Qc args s mc ms free) g) : W p l e R s m args below meth c H locs cells slots (vx_MQ below Qc XC args s mc ms free) g := by
  intro T hT X
  obtain ⟨t, a1, o, b1, b2, b3, b4⟩ := k T hT X
  exact ⟨t, a1, o, b1, b2, Or.inl ⟨b3, b4⟩⟩
/-- not caught here: it goes on to the caller -/
theorem vx_widen {g : JFrame} {q : Addr} {k n : Nat} (h1 : cells ≤ k) (h2 : slots ≤ n) (kk : vx_W p l e R s m args below meth c H locs k n Q g q) : vx_W p l e R s m args below meth c H locs cells slots Q g q := fun T hT X => kk T hT (stand_widen X h1 h2)
theorem vx_out {pc : Nat} {E : String} {ce : Cell} {q : Addr} {mc ms : Nat} (hout : ∀ x ∈ c.exceptionTable.toList, covers x pc = false) (hlocks : meth.locks = false) (hcell : H[q]? = some ce) (hv : ce.vm = .none) (hcl : s.vm.findClass E = some ce.cls)
    (hx : ∀ t : State, t.heap = H → s.vm.Alike t.vm → XC E s t) (hf : ∀ z ∈ locs, free z.base) (hc : cells ≤ mc) (hs : slots ≤ ms) :
    vx_W p l e R s m args below meth c H locs cells slots (vx_MQ below Qc XC args s mc ms free) (F0 m pc ls rest) q := by
  intro T hT X
  obtain ⟨st1, hrun, hend, hW, hsm⟩ := X.leaveThrown q (g := F0 m pc ls rest) rfl rfl rfl hout hlocks
  have hcell9 : (T.setFrames (.throwing q :: below)).heap[q]? = some ce := by
    show T.heap[q]? = some ce
    rw [hT]; exact hcell
  exact ⟨_, st1, .threw q, hrun, hend, Or.inr ⟨q, rfl, E, ce, locs, hx _ hT hW.alike, hcell9, hv, hcl, hW, hsm.mono hc hs, hf⟩⟩
theorem vx_frame {U : State} {k n : Nat} (h : s.sameButNew ({ U with vm := s.vm } : State) locs k n) : s.heap.size ≤ U.heap.size ∧ ∀ q : Nat, q < s.heap.size → (∀ z ∈ locs, z.base ≠ q) → U.heap[q]? = s.heap[q]? := by
  obtain ⟨-, h2, -, -, -, h6⟩ := h
  refine ⟨h2, fun q hq hz => ?_⟩
  obtain ⟨c9, e1, e2, e3, e4⟩ := h6 q _ (Array.getElem?_eq_getElem hq)
  have hs : c9.slots = (s.heap[q]).slots := Array.ext_getElem? fun i => e4 i fun hm => hz _ hm rfl
  have h9 : c9 = s.heap[q] := by
    rw [hs] at e2
    exact e2
  have e5 : U.heap[q]? = some c9 := e1
  rw [e5, h9, Array.getElem?_eq_getElem hq]
/-- the words of a throw but the four that speak of the heap -/
def vx_no (w : Cond) : Bool := decide (w ≠ .isRef (.static Bundle.tN "UNASSIGNED_STACK" Bundle.steD)) && decide (w ≠ .isRef (.static Bundle.tN "SUPPRESSED_SENTINEL" Bundle.listD)) && decide (w ≠ .laysStatic Bundle.tN "UNASSIGNED_STACK" Bundle.steD) && decide (w ≠ .laysStatic Bundle.tN "SUPPRESSED_SENTINEL" Bundle.listD)
def vx_at0 (own : String) (ic : Nat) (X : String) (names : List String) : List Cond := (Bundle.ownAtoms0 own ic X names).filter vx_no
def vx_atS (own : String) (ic : Nat) (X : String) (names : List String) : List Cond := (Bundle.ownAtoms own ic X names).filter vx_no
/-- a word that the tables alone decide, or a good one -/
def vx_ot (w : Cond) : Bool := w.onTables || goodWord w
theorem vx_ot_at {args a' : Array Value} {s U : State} {w : Cond} (hW : s.WarmedH U.vm) (hvm : s.vm = U.vm) (hg : vx_ot w = true) (h : w.before args s = true) : w.before a' U = true := by
  simp only [vx_ot, Bool.or_eq_true] at hg
  rcases hg with hg | hg
  · exact va_tabs hg hvm h
  · exact word_at hW (good_of_word hg) h
/-- a list's words: the good ones out of the method's own list, the others by premises of their own -/
theorem vx_hat {args : Array Value} {s : State} {L B : List Cond} (h1 : ∀ w ∈ L.filter goodWord, w.before args s = true) (h2 : ∀ w ∈ L.filter (fun w => !goodWord w), w ∈ B) (h3 : ∀ w ∈ B, w.before args s = true) : ∀ w ∈ L, w.before args s = true := by
  intro w hw
  by_cases g : goodWord w = true
  · exact h1 w (List.mem_filter.mpr ⟨hw, g⟩)
  · refine h3 w (h2 w (List.mem_filter.mpr ⟨hw, ?_⟩))
    show (!goodWord w) = true
    cases hgw : goodWord w
    · rfl
    · exact absurd hgw g
theorem vx_c {args : Array Value} {s : State} {w : Cond} {B : List Cond} (h : w.before args s = true) (t : ∀ w ∈ B, w.before args s = true) : ∀ w' ∈ w :: B, w'.before args s = true := fun w' h' => (List.mem_cons.mp h').elim (fun e => by rw [e]; exact h) (t w')
theorem vx_n {args : Array Value} {s : State} : ∀ w ∈ ([] : List Cond), w.before args s = true := fun _ h => nomatch h
theorem vx_own {args : Array Value} {s : State} {L : List Cond} (h1 : ∀ w ∈ L.filter vx_no, w.before args s = true)
    (hU : (Cond.isRef (.static Bundle.tN "UNASSIGNED_STACK" Bundle.steD)).before args s = true) (hN : (Cond.isRef (.static Bundle.tN "SUPPRESSED_SENTINEL" Bundle.listD)).before args s = true)
    (lU : (Cond.laysStatic Bundle.tN "UNASSIGNED_STACK" Bundle.steD).before args s = true) (lN : (Cond.laysStatic Bundle.tN "SUPPRESSED_SENTINEL" Bundle.listD).before args s = true) : ∀ w ∈ L, w.before args s = true := by
  intro w hw
  by_cases e1 : w = .isRef (.static Bundle.tN "UNASSIGNED_STACK" Bundle.steD)
  · rw [e1]; exact hU
  · by_cases e2 : w = .isRef (.static Bundle.tN "SUPPRESSED_SENTINEL" Bundle.listD)
    · rw [e2]; exact hN
    · by_cases e3 : w = .laysStatic Bundle.tN "UNASSIGNED_STACK" Bundle.steD
      · rw [e3]; exact lU
      · by_cases e4 : w = .laysStatic Bundle.tN "SUPPRESSED_SENTINEL" Bundle.listD
        · rw [e4]; exact lN
        · exact h1 w (List.mem_filter.mpr ⟨hw, by unfold vx_no; rw [decide_eq_true e1, decide_eq_true e2, decide_eq_true e3, decide_eq_true e4]; rfl⟩)
/-- where a static field lies, its class's statics cell in H -/
def vx_L (C n d : String) (A : Nat → Prop) (U : State) (H : Heap) : Prop := ∃ (c : ClassId) (k : Class) (i : Nat) (f : Field) (a : Nat) (cell : Cell), U.vm.findClass C = some c ∧ U.fieldFound? C n d = some (c, k, i, f) ∧ f.isStatic = true ∧ k.statics = some a ∧ H[a]? = some cell ∧ cell.vm.isStatics = true ∧ cell.cls = c ∧ f.slot < cell.slots.size ∧ k.staticTypes[f.slot]? = some f.type ∧ ¬ A a
theorem vx_L.moved {C n d : String} {A : Nat → Prop} {u U : State} {H : Heap} (hvm : u.vm.Alike U.vm) (h : vx_L C n d A u H) : vx_L C n d A U H := by
  obtain ⟨c, k, i, f, a, cell, h1, h2, h3, h4, h5, h6, h7, h8, h9, h10⟩ := h
  obtain ⟨k', hi', he⟩ := State.fieldFound?_setVm hvm h2
  exact ⟨c, k', i, f, a, cell, by rw [hvm.findClass]; exact h1, hi', h3, by rw [he]; exact h4, h5, h6, h7, h8, by rw [he]; exact h9, h10⟩
theorem vx_L.kept {C n d : String} {A : Nat → Prop} {U : State} {H H1 : Heap} (h : vx_L C n d A U H) (hq : ∀ a : Nat, a < H.size → ¬ A a → H1[a]? = H[a]?) : vx_L C n d A U H1 := by
  obtain ⟨c, k, i, f, a, cell, h1, h2, h3, h4, h5, h6, h7, h8, h9, h10⟩ := h
  exact ⟨c, k, i, f, a, cell, h1, h2, h3, h4, by rw [hq a (Array.getElem?_eq_some_iff.mp h5).1 h10]; exact h5, h6, h7, h8, h9, h10⟩
theorem vx_L.narrow {C n d : String} {A B : Nat → Prop} {U : State} {H : Heap} (h : vx_L C n d A U H) (hAB : ∀ q, B q → A q) : vx_L C n d B U H := by
  obtain ⟨c, k, i, f, a, cell, h1, h2, h3, h4, h5, h6, h7, h8, h9, h10⟩ := h
  exact ⟨c, k, i, f, a, cell, h1, h2, h3, h4, h5, h6, h7, h8, h9, fun z => h10 (hAB _ z)⟩
theorem vx_L.word {C n d : String} {A : Nat → Prop} {s : State} {args : Array Value} (h : vx_L C n d A s s.heap) : (Cond.laysStatic C n d).before args s = true := by
  obtain ⟨c, k, i, f, a, cell, h1, h2, h3, h4, h5, h6, h7, h8, h9, -⟩ := h
  show (Cond.laysStatic C n d).holds args s none s [] = true
  exact Cond.laysStatic_of h1 h2 h3 h4 h5 h6 h7 h8 h9
/-- .. and what it holds: null or some reference -/
def vx_Zq (C n d : String) (A : Nat → Prop) (U : State) (H : Heap) : Prop := va_Zq C n d A U H ∧ vx_L C n d A U H
theorem vx_Zq.moved {C n d : String} {A : Nat → Prop} {u U : State} {H : Heap} (hvm : u.vm.Alike U.vm) (h : vx_Zq C n d A u H) : vx_Zq C n d A U H := ⟨va_Zq.moved hvm h.1, vx_L.moved hvm h.2⟩
theorem vx_Zq.kept {C n d : String} {A : Nat → Prop} {U : State} {H H1 : Heap} (h : vx_Zq C n d A U H) (hq : ∀ a : Nat, a < H.size → ¬ A a → H1[a]? = H[a]?) : vx_Zq C n d A U H1 := ⟨va_Zq.kept h.1 hq, vx_L.kept h.2 hq⟩
theorem vx_Zq.narrow {C n d : String} {A B : Nat → Prop} {U : State} {H : Heap} (h : vx_Zq C n d A U H) (hAB : ∀ q, B q → A q) : vx_Zq C n d B U H := ⟨va_Zq.narrow h.1 hAB, vx_L.narrow h.2 hAB⟩
theorem vx_Zqof {args : Array Value} {s : State} {C n d : String} {A : Nat → Prop} (hl : (Cond.laysStatic C n d).before args s = true) (hini : (Cond.initialized C).before args s = true) (h : (Cond.isRef (.static C n d)).before args s = true) (hA : ∀ a : Nat, a < s.heap.size → ¬ A a) : vx_Zq C n d A s s.heap := by
  refine ⟨va_Zqof hl hini h hA, ?_⟩
  obtain ⟨c, k, i, f, a, cell, h1, h2, h3, h4, h5, h6, h7, h8, h9⟩ := Cond.laysStatic_spec hl
  exact ⟨c, k, i, f, a, cell, h1, h2, h3, h4, h5, h6, h7, h8, h9, hA a (Array.getElem?_eq_some_iff.mp h5).1⟩
theorem vx_isRef {C n d : String} {v : Value} {A : Nat → Prop} {s : State} {args : Array Value} (h : va_Z C n d v A s s.heap) (hv : v.isRef = true) : (Cond.isRef (.static C n d)).before args s = true := by
  obtain ⟨cf, kf, fi, f, a, cell, h1, h2, h3, h4, h5, h6, h7, -⟩ := h
  have he : (Term.static C n d).eval args s none [] s = some v := by
    simp [Term.eval, State.fieldNamed?, h1, h2, h4, h5, h6, h7]
  simp only [Cond.before, Cond.holds, Cond.value, he]
  cases v <;> simp_all [Value.isRef]
theorem vx_isRefq {C n d : String} {A : Nat → Prop} {s : State} {args : Array Value} (h : va_Zq C n d A s s.heap) : (Cond.isRef (.static C n d)).before args s = true := by
  rcases h with h | ⟨t, h⟩
  · exact vx_isRef h rfl
  · exact vx_isRef h rfl
/-- the same frame, seen from here: as if the method were called anew in this heap -/
theorem vx_rebase {T : State} (X : Stand p l e R s m args below meth c T locs cells slots) {R' : Room} (hf : R'.frames ≤ R.frames) (hl : R'.locals ≤ R.locals) (hc : cells + R'.cells ≤ R.cells) (hs : slots + R'.slots ≤ R.slots) :
    Stand p l e R' ((T.setVm s.vm).setFrames (.invoking m args :: below)) m args below meth c T [] 0 0 := by
  have htop : (T.setVm s.vm).topJava?.isSome := X.here.top
  have hF : ((T.setVm s.vm).setFrames (.invoking m args :: below)).frames = .invoking m args :: below := State.frames_setFrames _ (State.cur_lt_of_top htop)
  obtain ⟨g₀, hg0⟩ := Option.isSome_iff_exists.mp htop
  obtain ⟨r, hr⟩ := State.topJava?_eq_some.mp hg0
  have hl9 : e.platform.stackLimits (T.setVm s.vm).me = e.platform.stackLimits s.me := X.limits
  have hb9 : (T.setVm s.vm).me.stackBytes = s.me.stackBytes := X.bytes
  refine ⟨X.admits, X.cas, X.clock, hF, ?_, X.hears, X.method, X.code, X.here, X.tail, X.warmed, ?_, ?_, ?_⟩
  · have h := X.room
    have hU : ((T.setVm s.vm).setFrames (.invoking m args :: below)).localsInUse = s.localsInUse := by
      rw [State.localsInUse_invoking hF (meth := meth) (c := c) X.method X.code, State.localsInUse_invoking X.frames X.method X.code]
    simp only [State.hasRoom, Bool.and_eq_true, decide_eq_true_eq] at h ⊢
    obtain ⟨⟨⟨⟨h1, h2, h3, h4, h5, h6⟩, h7⟩, h8⟩, h9⟩ := h
    rw [X.frames, List.length_cons] at h2 h3
    have q1 := X.heapSize
    have q2 := X.used
    simp only [hF, hU, List.length_cons, State.stackLimits_setFrames, State.stackBytes_setFrames, hl9, hb9]
    refine ⟨⟨⟨⟨by omega, by omega, by omega, by omega, by omega, h6⟩, ?_⟩, ?_⟩, X.book⟩
    · show T.heap.size + R'.cells ≤ e.platform.maxCells
      omega
    · show T.slotsUsed + R'.slots ≤ e.platform.maxSlots
      omega
  · rw [State.stackLimits_setFrames]; rfl
  · rw [State.stackBytes_setFrames]; rfl
  · refine ⟨?_, Nat.le_refl _, Nat.le_refl _, ?_, ?_, fun a c9 h9 => ⟨c9, h9, rfl, rfl, fun _ _ => rfl⟩⟩
    · obtain ⟨t, ht, -⟩ := State.frames_cons hr
      show T.setVm s.vm = { ((T.setVm s.vm).setFrames (.invoking m args :: below)).setFrames (T.setVm s.vm).frames with heap := T.heap, slotsUsed := T.slotsUsed }
      rw [State.setFrames_setFrames, State.setFrames_self ht]
      rfl
    · show T.slotsUsed = T.slotsUsed + ((T.heap.toList.drop T.heap.size).map (·.slots.size)).sum
      rw [List.drop_eq_nil_of_le (Nat.le_of_eq Array.length_toList)]
      rfl
    · show ((T.heap.toList.drop T.heap.size).map (·.slots.size)).sum ≤ 0
      rw [List.drop_eq_nil_of_le (Nat.le_of_eq Array.length_toList)]
      exact Nat.le_refl _
/-- 'throw new E()': new; dup; invokespecial; athrow -/
theorem vx_throw0 {cc : ByteArray} {pc : Nat} (hexec : p.tables.exec = Jvm.exec) (hb : c.code = cc) (hl : l.stackTraces = false) {own cls : String} {names : List String} {ik ic mc ms : Nat} {A : Nat → Prop}
    (hown : s.vm.findClass own = some m.cls) (hcls : Bundle.fit cls = true) (hnames : ∀ n ∈ names, Bundle.fit n = true)
    (hk : (Cond.classLink own ik cls).before args s = true) (hini : (Cond.initialized cls).before args s = true) (hat : ∀ w ∈ vx_at0 own ic cls names, w.before args s = true)
    (hgood : ∀ w ∈ Cond.classLink own ik cls :: Cond.initialized cls :: vx_at0 own ic cls names, vx_ot w = true)
    (hU : vx_Zq Bundle.tN "UNASSIGNED_STACK" Bundle.steD A s s.heap) (hN : vx_Zq Bundle.tN "SUPPRESSED_SENTINEL" Bundle.listD A s s.heap) (hS : va_S A s.heap H locs) (hsize : ls.size = c.maxLocals)
    (d0 : decode cc pc = .ok (.new ik, 3)) (d3 : decode cc (pc + 3) = .ok (.dup, 1)) (d4 : decode cc (pc + 4) = .ok (.invokespecial ic, 3)) (d7 : decode cc (pc + 7) = .ok (.athrow, 1))
    (hout : ∀ x ∈ c.exceptionTable.toList, covers x (pc + 7) = false)
    (hRframes : names.length + 3 < R.frames) (hRlocals : (rest.map fun v => v.category).sum + (13 * (names.length + 1) + 42) ≤ R.locals) (hRcells : cells + 1 ≤ R.cells) (hRslots : slots + 6 ≤ R.slots) (hlocks : meth.locks = false)
    (hx : ∀ t : State, s.vm.Alike t.vm → H.size ≤ t.heap.size → (∀ q : Nat, q < H.size → t.heap[q]? = H[q]?) → XC cls s t)
    (hf : ∀ z ∈ locs, free z.base) (hc : cells + 1 ≤ mc) (hs : slots + 6 ≤ ms) :
    W p l e R s m args below meth c H locs cells slots (vx_MQ below Qc XC args s mc ms free) (F0 m pc ls rest) := by
  intro T hT X
  have htr : e.platform.stackTraces = false := (show e.platform.stackTraces = l.stackTraces by rw [X.admits.platform]).trans hl
  have Y := vx_rebase X (R' := { frames := R.frames, locals := R.locals, cells := 1, slots := 6 }) (Nat.le_refl _) (Nat.le_refl _) hRcells hRslots
  obtain ⟨s', hA⟩ : ∃ z, z = (T.setVm s.vm).setFrames (.invoking m args :: below) := ⟨_, rfl⟩
  rw [← hA] at Y
  have hvm : s'.vm = s.vm := by rw [hA]; rfl
  have hhp : s'.heap = H := by rw [hA]; exact hT
  have hW0 : s.WarmedH s'.vm := by rw [hvm]; exact State.WarmedH.refl s
  have hat' : ∀ w ∈ vx_at0 own ic cls names, w.before args s' = true := fun w hw => vx_ot_at hW0 hvm.symm (hgood w (List.mem_cons_of_mem _ (List.mem_cons_of_mem _ hw))) (hat w hw)
  have hk' : (Cond.classLink own ik cls).before args s' = true := vx_ot_at hW0 hvm.symm (hgood _ List.mem_cons_self) hk
  have hini' : (Cond.initialized cls).before args s' = true := vx_ot_at hW0 hvm.symm (hgood _ (List.mem_cons_of_mem _ List.mem_cons_self)) hini
  have hU' : vx_Zq Bundle.tN "UNASSIGNED_STACK" Bundle.steD A s' s'.heap := by rw [hhp]; exact vx_Zq.moved hW0.alike (hU.kept hS.2.1)
  have hN' : vx_Zq Bundle.tN "SUPPRESSED_SENTINEL" Bundle.listD A s' s'.heap := by rw [hhp]; exact vx_Zq.moved hW0.alike (hN.kept hS.2.1)
  have h : ∀ w ∈ Bundle.ownAtoms0 own ic cls names, w.before args s' = true := vx_own hat' (vx_isRefq hU'.1) (vx_isRefq hN'.1) hU'.2.word hN'.2.word
  have hown' : s'.vm.findClass own = some m.cls := by rw [hvm]; exact hown
  have hins : (Cond.instantiable cls 6).before args s' = true := h _ (by simp [Bundle.ownAtoms0])
  obtain ⟨vm₁, cX, kX, hfX, hkX, -, -, X₁, st1⟩ := Y.newCold hexec (own := own) (C := cls) (index := ik) (n := 6) hown' hk' hins hini'
    (g := F0 m pc ls rest) rfl (by rw [hb]; exact d0) (Nat.le_refl _) (Nat.le_refl _)
  generalize hT1 : (T.setVm vm₁).pushCell { cls := cX, slots := kX.instanceTypes.map defaultValue, vm := .none } = T1 at X₁ st1
  have hcat : (Value.ref T.heap.size).category = 1 := rfl
  have hcellA : T1.heap[T.heap.size]? = some (freshCell cX kX) := by rw [← hT1]; exact State.heap_pushCell_size _ _
  have d3' : decode c.code (pc + 3) = .ok (.dup, 1) := by rw [hb]; exact d3
  obtain ⟨U, hsteps, hrun, hend, hW, hsame, ce, hce, hO⟩ := X₁.ctorThrow0 hexec htr (own := own) (cls := cls) (names := names) (ic := ic) hown' hcls hnames h (fun x hx => nomatch hx) hfX hkX hcellA (by rw [hhp, hT]; exact Nat.le_refl _)
    (g := { method := m, pc := pc + 4, locals := ls, stack := .ref T.heap.size :: .ref T.heap.size :: rest, locked := none }) rfl hsize rfl rfl (rest := rest) rfl
    (by rw [hb]; exact d4) (by rw [hb]; exact d7) hout hRframes (by simp only [List.map_cons, List.sum_cons, hcat]; omega) hlocks
  obtain ⟨f1, f2⟩ := vx_frame hsame
  rw [hhp] at f1 f2
  have hWs : s.WarmedH U.vm := State.WarmedH.trans hW0 hW
  have hcl : s.vm.findClass cls = some ce.cls := by
    have h9 := hO.cls
    rw [hvm] at h9
    exact h9
  have hall : s.sameButNew ({ U with vm := s.vm } : State) locs mc ms := by
    subst hA
    obtain ⟨e1, e2⟩ := hsame
    rw [State.setFrames_setFrames] at e1
    have h2 : (T.setVm s.vm).sameButNew ({ U with vm := s.vm } : State) [] (0 + 1) (0 + 6) := ⟨e1, e2⟩
    have h3 := X.same.trans h2
    rw [List.append_nil] at h3
    exact h3.mono hc hs
  refine ⟨U, ?_, .threw T.heap.size, hrun, hend, Or.inr ⟨T.heap.size, rfl, cls, ce, locs, hx U hWs.alike f1 (fun q hq => f2 q hq (fun z hz => nomatch hz)), hce, hO.vm, hcl, hWs, hall, hf⟩⟩
  refine st1 _ ?_
  show Steps p.tables e below (T1.setTop { method := m, pc := pc + 3, locals := ls, stack := .ref T.heap.size :: rest, locked := none }) _
  jvm_step X₁.here [X₁.here.top, hexec, d3', Value.category]
  exact hsteps
/-- 'throw new E("text")': new; dup; ldc; invokespecial; athrow -/
theorem vx_throwS {cc : ByteArray} {pc : Nat} (hexec : p.tables.exec = Jvm.exec) (hb : c.code = cc) (hl : l.stackTraces = false) {own cls text : String} {names : List String} {ik is ic mc ms sa : Nat} {A : Nat → Prop}
    (hown : s.vm.findClass own = some m.cls) (hcls : Bundle.fit cls = true) (hnames : ∀ n ∈ names, Bundle.fit n = true)
    (hk : (Cond.classLink own ik cls).before args s = true) (hini : (Cond.initialized cls).before args s = true) (hstr : vk_R own is text sa s) (hat : ∀ w ∈ vx_atS own ic cls names, w.before args s = true)
    (hgood : ∀ w ∈ Cond.classLink own ik cls :: Cond.initialized cls :: vx_atS own ic cls names, vx_ot w = true)
    (hU : vx_Zq Bundle.tN "UNASSIGNED_STACK" Bundle.steD A s s.heap) (hN : vx_Zq Bundle.tN "SUPPRESSED_SENTINEL" Bundle.listD A s s.heap) (hS : va_S A s.heap H locs) (hsize : ls.size = c.maxLocals)
    (d0 : decode cc pc = .ok (.new ik, 3)) (d3 : decode cc (pc + 3) = .ok (.dup, 1)) (d4 : decode cc (pc + 4) = .ok (.ldc is, 2)) (d6 : decode cc (pc + 6) = .ok (.invokespecial ic, 3)) (d9 : decode cc (pc + 9) = .ok (.athrow, 1))
    (hout : ∀ x ∈ c.exceptionTable.toList, covers x (pc + 9) = false)
    (hRframes : names.length + 3 < R.frames) (hRlocals : (rest.map fun v => v.category).sum + (13 * (names.length + 1) + 43) ≤ R.locals) (hRcells : cells + 1 ≤ R.cells) (hRslots : slots + 6 ≤ R.slots) (hlocks : meth.locks = false)
    (hx : ∀ t : State, s.vm.Alike t.vm → H.size ≤ t.heap.size → (∀ q : Nat, q < H.size → t.heap[q]? = H[q]?) → XC cls s t)
    (hf : ∀ z ∈ locs, free z.base) (hc : cells + 1 ≤ mc) (hs : slots + 6 ≤ ms) :
    W p l e R s m args below meth c H locs cells slots (vx_MQ below Qc XC args s mc ms free) (F0 m pc ls rest) := by
  intro T hT X
  have htr : e.platform.stackTraces = false := (show e.platform.stackTraces = l.stackTraces by rw [X.admits.platform]).trans hl
  have Y := vx_rebase X (R' := { frames := R.frames, locals := R.locals, cells := 1, slots := 6 }) (Nat.le_refl _) (Nat.le_refl _) hRcells hRslots
  obtain ⟨s', hA⟩ : ∃ z, z = (T.setVm s.vm).setFrames (.invoking m args :: below) := ⟨_, rfl⟩
  rw [← hA] at Y
  have hvm : s'.vm = s.vm := by rw [hA]; rfl
  have hhp : s'.heap = H := by rw [hA]; exact hT
  have hW0 : s.WarmedH s'.vm := by rw [hvm]; exact State.WarmedH.refl s
  have hat' : ∀ w ∈ vx_atS own ic cls names, w.before args s' = true := fun w hw => vx_ot_at hW0 hvm.symm (hgood w (List.mem_cons_of_mem _ (List.mem_cons_of_mem _ hw))) (hat w hw)
  have hk' : (Cond.classLink own ik cls).before args s' = true := vx_ot_at hW0 hvm.symm (hgood _ List.mem_cons_self) hk
  have hini' : (Cond.initialized cls).before args s' = true := vx_ot_at hW0 hvm.symm (hgood _ (List.mem_cons_of_mem _ List.mem_cons_self)) hini
  have hU' : vx_Zq Bundle.tN "UNASSIGNED_STACK" Bundle.steD A s' s'.heap := by rw [hhp]; exact vx_Zq.moved hW0.alike (hU.kept hS.2.1)
  have hN' : vx_Zq Bundle.tN "SUPPRESSED_SENTINEL" Bundle.listD A s' s'.heap := by rw [hhp]; exact vx_Zq.moved hW0.alike (hN.kept hS.2.1)
  have h : ∀ w ∈ Bundle.ownAtoms own ic cls names, w.before args s' = true := vx_own hat' (vx_isRefq hU'.1) (vx_isRefq hN'.1) hU'.2.word hN'.2.word
  have hown' : s'.vm.findClass own = some m.cls := by rw [hvm]; exact hown
  have hins : (Cond.instantiable cls 6).before args s' = true := h _ (by simp [Bundle.ownAtoms])
  obtain ⟨vm₁, cX, kX, hfX, hkX, -, -, X₁, st1⟩ := Y.newCold hexec (own := own) (C := cls) (index := ik) (n := 6) hown' hk' hins hini'
    (g := F0 m pc ls rest) rfl (by rw [hb]; exact d0) (Nat.le_refl _) (Nat.le_refl _)
  generalize hT1 : (T.setVm vm₁).pushCell { cls := cX, slots := kX.instanceTypes.map defaultValue, vm := .none } = T1 at X₁ st1
  have hcat : (Value.ref T.heap.size).category = 1 := rfl
  have hcellA : T1.heap[T.heap.size]? = some (freshCell cX kX) := by rw [← hT1]; exact State.heap_pushCell_size _ _
  have d3' : decode c.code (pc + 3) = .ok (.dup, 1) := by rw [hb]; exact d3
  have d4' : decode c.code (pc + 4) = .ok (.ldc is, 2) := by rw [hb]; exact d4
  have hstr' : vk_R own is text sa s' := vk_R.warm hW0 hstr
  obtain ⟨U, hsteps, hrun, hend, hW, hsame, ce, hce, hO⟩ := X₁.ctorThrowS hexec htr (own := own) (cls := cls) (names := names) (ic := ic) hown' hcls hnames h (fun x hx => nomatch hx) hfX hkX hcellA (by rw [hhp, hT]; exact Nat.le_refl _) (msg := .ref sa) rfl
    (g := { method := m, pc := pc + 6, locals := ls, stack := .ref sa :: .ref T.heap.size :: .ref T.heap.size :: rest, locked := none }) rfl hsize rfl rfl (rest := rest) rfl
    (by rw [hb]; exact d6) (by rw [hb]; exact d9) hout hRframes (by simp only [List.map_cons, List.sum_cons, hcat]; omega) hlocks
  obtain ⟨f1, f2⟩ := vx_frame hsame
  rw [hhp] at f1 f2
  have hWs : s.WarmedH U.vm := State.WarmedH.trans hW0 hW
  have hcl : s.vm.findClass cls = some ce.cls := by
    have h9 := hO.cls
    rw [hvm] at h9
    exact h9
  have hall : s.sameButNew ({ U with vm := s.vm } : State) locs mc ms := by
    subst hA
    obtain ⟨e1, e2⟩ := hsame
    rw [State.setFrames_setFrames] at e1
    have h2 : (T.setVm s.vm).sameButNew ({ U with vm := s.vm } : State) [] (0 + 1) (0 + 6) := ⟨e1, e2⟩
    have h3 := X.same.trans h2
    rw [List.append_nil] at h3
    exact h3.mono hc hs
  refine ⟨U, ?_, .threw T.heap.size, hrun, hend, Or.inr ⟨T.heap.size, rfl, cls, ce, locs, hx U hWs.alike f1 (fun q hq => f2 q hq (fun z hz => nomatch hz)), hce, hO.vm, hcl, hWs, hall, hf⟩⟩
  refine st1 _ ?_
  show Steps p.tables e below (T1.setTop { method := m, pc := pc + 3, locals := ls, stack := .ref T.heap.size :: rest, locked := none }) _
  jvm_step X₁.here [X₁.here.top, hexec, d3', Value.category]
  exact X₁.ldcString hexec (own := own) (text := text) (index := is) (a := sa) hown' hstr'.1 hstr'.2
    (g := { method := m, pc := pc + 4, locals := ls, stack := .ref T.heap.size :: .ref T.heap.size :: rest, locked := none }) rfl d4' _ hsteps
/-- 'throw new E("text")', the text by a wide index -/
theorem vx_throwSW {cc : ByteArray} {pc : Nat} (hexec : p.tables.exec = Jvm.exec) (hb : c.code = cc) (hl : l.stackTraces = false) {own cls text : String} {names : List String} {ik is ic mc ms sa : Nat} {A : Nat → Prop}
    (hown : s.vm.findClass own = some m.cls) (hcls : Bundle.fit cls = true) (hnames : ∀ n ∈ names, Bundle.fit n = true)
    (hk : (Cond.classLink own ik cls).before args s = true) (hini : (Cond.initialized cls).before args s = true) (hstr : vk_R own is text sa s) (hat : ∀ w ∈ vx_atS own ic cls names, w.before args s = true)
    (hgood : ∀ w ∈ Cond.classLink own ik cls :: Cond.initialized cls :: vx_atS own ic cls names, vx_ot w = true)
    (hU : vx_Zq Bundle.tN "UNASSIGNED_STACK" Bundle.steD A s s.heap) (hN : vx_Zq Bundle.tN "SUPPRESSED_SENTINEL" Bundle.listD A s s.heap) (hS : va_S A s.heap H locs) (hsize : ls.size = c.maxLocals)
    (d0 : decode cc pc = .ok (.new ik, 3)) (d3 : decode cc (pc + 3) = .ok (.dup, 1)) (d4 : decode cc (pc + 4) = .ok (.ldc_w is, 3)) (d7 : decode cc (pc + 7) = .ok (.invokespecial ic, 3)) (d10 : decode cc (pc + 10) = .ok (.athrow, 1))
    (hout : ∀ x ∈ c.exceptionTable.toList, covers x (pc + 10) = false)
    (hRframes : names.length + 3 < R.frames) (hRlocals : (rest.map fun v => v.category).sum + (13 * (names.length + 1) + 43) ≤ R.locals) (hRcells : cells + 1 ≤ R.cells) (hRslots : slots + 6 ≤ R.slots) (hlocks : meth.locks = false)
    (hx : ∀ t : State, s.vm.Alike t.vm → H.size ≤ t.heap.size → (∀ q : Nat, q < H.size → t.heap[q]? = H[q]?) → XC cls s t)
    (hf : ∀ z ∈ locs, free z.base) (hc : cells + 1 ≤ mc) (hs : slots + 6 ≤ ms) :
    W p l e R s m args below meth c H locs cells slots (vx_MQ below Qc XC args s mc ms free) (F0 m pc ls rest) := by
  intro T hT X
  have htr : e.platform.stackTraces = false := (show e.platform.stackTraces = l.stackTraces by rw [X.admits.platform]).trans hl
  have Y := vx_rebase X (R' := { frames := R.frames, locals := R.locals, cells := 1, slots := 6 }) (Nat.le_refl _) (Nat.le_refl _) hRcells hRslots
  obtain ⟨s', hA⟩ : ∃ z, z = (T.setVm s.vm).setFrames (.invoking m args :: below) := ⟨_, rfl⟩
  rw [← hA] at Y
  have hvm : s'.vm = s.vm := by rw [hA]; rfl
  have hhp : s'.heap = H := by rw [hA]; exact hT
  have hW0 : s.WarmedH s'.vm := by rw [hvm]; exact State.WarmedH.refl s
  have hat' : ∀ w ∈ vx_atS own ic cls names, w.before args s' = true := fun w hw => vx_ot_at hW0 hvm.symm (hgood w (List.mem_cons_of_mem _ (List.mem_cons_of_mem _ hw))) (hat w hw)
  have hk' : (Cond.classLink own ik cls).before args s' = true := vx_ot_at hW0 hvm.symm (hgood _ List.mem_cons_self) hk
  have hini' : (Cond.initialized cls).before args s' = true := vx_ot_at hW0 hvm.symm (hgood _ (List.mem_cons_of_mem _ List.mem_cons_self)) hini
  have hU' : vx_Zq Bundle.tN "UNASSIGNED_STACK" Bundle.steD A s' s'.heap := by rw [hhp]; exact vx_Zq.moved hW0.alike (hU.kept hS.2.1)
  have hN' : vx_Zq Bundle.tN "SUPPRESSED_SENTINEL" Bundle.listD A s' s'.heap := by rw [hhp]; exact vx_Zq.moved hW0.alike (hN.kept hS.2.1)
  have h : ∀ w ∈ Bundle.ownAtoms own ic cls names, w.before args s' = true := vx_own hat' (vx_isRefq hU'.1) (vx_isRefq hN'.1) hU'.2.word hN'.2.word
  have hown' : s'.vm.findClass own = some m.cls := by rw [hvm]; exact hown
  have hins : (Cond.instantiable cls 6).before args s' = true := h _ (by simp [Bundle.ownAtoms])
  obtain ⟨vm₁, cX, kX, hfX, hkX, -, -, X₁, st1⟩ := Y.newCold hexec (own := own) (C := cls) (index := ik) (n := 6) hown' hk' hins hini'
    (g := F0 m pc ls rest) rfl (by rw [hb]; exact d0) (Nat.le_refl _) (Nat.le_refl _)
  generalize hT1 : (T.setVm vm₁).pushCell { cls := cX, slots := kX.instanceTypes.map defaultValue, vm := .none } = T1 at X₁ st1
  have hcat : (Value.ref T.heap.size).category = 1 := rfl
  have hcellA : T1.heap[T.heap.size]? = some (freshCell cX kX) := by rw [← hT1]; exact State.heap_pushCell_size _ _
  have d3' : decode c.code (pc + 3) = .ok (.dup, 1) := by rw [hb]; exact d3
  have d4' : decode c.code (pc + 4) = .ok (.ldc_w is, 3) := by rw [hb]; exact d4
  have hstr' : vk_R own is text sa s' := vk_R.warm hW0 hstr
  obtain ⟨U, hsteps, hrun, hend, hW, hsame, ce, hce, hO⟩ := X₁.ctorThrowS hexec htr (own := own) (cls := cls) (names := names) (ic := ic) hown' hcls hnames h (fun x hx => nomatch hx) hfX hkX hcellA (by rw [hhp, hT]; exact Nat.le_refl _) (msg := .ref sa) rfl
    (g := { method := m, pc := pc + 7, locals := ls, stack := .ref sa :: .ref T.heap.size :: .ref T.heap.size :: rest, locked := none }) rfl hsize rfl rfl (rest := rest) rfl
    (by rw [hb]; exact d7) (by rw [hb]; exact d10) hout hRframes (by simp only [List.map_cons, List.sum_cons, hcat]; omega) hlocks
  obtain ⟨f1, f2⟩ := vx_frame hsame
  rw [hhp] at f1 f2
  have hWs : s.WarmedH U.vm := State.WarmedH.trans hW0 hW
  have hcl : s.vm.findClass cls = some ce.cls := by
    have h9 := hO.cls
    rw [hvm] at h9
    exact h9
  have hall : s.sameButNew ({ U with vm := s.vm } : State) locs mc ms := by
    subst hA
    obtain ⟨e1, e2⟩ := hsame
    rw [State.setFrames_setFrames] at e1
    have h2 : (T.setVm s.vm).sameButNew ({ U with vm := s.vm } : State) [] (0 + 1) (0 + 6) := ⟨e1, e2⟩
    have h3 := X.same.trans h2
    rw [List.append_nil] at h3
    exact h3.mono hc hs
  refine ⟨U, ?_, .threw T.heap.size, hrun, hend, Or.inr ⟨T.heap.size, rfl, cls, ce, locs, hx U hWs.alike f1 (fun q hq => f2 q hq (fun z hz => nomatch hz)), hce, hO.vm, hcl, hWs, hall, hf⟩⟩
  refine st1 _ ?_
  show Steps p.tables e below (T1.setTop { method := m, pc := pc + 3, locals := ls, stack := .ref T.heap.size :: rest, locked := none }) _
  jvm_step X₁.here [X₁.here.top, hexec, d3', Value.category]
  exact X₁.ldcStringW hexec (own := own) (text := text) (index := is) (a := sa) hown' hstr'.1 hstr'.2
    (g := { method := m, pc := pc + 4, locals := ls, stack := .ref T.heap.size :: .ref T.heap.size :: rest, locked := none }) rfl d4' _ hsteps
end Ends
section Bodies
variable {l : Launch}
theorem vx_ofW {y : MethodName} {ws ws' : List Cond} {rm : Room} {Pc : Array Value → State → Prop} {Qc : Array Value → State → Outcome → State → Prop} {XC : String → State → State → Prop} {mc ms : Nat} {free : Addr → Prop} {cc : ByteArray} {maxL : Nat} {ret : Option FieldType}
    (hy : plainName y.cls = true) (hw : ws = Cond.code y cc maxL ret :: ws')
    (body : ∀ p e s m args below meth c s₁, BodyLoose p l y (headSpec ws rm) cc maxL ret e s m args below meth c s₁ → c.maxLocals = maxL → (∀ x ∈ c.exceptionTable.toList, False) → Pc args s →
      W p l e (headSpec ws rm).room s m args below meth c s.heap [] 0 0 (vx_MQ below Qc XC args s mc ms free) (entryFrame m args maxL)) : vx_Met l y ws rm Pc Qc XC mc ms free := by
  refine MetFree.of_bodyS (code := cc) (maxLocals := maxL) (ret := ret) hy ?_ ?_
  · intro args s m h hn
    obtain ⟨meth, c, h1, h2, h3, h4, h5, h6, -, -⟩ := Cond.code_spec hn (atoms_spec (ws := ws) h _ (by rw [hw]; exact List.mem_cons_self))
    exact ⟨meth, c, h1, h2, h3, h4, h5, h6⟩
  · intro p e s m args below meth c s₁ B hml hP _
    have hh0 : s₁.heap = s.heap := by rw [B.state]; rfl
    have ht : ∀ x ∈ c.exceptionTable.toList, False := by
      obtain ⟨meth9, c9, h1, h2, -, -, -, -, h7, -⟩ := Cond.code_spec B.named (atoms_spec (ws := ws) B.pre _ (by rw [hw]; exact List.mem_cons_self))
      cases Option.some.inj (h1.symm.trans B.method)
      cases Option.some.inj (h2.symm.trans (Stand.of_body B).code)
      intro x hx
      rw [Array.isEmpty_iff.mp h7] at hx
      cases hx
    obtain ⟨t, a1, o, b1, b2, b3⟩ := body p e s m args below meth c s₁ B hml ht hP s₁ hh0 (Stand.of_body B)
    exact ⟨t, o, a1, b1, b2, b3⟩
/-- the table of a body with handlers -/
theorem vx_table {p : Program} {x y : MethodName} {S : Spec} {cc bytes : ByteArray} {maxL maxL' : Nat} {ret ret' : Option FieldType} {e : Env} {s s₁ : State} {m : MethodId} {args : Array Value} {below : List Frame} {meth : Method} {c : Code} {hh : List (Nat × Nat × Nat × Nat)}
    (B : BodyLoose p l y S cc maxL ret e s m args below meth c s₁) (h : (Cond.codeWith y bytes maxL' ret' hh).before args s = true) : c.exceptionTable.toList = tableOf hh := by
  obtain ⟨m9, meth9, c9, hn9, h1, h2, -, -, h6, -⟩ := Cond.codeWith_spec h
  cases Option.some.inj (hn9.symm.trans B.named)
  cases Option.some.inj (h1.symm.trans B.method)
  cases Option.some.inj (h2.symm.trans (Stand.of_body B).code)
  rw [← h6, table_eq]
end Bodies
end VXA
/-! ===== END ===== -/
/-! ===== BEGIN a static call of a method with an exception table ===== -/
section VXS
variable {p : Program} {l : Launch} {e : Env} {R : Room} {s : State} {m : MethodId} {args : Array Value} {below : List Frame} {meth : Method} {c : Code} {T : State} {H : Heap} {locs : List Loc} {cells slots : Nat}
abbrev vx_CSW (R : Room) (s : State) (args : Array Value) (own : String) (index : Nat) (y : MethodName) (bytes : ByteArray) (maxL : Nat) (ret : Option FieldType) (hh : List (Nat × Nat × Nat × Nat)) (ws : List Cond) (rm : Room) (mc ms n : Nat) : Prop :=
  (rm.cells = mc ∧ rm.slots = ms ∧ rm.frames + 1 ≤ R.frames ∧ 8 + (maxL + 11) + rm.locals ≤ R.locals ∧ (∀ w ∈ ws, ∀ (a' : Array Value) (U : State), s.WarmedH U.vm → w.before a' U = true) ∧ Cond.codeWith y bytes maxL ret hh ∈ ws) ∧
  (Cond.codeWith y bytes maxL ret hh).before args s = true ∧ (Cond.initialized y.cls).before args s = true ∧ (y.cls ≠ "java/lang/invoke/MethodHandle" ∧ y.cls ≠ "java/lang/invoke/VarHandle") ∧
  (∀ sig, parseMethodDescriptor y.desc = some sig → n = sig.parameters.length) ∧ (Cond.methodLink own index y).before args s = true ∧ (Cond.static y).before args s = true
theorem vx_cwSW {own : String} {index maxL mc ms : Nat} {y : MethodName} {bytes : ByteArray} {ret : Option FieldType} {hh : List (Nat × Nat × Nat × Nat)} {Ts ws ws' : List Cond} {rm : Room} (n : Nat) (ht : ∀ w ∈ Ts, w.before args s = true) (hT : GoodIn Ts (va_wsS own index y ws)) (hw : ws = Cond.codeWith y bytes maxL ret hh :: ws') (hrc : rm.cells = mc) (hrs : rm.slots = ms)
    (hd : y.cls ≠ "java/lang/invoke/MethodHandle" ∧ y.cls ≠ "java/lang/invoke/VarHandle" ∧ (parseMethodDescriptor y.desc).map (fun d => d.parameters.length) = some n) (hR : rm.frames + 1 ≤ R.frames ∧ 8 + (maxL + 11) + rm.locals ≤ R.locals) :
    vx_CSW R s args own index y bytes maxL ret hh ws rm mc ms n := by
  have ok : ∀ w ∈ va_wsS own index y ws, w.before args s = true := fun w h => ht w (hT w h).1
  have hG : GoodIn Ts ws := fun w h => hT w (by unfold va_wsS; exact List.mem_append_right _ h)
  have hc : Cond.codeWith y bytes maxL ret hh ∈ ws := by rw [hw]; exact List.mem_cons_self
  refine ⟨⟨hrc, hrs, hR.1, hR.2, pay_in ht hG, hc⟩, ht _ (hG _ hc).1, ok _ (by simp [va_wsS]), ⟨hd.1, hd.2.1⟩, fun sig h => ?_, ok _ (by simp [va_wsS]), ok _ (by simp [va_wsS])⟩
  have h2 := hd.2.2
  rw [h] at h2
  exact (Option.some.inj h2).symm
theorem vx_callSW (X : Stand p l e R s m args below meth c T locs cells slots) (hexec : p.tables.exec = Jvm.exec) {own : String} {index : Nat} {y : MethodName} {bytes : ByteArray} {maxL : Nat} {ret : Option FieldType} {hh : List (Nat × Nat × Nat × Nat)}
    (hown : s.vm.findClass own = some m.cls) (hlink : (Cond.methodLink own index y).before args s = true) (hstat : (Cond.static y).before args s = true) (hinit : (Cond.initialized y.cls).before args s = true)
    (hcode : (Cond.codeWith y bytes maxL ret hh).before args s = true) (hy : y.cls ≠ "java/lang/invoke/MethodHandle" ∧ y.cls ≠ "java/lang/invoke/VarHandle")
    {W9 : Nat} {Pre : Pt → Array Value → Prop} {Post : Pt → Array Value → Option Value → Pt → Prop} (hK : Back l R p e below s args y 3 W9 Pre Post)
    {g : JFrame} (hg : g.method = m) (hsize : g.locals.size = c.maxLocals) {argsL rest : List Value} (hlen : ∀ sig, parseMethodDescriptor y.desc = some sig → argsL.length = sig.parameters.length)
    (hstack : g.stack = argsL.reverse ++ rest) (hW : 2 * g.monitorRoom + (rest.map fun v => v.category).sum ≤ W9) (hdg : decode c.code g.pc = .ok (.invokestatic index, 3))
    (hpre : ∀ vm₁, s.WarmedH vm₁ → Pre ⟨T.setVm vm₁, locs, cells, slots⟩ argsL.toArray) :
    ∃ (v : Option Value) (vm₁ : Vm) (B : Pt), s.WarmedH vm₁ ∧ Stand p l e R s m args below meth c B.U B.locs B.cells B.slots ∧ Post ⟨T.setVm vm₁, locs, cells, slots⟩ argsL.toArray v B ∧
      ∀ target, Steps p.tables e below (B.U.setTop { g with pc := g.pc + 3, stack := v.toList ++ rest }) target → Steps p.tables e below (T.setTop g) target := by
  obtain ⟨mk, methM, cM, hnamed, hmethM, -, -, -, -, -, -, hsigM⟩ := Cond.codeWith_spec hcode
  have hstatic : methM.isStatic = true := Cond.static_spec hnamed hmethM hstat
  obtain ⟨kP, hkP, -⟩ := className_of_methodNamed hnamed
  have hinitP : kP.init = .initialized := Cond.initialized_spec (findClass_of_methodNamed hnamed) hkP hinit
  obtain ⟨vm₁, X₁, hstep₁⟩ := X.invokestatic hexec hown hlink hnamed hmethM hstatic hkP hinitP hy (g := g) hg (argsL := argsL) (rest := rest) (hlen _ hsigM) hstack hdg
  obtain ⟨v, B, X', hpost, hsteps⟩ := hK m meth c ⟨T.setVm vm₁, locs, cells, slots⟩ { g with stack := rest } (.invokestatic index) mk argsL.toArray X₁ hg hsize hdg hW (X₁.named hnamed) (hpre vm₁ X₁.warmed)
  exact ⟨v, vm₁, B, X₁.warmed, X', hpost, fun target h => hstep₁ _ fun acts => by rw [doInvoke_state]; exact hsteps.trans h⟩
theorem vx_runSW {y : MethodName} {bytes cc : ByteArray} {maxL nL mc ms n index : Nat} {ret : Option FieldType} {hh : List (Nat × Nat × Nat × Nat)} {ws : List Cond} {rm : Room} {Pc : Array Value → State → Prop} {Qc : Array Value → State → Outcome → State → Prop} {free : Addr → Prop} {Ts : List Cond} {own : String} {As rest : List Value} {g : JFrame}
    (S : CallFix p m c cc nL s args Ts own) (hM : Met l y ws rm Pc Qc mc ms free) (cw : vx_CSW R s args own index y bytes maxL ret hh ws rm mc ms n) (hp : PreS s H Pc As)
    (hg : g.method = m) (hn : As.length = n) (hsize : g.locals.size = nL) (hstack : g.stack = As.reverse ++ rest) (hW : 2 * g.monitorRoom + (rest.map fun v => v.category).sum ≤ 8) (hdg : decode cc g.pc = .ok (.invokestatic index, 3)) (hf : cells + mc ≤ R.cells ∧ slots + ms ≤ R.slots) :
    va_Run p l e R s m args below meth c H locs cells slots mc ms g rest (Qc As.toArray) (free) := by
  obtain ⟨⟨hrc, hrs, hfr, hlo, hws, hcw⟩, hcode, hini, hy, hlen, hl, hstt⟩ := cw
  have hK : Back l R p e below s args y 3 8 (PreOf R mc ms Pc) (PostOf Qc mc ms free) := va_backW (hh := hh) (bytes := bytes) (maxL := maxL) (ret := ret) hM hp.1 hrc hrs hfr hlo hws hcw (fun a' U hW => word_at hW (Or.inl (by first | rfl | simp [Cond.onTables, Cond.keeps, Cond.steady])) hini)
  obtain ⟨hx, hb, hml, ho, -⟩ := S
  intro T hT X
  obtain ⟨v, vm₁, ⟨U', l2, c2, s2⟩, hW₁, X', ⟨g', mk, t, L, e1, e2, hq, h1, hL, h2, h3⟩, st⟩ := vx_callSW X hx (hh := hh) (bytes := bytes) (maxL := maxL) (ret := ret) ho hl hstt hini hcode hy hK hg (hsize.trans hml.symm) (argsL := As) (rest := rest) (fun sig h => hn.trans (hlen sig h)) hstack hW (by rw [hb]; exact hdg)
    (fun vm₁ hW₁ => ⟨hf.1, hf.2, hp.2 (T.setVm vm₁) hT hW₁⟩)
  dsimp only [Pt.U, Pt.locs, Pt.cells, Pt.slots] at X' e1 e2 h1 h2 h3 st
  subst h1; subst h2; subst h3
  exact ⟨v, (T.setVm vm₁).calling g' mk As.toArray, t, U', L, hT, X', hL, e1, e2, hq, st⟩
/-- not caught here, past rows that name other classes: it goes on to the caller -/
theorem vx_outP {p : Program} {l : Launch} {e : Env} {R : Room} {s : State} {m : MethodId} {args : Array Value} {below : List Frame} {meth : Method} {c : Code} {H : Heap} {locs : List Loc} {cells slots : Nat} {free : Addr → Prop} {ls : Array Slot} {rest : List Value} {Qc : Array Value → State → Outcome → State → Prop} {XC : String → State → State → Prop}
    {pc : Nat} {own E : String} {ce : Cell} {q : Addr} {mc ms : Nat} (hown : s.vm.findClass own = some m.cls) (hlocks : meth.locks = false)
    (hpass : ∀ z ∈ c.exceptionTable.toList, covers z pc = false ∨ (z.catchType ≠ 0 ∧ ∃ nm : String, (Cond.classLink own z.catchType nm).before args s = true ∧ va_Nc E nm s)) (hcell : H[q]? = some ce) (hv : ce.vm = .none) (hcl : s.vm.findClass E = some ce.cls)
    (hx : ∀ t : State, t.heap = H → s.vm.Alike t.vm → XC E s t) (hf : ∀ z ∈ locs, free z.base) (hc : cells ≤ mc) (hs : slots ≤ ms) :
    vx_W p l e R s m args below meth c H locs cells slots (vx_MQ below Qc XC args s mc ms free) (F0 m pc ls rest) q := by
  intro T hT X
  have hpl : e.platform.magicAccessors = ({} : Platform).magicAccessors := by rw [X.admits.platform]
  obtain ⟨vm', hW', X', st⟩ := X.outThrough hlocks q (g := F0 m pc ls rest) rfl rfl rfl (cell := ce) (by rw [hT]; exact hcell) (by rw [hv]; rfl)
    (by obtain ⟨k9, h9, -⟩ := Vm.findClass_spec hcl; exact ⟨k9, h9⟩) (fun z hz => by
      rcases hpass z hz with h | ⟨hz0, nm, hl1, hn1⟩
      · exact Or.inl h
      · obtain ⟨c6, hc6, hcl6⟩ := Cond.classLink_spec hown hl1 e.platform hpl
        obtain ⟨a8, b8, h1, h2, h3⟩ := hn1
        cases Option.some.inj (h1.symm.trans hcl)
        cases Option.some.inj (h2.symm.trans hc6)
        exact Or.inr ⟨hz0, _, hcl6, h3⟩)
  obtain ⟨g₀, hfr⟩ := X'.frames_eq
  have hcell9 : ((T.setVm vm').setFrames (.throwing q :: below)).heap[q]? = some ce := by
    show T.heap[q]? = some ce
    rw [hT]; exact hcell
  have hend : Ended ((T.setVm vm').setFrames (.throwing q :: below)) below (.threw q) := State.frames_setFrames _ (State.cur_lt_of_frames hfr)
  refine ⟨(T.setVm vm').setFrames (.throwing q :: below), ?_, .threw q, X'.here.running, hend, Or.inr ⟨q, rfl, E, ce, locs, hx _ hT (X'.ends _).1.alike, hcell9, hv, hcl, (X'.ends _).1, (X'.ends _).2.mono hc hs, hf⟩⟩
  rw [X.pushThrowing_eq]
  exact st
/-- a thing of a world lies in the heap -/
theorem vx_lt {D : va_G} {cl : List vw_C} {ws : va_W} {H1 : Heap} (h : va_P D cl ws H1) {k : Nat} {q : Nat × va_E} (hk : ws[k]? = some q) : q.1 < H1.size := (h k q hk).lt
end VXS
/-! ===== END ===== -/
/-! ===== BEGIN methods with a table of their own: called by a name, returning or throwing ===== -/
section VXH
/-! vx_backW, vx_callVX, vx_callSX, vx_callVW, vx_runVW, vx_runVX, vx_runSX, vx_ofWH follow the same proofs as their sisters above (Free/Laws.lean, Shelf42/LK1.lean); vx_outP calls Shelf42/NT130.lean (outThrough). -/
section
variable {l : Launch} {R : Room} {p : Program} {e : Env} {below : List Frame} {s : State} {sargs : Array Value} {y : MethodName} {len W9 : Nat}
theorem vx_backW {ws : List Cond} {rm : Room} {Pc : Array Value → State → Prop} {Qc : Array Value → State → Outcome → State → Prop} {XC : String → State → State → Prop} {mc ms : Nat} {free : Addr → Prop} {bytes : ByteArray} {maxL : Nat} {ret : Option FieldType} {hh : List (Nat × Nat × Nat × Nat)}
    (hM : vx_Met l y ws rm Pc Qc XC mc ms free) (hblind : FrameBlind Pc) (hrc : rm.cells = mc) (hrs : rm.slots = ms)
    (hframes : rm.frames + 1 ≤ R.frames) (hlocals : W9 + (maxL + 11) + rm.locals ≤ R.locals)
    (hws : ∀ w ∈ ws, ∀ a' U, s.WarmedH U.vm → w.before a' U = true) (hcode : Cond.codeWith y bytes maxL ret hh ∈ ws) (hinit : ∀ a' U, s.WarmedH U.vm → (Cond.initialized y.cls).before a' U = true) :
    vx_Back l R p e below s sargs y len W9 (PreOf R mc ms Pc) (PostOf Qc mc ms free) (vx_Post XC mc ms free) := by
  intro m meth c A g ig mk a X hg hsize hdg hW hn hp
  have h1 : (headSpec ws rm).pre.before a A.U = true := atoms_intro fun w hw => hws w hw _ _ X.warmed
  have h2 : (Cond.codeWith y bytes maxL ret hh).before a A.U = true := hws _ hcode _ _ X.warmed
  have h3 : (Cond.initialized y.cls).before a A.U = true := hinit _ _ X.warmed
  have h4 : A.cells + (headSpec ws rm).room.cells ≤ R.cells := by rw [show (headSpec ws rm).room.cells = mc from hrc]; exact hp.1
  have h5 : A.slots + (headSpec ws rm).room.slots ≤ R.slots := by rw [show (headSpec ws rm).room.slots = ms from hrs]; exact hp.2.1
  have hPc : Pc a (A.U.calling g mk a) := hblind _ _ _ _ hp.2.2
  obtain ⟨U, Ls, c0, s0⟩ := A
  dsimp only [Pt.U, Pt.locs, Pt.cells, Pt.slots] at h1 h2 h3 h4 h5 X hn hPc ⊢
  obtain ⟨m9, methY, cY, hn9, hmY, hcY, -, hlY, -⟩ := Cond.codeWith_spec h2
  cases Option.some.inj (hn9.symm.trans hn)
  obtain ⟨kY, hkY, -⟩ := className_of_methodNamed hn
  have hinitY : kY.init = .initialized := Cond.initialized_spec (findClass_of_methodNamed hn) hkY h3
  have h : At U g.method c below := by rw [hg]; exact X.here
  have hlocals9 : W9 + (maxL + 11) + (headSpec ws rm).room.locals ≤ R.locals := hlocals
  have happ : (headSpec ws rm).appliesLoose y e.platform (U.calling g mk a) = true :=
    Spec.appliesLoose_calling (g := g) h hdg hn hkY hinitY
      (X.room_calling (g := g) (R' := (headSpec ws rm).room) hsize hmY hcY hframes (by rw [hlY]; omega) h4 h5) h1
  obtain ⟨mid, hmid⟩ := h.above
  have hfr : (U.setTop g).frames = (.java g :: mid) ++ below := by rw [State.frames_setTop' g h.top, hmid]; rfl
  obtain ⟨o, s₂, hsteps, -, hend, hq⟩ := Steps.callFree hM p X.admits X.cas X.clock (acts := []) hfr happ hPc trivial
  have hq' : vx_Q Qc XC mc ms free a (U.calling g mk a) o s₂ := hq
  rw [State.frames_setTop' g h.top] at hend
  obtain ⟨g₀, hg0⟩ := Option.isSome_iff_exists.mp h.top
  obtain ⟨r, hr⟩ := State.topJava?_eq_some.mp hg0
  have hr' : (({ U with heap := s₂.heap, slotsUsed := s₂.slotsUsed } : State).setVm s₂.vm).frames = .java g₀ :: r := hr
  rcases hq' with ⟨hqc, L, hfe, hL⟩ | ⟨q, rfl, E, ce, L, hx, hce, hcv, hcl, hW₂, hsm, hL⟩
  · obtain ⟨⟨v, rfl⟩, hW₂, e2, q2, q3, q4, q5, q6⟩ := id hfe
    have e3 : s₂ = ({ (U.calling g mk a).setFrames s₂.frames with heap := s₂.heap, slotsUsed := s₂.slotsUsed } : State).setVm s₂.vm := by
      have : s₂ = ({ s₂ with vm := (U.calling g mk a).vm } : State).setVm s₂.vm := rfl
      rw [e2] at this
      exact this
    obtain ⟨c₂, i₂, len₂, hc₂, hd₂, hf₂⟩ := hend
    have hW' : U.WarmedH s₂.vm := hW₂
    have hcc : c₂ = c := by
      have h1 : s₂.code? g.method = U.code? g.method := by
        rw [State.code?_eq, State.code?_eq, hW'.alike.method?]
      exact Option.some.inj (hc₂.symm.trans (h1.trans h.code))
    subst hcc
    have hlen : len₂ = len := by rw [hdg] at hd₂; cases hd₂; rfl
    subst hlen
    have hs₂ : s₂ = (({ U with heap := s₂.heap, slotsUsed := s₂.slotsUsed } : State).setVm s₂.vm).setTop { g with pc := g.pc + len₂, stack := v.toList ++ g.stack } := by
      refine e3.trans ?_
      rw [hf₂, State.calling_eq h.top, State.setFrames_setFrames, State.setTop_of_frames _ hr', hr]
      rfl
    have hsame : U.sameButNew ({ U with heap := s₂.heap, slotsUsed := s₂.slotsUsed } : State) L mc ms := by
      refine ⟨?_, q2, q3, q4, q5, q6⟩
      obtain ⟨t, ht, -⟩ := State.frames_cons hr
      show ({ U with heap := s₂.heap, slotsUsed := s₂.slotsUsed } : State) = { U.setFrames U.frames with heap := s₂.heap, slotsUsed := s₂.slotsUsed }
      rw [State.setFrames_self ht]
    subst hg
    refine Or.inl ⟨v, ⟨(({ U with heap := s₂.heap, slotsUsed := s₂.slotsUsed } : State).setVm s₂.vm), Ls ++ L, c0 + mc, s0 + ms⟩,
      ⟨X.admits, X.cas, X.clock, X.frames, X.room, X.hears, X.method, X.code, (X.here.setHeapUsed s₂.heap s₂.slotsUsed).setVm hW'.alike, X.tail, State.WarmedH.trans X.warmed hW', X.limits, X.bytes, X.same.trans (hsame.setVm s.vm)⟩,
      ⟨g, mk, s₂, L, rfl, rfl, hqc, rfl, hL, rfl, rfl⟩, ?_⟩
    show Steps p.tables e below _ ((({ U with heap := s₂.heap, slotsUsed := s₂.slotsUsed } : State).setVm s₂.vm).setTop { g with pc := g.pc + len₂, stack := v.toList ++ g.stack })
    rw [← hs₂]
    exact hsteps
  · obtain ⟨e2, q2, q3, q4, q5, q6⟩ := id hsm
    have e3 : s₂ = ({ (U.calling g mk a).setFrames s₂.frames with heap := s₂.heap, slotsUsed := s₂.slotsUsed } : State).setVm s₂.vm := by
      have : s₂ = ({ s₂ with vm := (U.calling g mk a).vm } : State).setVm s₂.vm := rfl
      rw [e2] at this
      exact this
    have hf₂ : s₂.frames = .throwing q :: .java g :: U.frames.tail := hend
    have hW' : U.WarmedH s₂.vm := hW₂
    have hs₂ : s₂ = ((({ U with heap := s₂.heap, slotsUsed := s₂.slotsUsed } : State).setVm s₂.vm).setTop g).pushFrame (.throwing q) := by
      refine e3.trans ?_
      rw [hf₂, State.calling_eq h.top, State.setFrames_setFrames, State.pushFrame, State.frames_setTop _ hr', State.setTop_of_frames _ hr', State.setFrames_setFrames, hr]
      rfl
    have hsame : U.sameButNew ({ U with heap := s₂.heap, slotsUsed := s₂.slotsUsed } : State) L mc ms := by
      refine ⟨?_, q2, q3, q4, q5, q6⟩
      obtain ⟨t, ht, -⟩ := State.frames_cons hr
      show ({ U with heap := s₂.heap, slotsUsed := s₂.slotsUsed } : State) = { U.setFrames U.frames with heap := s₂.heap, slotsUsed := s₂.slotsUsed }
      rw [State.setFrames_self ht]
    subst hg
    refine Or.inr ⟨q, ⟨(({ U with heap := s₂.heap, slotsUsed := s₂.slotsUsed } : State).setVm s₂.vm), Ls ++ L, c0 + mc, s0 + ms⟩,
      ⟨X.admits, X.cas, X.clock, X.frames, X.room, X.hears, X.method, X.code, (X.here.setHeapUsed s₂.heap s₂.slotsUsed).setVm hW'.alike, X.tail, State.WarmedH.trans X.warmed hW', X.limits, X.bytes, X.same.trans (hsame.setVm s.vm)⟩,
      ⟨g, mk, s₂, L, E, ce, rfl, rfl, hx, hce, hcv, hcl, rfl, hL, rfl, rfl⟩, ?_⟩
    show Steps p.tables e below _ (((({ U with heap := s₂.heap, slotsUsed := s₂.slotsUsed } : State).setVm s₂.vm).setTop g).pushFrame (.throwing q))
    rw [← hs₂]
    exact hsteps
end
variable {p : Program} {l : Launch} {e : Env} {R : Room} {s : State} {m : MethodId} {args : Array Value} {below : List Frame} {meth : Method} {c : Code} {T : State} {H : Heap} {locs : List Loc} {cells slots : Nat}
theorem vx_callVX (X : Stand p l e R s m args below meth c T locs cells slots) (hexec : p.tables.exec = Jvm.exec) {own C : String} {index : Nat} {y : MethodName} {bytes : ByteArray} {maxL : Nat} {ret : Option FieldType} {hh : List (Nat × Nat × Nat × Nat)}
    (hown : s.vm.findClass own = some m.cls) (hlink : (Cond.methodLink own index y).before args s = true) (hinst : (Cond.instanceMethod y).before args s = true) (hsel : (Cond.selects C y y).before args s = true)
    (hcode : (Cond.codeWith y bytes maxL ret hh).before args s = true) (hy : y.cls ≠ "java/lang/invoke/MethodHandle" ∧ y.cls ≠ "java/lang/invoke/VarHandle")
    {W9 : Nat} {Pre : Pt → Array Value → Prop} {Post : Pt → Array Value → Option Value → Pt → Prop} {PostX : Pt → Array Value → Addr → Pt → Prop} (hK : vx_Back l R p e below s args y 3 W9 Pre Post PostX)
    {b : Addr} {cellB : Cell} (hcell : T.heap[b]? = some cellB) (hobj : cellB.vm.isStatics = false) (hcls : s.vm.findClass C = some cellB.cls)
    {g : JFrame} (hg : g.method = m) (hsize : g.locals.size = c.maxLocals) {argsL rest : List Value} (hlen : ∀ sig, parseMethodDescriptor y.desc = some sig → argsL.length = sig.parameters.length)
    (hstack : g.stack = argsL.reverse ++ .ref b :: rest) (hW : 2 * g.monitorRoom + (rest.map fun v => v.category).sum ≤ W9) (hdg : decode c.code g.pc = .ok (.invokevirtual index, 3))
    (hpre : ∀ vm₁, s.WarmedH vm₁ → Pre ⟨T.setVm vm₁, locs, cells, slots⟩ (Value.ref b :: argsL).toArray) :
    (∃ (v : Option Value) (vm₁ : Vm) (B : Pt), s.WarmedH vm₁ ∧ Stand p l e R s m args below meth c B.U B.locs B.cells B.slots ∧ Post ⟨T.setVm vm₁, locs, cells, slots⟩ (Value.ref b :: argsL).toArray v B ∧
      ∀ target, Steps p.tables e below (B.U.setTop { g with pc := g.pc + 3, stack := v.toList ++ rest }) target → Steps p.tables e below (T.setTop g) target) ∨
    (∃ (q : Addr) (vm₁ : Vm) (B : Pt), s.WarmedH vm₁ ∧ Stand p l e R s m args below meth c B.U B.locs B.cells B.slots ∧ PostX ⟨T.setVm vm₁, locs, cells, slots⟩ (Value.ref b :: argsL).toArray q B ∧
      Steps p.tables e below (T.setTop g) ((B.U.setTop { g with stack := rest }).pushFrame (.throwing q))) := by
  obtain ⟨mk, methM, hnamed, hmethM, hstM, habM⟩ := Cond.instanceMethod_spec hinst
  obtain ⟨m8, methM', cM, hn8, hmethM', -, -, -, -, -, -, hsigM⟩ := Cond.codeWith_spec hcode
  cases Option.some.inj (hn8.symm.trans hnamed)
  cases hmethM.symm.trans hmethM'
  obtain ⟨c2, r2, m2, q1, q2, q3, q4, kP, hkP, hkPi⟩ := Cond.selects_spec hsel
  cases hcls.symm.trans q1
  cases (State.methodFound?_of_named hnamed hy).symm.trans q2
  cases hnamed.symm.trans q3
  have hselP : selectMethod e.platform s.vm cellB.cls mk = .method mk := by rw [Launch.admits_selectMethod X.admits]; exact q4
  obtain ⟨vm₁, X₁, hstep₁⟩ := X.invokevirtual hexec hown hlink hnamed hmethM hstM hkP hkPi hy (a := b) (cell := cellB) hcell
    (fun z h => by rw [h] at hobj; cases hobj) hselP hmethM habM hkP hkPi (g := g) hg (argsL := argsL) (rest := rest) (hlen _ hsigM) hstack hdg
  rcases hK m meth c ⟨T.setVm vm₁, locs, cells, slots⟩ { g with stack := rest } (.invokevirtual index) mk (Value.ref b :: argsL).toArray X₁ hg hsize hdg hW (X₁.named hnamed) (hpre vm₁ X₁.warmed) with ⟨v, B, X', hpost, hsteps⟩ | ⟨q, B, X', hpost, hsteps⟩
  · exact Or.inl ⟨v, vm₁, B, X₁.warmed, X', hpost, fun target h => hstep₁ _ fun acts => by rw [doInvoke_state]; exact hsteps.trans h⟩
  · exact Or.inr ⟨q, vm₁, B, X₁.warmed, X', hpost, hstep₁ _ fun acts => by rw [doInvoke_state]; exact hsteps⟩
theorem vx_callSX (X : Stand p l e R s m args below meth c T locs cells slots) (hexec : p.tables.exec = Jvm.exec) {own : String} {index : Nat} {y : MethodName} {bytes : ByteArray} {maxL : Nat} {ret : Option FieldType} {hh : List (Nat × Nat × Nat × Nat)}
    (hown : s.vm.findClass own = some m.cls) (hlink : (Cond.methodLink own index y).before args s = true) (hstat : (Cond.static y).before args s = true) (hinit : (Cond.initialized y.cls).before args s = true)
    (hcode : (Cond.codeWith y bytes maxL ret hh).before args s = true) (hy : y.cls ≠ "java/lang/invoke/MethodHandle" ∧ y.cls ≠ "java/lang/invoke/VarHandle")
    {W9 : Nat} {Pre : Pt → Array Value → Prop} {Post : Pt → Array Value → Option Value → Pt → Prop} {PostX : Pt → Array Value → Addr → Pt → Prop} (hK : vx_Back l R p e below s args y 3 W9 Pre Post PostX)
    {g : JFrame} (hg : g.method = m) (hsize : g.locals.size = c.maxLocals) {argsL rest : List Value} (hlen : ∀ sig, parseMethodDescriptor y.desc = some sig → argsL.length = sig.parameters.length)
    (hstack : g.stack = argsL.reverse ++ rest) (hW : 2 * g.monitorRoom + (rest.map fun v => v.category).sum ≤ W9) (hdg : decode c.code g.pc = .ok (.invokestatic index, 3))
    (hpre : ∀ vm₁, s.WarmedH vm₁ → Pre ⟨T.setVm vm₁, locs, cells, slots⟩ argsL.toArray) :
    (∃ (v : Option Value) (vm₁ : Vm) (B : Pt), s.WarmedH vm₁ ∧ Stand p l e R s m args below meth c B.U B.locs B.cells B.slots ∧ Post ⟨T.setVm vm₁, locs, cells, slots⟩ argsL.toArray v B ∧
      ∀ target, Steps p.tables e below (B.U.setTop { g with pc := g.pc + 3, stack := v.toList ++ rest }) target → Steps p.tables e below (T.setTop g) target) ∨
    (∃ (q : Addr) (vm₁ : Vm) (B : Pt), s.WarmedH vm₁ ∧ Stand p l e R s m args below meth c B.U B.locs B.cells B.slots ∧ PostX ⟨T.setVm vm₁, locs, cells, slots⟩ argsL.toArray q B ∧
      Steps p.tables e below (T.setTop g) ((B.U.setTop { g with stack := rest }).pushFrame (.throwing q))) := by
  obtain ⟨mk, methM, cM, hnamed, hmethM, -, -, -, -, -, -, hsigM⟩ := Cond.codeWith_spec hcode
  have hstatic : methM.isStatic = true := Cond.static_spec hnamed hmethM hstat
  obtain ⟨kP, hkP, -⟩ := className_of_methodNamed hnamed
  have hinitP : kP.init = .initialized := Cond.initialized_spec (findClass_of_methodNamed hnamed) hkP hinit
  obtain ⟨vm₁, X₁, hstep₁⟩ := X.invokestatic hexec hown hlink hnamed hmethM hstatic hkP hinitP hy (g := g) hg (argsL := argsL) (rest := rest) (hlen _ hsigM) hstack hdg
  rcases hK m meth c ⟨T.setVm vm₁, locs, cells, slots⟩ { g with stack := rest } (.invokestatic index) mk argsL.toArray X₁ hg hsize hdg hW (X₁.named hnamed) (hpre vm₁ X₁.warmed) with ⟨v, B, X', hpost, hsteps⟩ | ⟨q, B, X', hpost, hsteps⟩
  · exact Or.inl ⟨v, vm₁, B, X₁.warmed, X', hpost, fun target h => hstep₁ _ fun acts => by rw [doInvoke_state]; exact hsteps.trans h⟩
  · exact Or.inr ⟨q, vm₁, B, X₁.warmed, X', hpost, hstep₁ _ fun acts => by rw [doInvoke_state]; exact hsteps⟩
theorem vx_callVW (X : Stand p l e R s m args below meth c T locs cells slots) (hexec : p.tables.exec = Jvm.exec) {own C : String} {index : Nat} {y : MethodName} {bytes : ByteArray} {maxL : Nat} {ret : Option FieldType} {hh : List (Nat × Nat × Nat × Nat)}
    (hown : s.vm.findClass own = some m.cls) (hlink : (Cond.methodLink own index y).before args s = true) (hinst : (Cond.instanceMethod y).before args s = true) (hsel : (Cond.selects C y y).before args s = true)
    (hcode : (Cond.codeWith y bytes maxL ret hh).before args s = true) (hy : y.cls ≠ "java/lang/invoke/MethodHandle" ∧ y.cls ≠ "java/lang/invoke/VarHandle")
    {W9 : Nat} {Pre : Pt → Array Value → Prop} {Post : Pt → Array Value → Option Value → Pt → Prop} (hK : Back l R p e below s args y 3 W9 Pre Post)
    {b : Addr} {cellB : Cell} (hcell : T.heap[b]? = some cellB) (hobj : cellB.vm.isStatics = false) (hcls : s.vm.findClass C = some cellB.cls)
    {g : JFrame} (hg : g.method = m) (hsize : g.locals.size = c.maxLocals) {argsL rest : List Value} (hlen : ∀ sig, parseMethodDescriptor y.desc = some sig → argsL.length = sig.parameters.length)
    (hstack : g.stack = argsL.reverse ++ .ref b :: rest) (hW : 2 * g.monitorRoom + (rest.map fun v => v.category).sum ≤ W9) (hdg : decode c.code g.pc = .ok (.invokevirtual index, 3))
    (hpre : ∀ vm₁, s.WarmedH vm₁ → Pre ⟨T.setVm vm₁, locs, cells, slots⟩ (Value.ref b :: argsL).toArray) :
    ∃ (v : Option Value) (vm₁ : Vm) (B : Pt), s.WarmedH vm₁ ∧ Stand p l e R s m args below meth c B.U B.locs B.cells B.slots ∧ Post ⟨T.setVm vm₁, locs, cells, slots⟩ (Value.ref b :: argsL).toArray v B ∧
      ∀ target, Steps p.tables e below (B.U.setTop { g with pc := g.pc + 3, stack := v.toList ++ rest }) target → Steps p.tables e below (T.setTop g) target := by
  obtain ⟨mk, methM, hnamed, hmethM, hstM, habM⟩ := Cond.instanceMethod_spec hinst
  obtain ⟨m8, methM', cM, hn8, hmethM', -, -, -, -, -, -, hsigM⟩ := Cond.codeWith_spec hcode
  cases Option.some.inj (hn8.symm.trans hnamed)
  cases hmethM.symm.trans hmethM'
  obtain ⟨c2, r2, m2, q1, q2, q3, q4, kP, hkP, hkPi⟩ := Cond.selects_spec hsel
  cases hcls.symm.trans q1
  cases (State.methodFound?_of_named hnamed hy).symm.trans q2
  cases hnamed.symm.trans q3
  have hselP : selectMethod e.platform s.vm cellB.cls mk = .method mk := by rw [Launch.admits_selectMethod X.admits]; exact q4
  obtain ⟨vm₁, X₁, hstep₁⟩ := X.invokevirtual hexec hown hlink hnamed hmethM hstM hkP hkPi hy (a := b) (cell := cellB) hcell
    (fun z h => by rw [h] at hobj; cases hobj) hselP hmethM habM hkP hkPi (g := g) hg (argsL := argsL) (rest := rest) (hlen _ hsigM) hstack hdg
  obtain ⟨v, B, X', hpost, hsteps⟩ := hK m meth c ⟨T.setVm vm₁, locs, cells, slots⟩ { g with stack := rest } (.invokevirtual index) mk (Value.ref b :: argsL).toArray X₁ hg hsize hdg hW (X₁.named hnamed) (hpre vm₁ X₁.warmed)
  exact ⟨v, vm₁, B, X₁.warmed, X', hpost, fun target h => hstep₁ _ fun acts => by rw [doInvoke_state]; exact hsteps.trans h⟩
abbrev vx_CVW (R : Room) (s : State) (args : Array Value) (own C : String) (index : Nat) (y : MethodName) (bytes : ByteArray) (maxL : Nat) (ret : Option FieldType) (hh : List (Nat × Nat × Nat × Nat)) (ws : List Cond) (rm : Room) (mc ms n : Nat) : Prop :=
  (rm.cells = mc ∧ rm.slots = ms ∧ rm.frames + 1 ≤ R.frames ∧ 8 + (maxL + 11) + rm.locals ≤ R.locals ∧ (∀ w ∈ ws, ∀ (a' : Array Value) (U : State), s.WarmedH U.vm → w.before a' U = true) ∧ Cond.codeWith y bytes maxL ret hh ∈ ws) ∧
  (Cond.codeWith y bytes maxL ret hh).before args s = true ∧ (Cond.initialized y.cls).before args s = true ∧ (y.cls ≠ "java/lang/invoke/MethodHandle" ∧ y.cls ≠ "java/lang/invoke/VarHandle") ∧
  (∀ sig, parseMethodDescriptor y.desc = some sig → n = sig.parameters.length) ∧ (Cond.methodLink own index y).before args s = true ∧ (Cond.instanceMethod y).before args s = true ∧ (Cond.selects C y y).before args s = true
theorem vx_cwVW {own C : String} {index maxL mc ms : Nat} {y : MethodName} {bytes : ByteArray} {ret : Option FieldType} {hh : List (Nat × Nat × Nat × Nat)} {Ts ws ws' : List Cond} {rm : Room} (n : Nat) (ht : ∀ w ∈ Ts, w.before args s = true) (hT : GoodIn Ts (wsV own index C y ws)) (hw : ws = Cond.codeWith y bytes maxL ret hh :: ws') (hrc : rm.cells = mc) (hrs : rm.slots = ms)
    (hd : y.cls = C ∧ y.cls ≠ "java/lang/invoke/MethodHandle" ∧ y.cls ≠ "java/lang/invoke/VarHandle" ∧ (parseMethodDescriptor y.desc).map (fun d => d.parameters.length) = some n) (hR : rm.frames + 1 ≤ R.frames ∧ 8 + (maxL + 11) + rm.locals ≤ R.locals) :
    vx_CVW R s args own C index y bytes maxL ret hh ws rm mc ms n := by
  obtain ⟨hC, hd⟩ := hd
  subst hC
  have ok : ∀ w ∈ wsV own index y.cls y ws, w.before args s = true := fun w h => ht w (hT w h).1
  have hG : GoodIn Ts ws := fun w h => hT w (by unfold wsV; exact List.mem_append_right _ h)
  have hc : Cond.codeWith y bytes maxL ret hh ∈ ws := by rw [hw]; exact List.mem_cons_self
  refine ⟨⟨hrc, hrs, hR.1, hR.2, pay_in ht hG, hc⟩, ht _ (hG _ hc).1, ok _ (by simp [wsV]), ⟨hd.1, hd.2.1⟩, fun sig h => ?_, ok _ (by simp [wsV]), ok _ (by simp [wsV]), ok _ (by simp [wsV])⟩
  have h2 := hd.2.2
  rw [h] at h2
  exact (Option.some.inj h2).symm
theorem vx_runVW {y : MethodName} {bytes cc : ByteArray} {maxL nL mc ms n index : Nat} {ret : Option FieldType} {hh : List (Nat × Nat × Nat × Nat)} {ws : List Cond} {rm : Room} {Pc : Array Value → State → Prop} {Qc : Array Value → State → Outcome → State → Prop} {free : Addr → Prop} {Ts : List Cond} {own C : String} {b : Addr} {As rest : List Value} {g : JFrame}
    (S : CallFix p m c cc nL s args Ts own) (hM : Met l y ws rm Pc Qc mc ms free) (cw : vx_CVW R s args own C index y bytes maxL ret hh ws rm mc ms n) (hp : PreV s H C b Pc As)
    (hg : g.method = m) (hn : As.length = n) (hsize : g.locals.size = nL) (hstack : g.stack = As.reverse ++ .ref b :: rest) (hW : 2 * g.monitorRoom + (rest.map fun v => v.category).sum ≤ 8) (hdg : decode cc g.pc = .ok (.invokevirtual index, 3)) (hf : cells + mc ≤ R.cells ∧ slots + ms ≤ R.slots) :
    va_Run p l e R s m args below meth c H locs cells slots mc ms g rest (Qc (Value.ref b :: As).toArray) free := by
  obtain ⟨⟨hrc, hrs, hfr, hlo, hws, hcw⟩, hcode, hini, hy, hlen, hl, hin, hse⟩ := cw
  have hK : Back l R p e below s args y 3 8 (PreOf R mc ms Pc) (PostOf Qc mc ms free) := va_backW (hh := hh) (bytes := bytes) (maxL := maxL) (ret := ret) hM hp.1 hrc hrs hfr hlo hws hcw (fun a' U hW => word_at hW (Or.inl (by first | rfl | simp [Cond.onTables, Cond.keeps, Cond.steady])) hini)
  obtain ⟨hx, hb, hml, ho, -⟩ := S
  obtain ⟨-, ⟨cellB, hcB, hoB, hclB⟩, hPc⟩ := hp
  intro T hT X
  obtain ⟨v, vm₁, ⟨U', l2, c2, s2⟩, hW₁, X', ⟨g', mk, t, L, e1, e2, hq, h1, hL, h2, h3⟩, st⟩ := vx_callVW X hx (C := C) (hh := hh) (bytes := bytes) (maxL := maxL) (ret := ret) ho hl hin hse hcode hy hK (by rw [hT]; exact hcB) hoB hclB hg (hsize.trans hml.symm) (argsL := As) (rest := rest) (fun sig h => hn.trans (hlen sig h)) hstack hW (by rw [hb]; exact hdg)
    (fun vm₁ hW₁ => ⟨hf.1, hf.2, hPc (T.setVm vm₁) hT hW₁⟩)
  dsimp only [Pt.U, Pt.locs, Pt.cells, Pt.slots] at X' e1 e2 h1 h2 h3 st
  subst h1; subst h2; subst h3
  exact ⟨v, (T.setVm vm₁).calling g' mk (Value.ref b :: As).toArray, t, U', L, hT, X', hL, e1, e2, hq, st⟩
section
variable {y : MethodName} {bytes cc : ByteArray} {maxL nL mc ms n index : Nat} {ret : Option FieldType} {ws : List Cond} {rm : Room} {Pc : Array Value → State → Prop} {Qc : Array Value → State → Outcome → State → Prop} {XC : String → State → State → Prop} {free : Addr → Prop} {Ts : List Cond} {own C : String} {b : Addr} {As rest : List Value} {g : JFrame}
theorem vx_runVX {hh : List (Nat × Nat × Nat × Nat)} (S : CallFix p m c cc nL s args Ts own) (hM : vx_Met l y ws rm Pc Qc XC mc ms free) (cw : vx_CVW R s args own C index y bytes maxL ret hh ws rm mc ms n) (hp : PreV s H C b Pc As)
    (hg : g.method = m) (hn : As.length = n) (hsize : g.locals.size = nL) (hstack : g.stack = As.reverse ++ .ref b :: rest) (hW : 2 * g.monitorRoom + (rest.map fun v => v.category).sum ≤ 8) (hdg : decode cc g.pc = .ok (.invokevirtual index, 3)) (hf : cells + mc ≤ R.cells ∧ slots + ms ≤ R.slots) :
    vx_Run p l e R s m args below meth c H locs cells slots mc ms g rest (Qc (Value.ref b :: As).toArray) XC free := by
  obtain ⟨⟨hrc, hrs, hfr, hlo, hws, hcw⟩, hcode, hini, hy, hlen, hl, hin, hse⟩ := cw
  have hK : vx_Back l R p e below s args y 3 8 (PreOf R mc ms Pc) (PostOf Qc mc ms free) (vx_Post XC mc ms free) := vx_backW (hh := hh) (bytes := bytes) (maxL := maxL) (ret := ret) hM hp.1 hrc hrs hfr hlo hws hcw (fun a' U hW => word_at hW (Or.inl (by first | rfl | simp [Cond.onTables, Cond.keeps, Cond.steady])) hini)
  obtain ⟨hx, hb, hml, ho, -⟩ := S
  obtain ⟨-, ⟨cellB, hcB, hoB, hclB⟩, hPc⟩ := hp
  intro T hT X
  rcases vx_callVX X hx (C := C) (hh := hh) (bytes := bytes) (maxL := maxL) (ret := ret) ho hl hin hse hcode hy hK (by rw [hT]; exact hcB) hoB hclB hg (hsize.trans hml.symm) (argsL := As) (rest := rest) (fun sig h => hn.trans (hlen sig h)) hstack hW (by rw [hb]; exact hdg)
    (fun vm₁ hW₁ => ⟨hf.1, hf.2, hPc (T.setVm vm₁) hT hW₁⟩) with ⟨v, vm₁, ⟨U', l2, c2, s2⟩, hW₁, X', ⟨g', mk, t, L, e1, e2, hq, h1, hL, h2, h3⟩, st⟩ | ⟨q, vm₁, ⟨U', l2, c2, s2⟩, hW₁, X', ⟨g', mk, t, L, E, ce, e1, e2, hq, hce, hcv, hcl, h1, hL, h2, h3⟩, st⟩
  · dsimp only [Pt.U, Pt.locs, Pt.cells, Pt.slots] at X' e1 e2 h1 h2 h3 st
    subst h1; subst h2; subst h3
    exact Or.inl ⟨v, (T.setVm vm₁).calling g' mk (Value.ref b :: As).toArray, t, U', L, hT, X', hL, e1, e2, hq, st⟩
  · dsimp only [Pt.U, Pt.locs, Pt.cells, Pt.slots] at X' e1 e2 h1 h2 h3 st hcl
    subst h1; subst h2; subst h3
    exact Or.inr ⟨q, (T.setVm vm₁).calling g' mk (Value.ref b :: As).toArray, t, U', L, E, ce, hT, X', hL, e1, e2, hq, hce, hcv, vx_cls hW₁ hcl, st⟩
theorem vx_runSX {hh : List (Nat × Nat × Nat × Nat)} (S : CallFix p m c cc nL s args Ts own) (hM : vx_Met l y ws rm Pc Qc XC mc ms free) (cw : vx_CSW R s args own index y bytes maxL ret hh ws rm mc ms n) (hp : PreS s H Pc As)
    (hg : g.method = m) (hn : As.length = n) (hsize : g.locals.size = nL) (hstack : g.stack = As.reverse ++ rest) (hW : 2 * g.monitorRoom + (rest.map fun v => v.category).sum ≤ 8) (hdg : decode cc g.pc = .ok (.invokestatic index, 3)) (hf : cells + mc ≤ R.cells ∧ slots + ms ≤ R.slots) :
    vx_Run p l e R s m args below meth c H locs cells slots mc ms g rest (Qc As.toArray) XC free := by
  obtain ⟨⟨hrc, hrs, hfr, hlo, hws, hcw⟩, hcode, hini, hy, hlen, hl, hstt⟩ := cw
  have hK : vx_Back l R p e below s args y 3 8 (PreOf R mc ms Pc) (PostOf Qc mc ms free) (vx_Post XC mc ms free) := vx_backW (hh := hh) (bytes := bytes) (maxL := maxL) (ret := ret) hM hp.1 hrc hrs hfr hlo hws hcw (fun a' U hW => word_at hW (Or.inl (by first | rfl | simp [Cond.onTables, Cond.keeps, Cond.steady])) hini)
  obtain ⟨hx, hb, hml, ho, -⟩ := S
  intro T hT X
  rcases vx_callSX X hx (hh := hh) (bytes := bytes) (maxL := maxL) (ret := ret) ho hl hstt hini hcode hy hK hg (hsize.trans hml.symm) (argsL := As) (rest := rest) (fun sig h => hn.trans (hlen sig h)) hstack hW (by rw [hb]; exact hdg)
    (fun vm₁ hW₁ => ⟨hf.1, hf.2, hp.2 (T.setVm vm₁) hT hW₁⟩) with ⟨v, vm₁, ⟨U', l2, c2, s2⟩, hW₁, X', ⟨g', mk, t, L, e1, e2, hq, h1, hL, h2, h3⟩, st⟩ | ⟨q, vm₁, ⟨U', l2, c2, s2⟩, hW₁, X', ⟨g', mk, t, L, E, ce, e1, e2, hq, hce, hcv, hcl, h1, hL, h2, h3⟩, st⟩
  · dsimp only [Pt.U, Pt.locs, Pt.cells, Pt.slots] at X' e1 e2 h1 h2 h3 st
    subst h1; subst h2; subst h3
    exact Or.inl ⟨v, (T.setVm vm₁).calling g' mk As.toArray, t, U', L, hT, X', hL, e1, e2, hq, st⟩
  · dsimp only [Pt.U, Pt.locs, Pt.cells, Pt.slots] at X' e1 e2 h1 h2 h3 st hcl
    subst h1; subst h2; subst h3
    exact Or.inr ⟨q, (T.setVm vm₁).calling g' mk As.toArray, t, U', L, E, ce, hT, X', hL, e1, e2, hq, hce, hcv, vx_cls hW₁ hcl, st⟩
end
end VXH
theorem vx_ofWH {l : Launch} {y : MethodName} {ws ws' : List Cond} {rm : Room} {Pc : Array Value → State → Prop} {Qc : Array Value → State → Outcome → State → Prop} {XC : String → State → State → Prop} {mc ms : Nat} {free : Addr → Prop} {cc : ByteArray} {maxL : Nat} {ret : Option FieldType} {hh : List (Nat × Nat × Nat × Nat)}
    (hy : plainName y.cls = true) (hw : ws = Cond.codeWith y cc maxL ret hh :: ws')
    (body : ∀ p e s m args below meth c s₁, BodyLoose p l y (headSpec ws rm) cc maxL ret e s m args below meth c s₁ → c.maxLocals = maxL → Pc args s →
      W p l e (headSpec ws rm).room s m args below meth c s.heap [] 0 0 (vx_MQ below Qc XC args s mc ms free) (entryFrame m args maxL)) : vx_Met l y ws rm Pc Qc XC mc ms free := by
  refine MetFree.of_bodyS (code := cc) (maxLocals := maxL) (ret := ret) hy ?_ ?_
  · intro args s m h hn
    obtain ⟨m9, meth, c, hn9, h1, h2, h3, h4, -, h5, h6, -⟩ := Cond.codeWith_spec (atoms_spec (ws := ws) h _ (by rw [hw]; exact List.mem_cons_self))
    cases hn.symm.trans hn9
    exact ⟨meth, c, h1, h2, h3, h4, h5, h6⟩
  · intro p e s m args below meth c s₁ B hml hP _
    have hh0 : s₁.heap = s.heap := by rw [B.state]; rfl
    obtain ⟨t, a1, o, b1, b2, b3⟩ := body p e s m args below meth c s₁ B hml hP s₁ hh0 (Stand.of_body B)
    exact ⟨t, o, a1, b1, b2, b3⟩
/-! ===== END ===== -/
end
section
/-! ===== BEGIN printed: names, fields, word lists, decode rows ===== -/
def RX0 : String := "GlossedPage$Authors"
def TX0 : u_T := fun k => match k with
  | 0 => ("GlossedPage$Authors", "years", "[I", true)
  | 1 => ("GlossedPage$Authors", "schools", "[I", true)
  | 2 => ("GlossedPage$Authors", "initials", "[I", true)
  | _ => ("GlossedPage$Authors", "count", "I", false)
def tyX0 : Nat → FieldType := fun k => match k with
  | 0 => .array .int
  | 1 => .array .int
  | 2 => .array .int
  | _ => .int
abbrev wsX00 : List Cond := u_ws RX0 TX0 4
theorem nmX0 : ∀ a, a < 4 → ∀ b, b < 4 → a ≠ b → (TX0 a).2.1 ≠ (TX0 b).2.1 := by decide +kernel
theorem tyX0_ok : ∀ k, k < 4 → parseFieldDescriptor (TX0 k).2.2.1 = some (tyX0 k) := by decide +kernel
abbrev cX0_init : ByteArray := prog_2_method_1_code
def yX0_init : MethodName := ⟨RX0, "<init>", "()V"⟩
abbrev cX0_count : ByteArray := prog_2_method_2_code
def yX0_count : MethodName := ⟨RX0, "count", "()I"⟩
abbrev cX0_isFull : ByteArray := prog_2_method_3_code
def yX0_isFull : MethodName := ⟨RX0, "isFull", "()Z"⟩
abbrev cX0_has : ByteArray := prog_2_method_4_code
def yX0_has : MethodName := ⟨RX0, "has", "(I)Z"⟩
abbrev cX0_add : ByteArray := prog_2_method_5_code
def yX0_add : MethodName := ⟨RX0, "add", "(III)V"⟩
def RX1 : String := "GlossedPage$Comments"
def TX1 : u_T := fun k => match k with
  | 0 => ("GlossedPage$Comments", "writers", "[I", true)
  | 1 => ("GlossedPage$Comments", "kinds", "[I", true)
  | 2 => ("GlossedPage$Comments", "lines", "[I", true)
  | 3 => ("GlossedPage$Comments", "margins", "[I", true)
  | 4 => ("GlossedPage$Comments", "parents", "[I", true)
  | 5 => ("GlossedPage$Comments", "roots", "[I", true)
  | 6 => ("GlossedPage$Comments", "units", "[I", true)
  | 7 => ("GlossedPage$Comments", "places", "[I", true)
  | 8 => ("GlossedPage$Comments", "words", "[I", true)
  | 9 => ("GlossedPage$Comments", "lost", "[Z", true)
  | 10 => ("GlossedPage$Comments", "burdens", "[I", true)
  | _ => ("GlossedPage$Comments", "count", "I", false)
def tyX1 : Nat → FieldType := fun k => match k with
  | 0 => .array .int
  | 1 => .array .int
  | 2 => .array .int
  | 3 => .array .int
  | 4 => .array .int
  | 5 => .array .int
  | 6 => .array .int
  | 7 => .array .int
  | 8 => .array .int
  | 9 => .array .boolean
  | 10 => .array .int
  | _ => .int
abbrev wsX10 : List Cond := u_ws RX1 TX1 12
theorem nmX1 : ∀ a, a < 12 → ∀ b, b < 12 → a ≠ b → (TX1 a).2.1 ≠ (TX1 b).2.1 := by decide +kernel
theorem tyX1_ok : ∀ k, k < 12 → parseFieldDescriptor (TX1 k).2.2.1 = some (tyX1 k) := by decide +kernel
abbrev cX1_init : ByteArray := prog_3_method_1_code
def yX1_init : MethodName := ⟨RX1, "<init>", "()V"⟩
abbrev cX1_isFull : ByteArray := prog_3_method_3_code
def yX1_isFull : MethodName := ⟨RX1, "isFull", "()Z"⟩
abbrev cX1_has : ByteArray := prog_3_method_4_code
def yX1_has : MethodName := ⟨RX1, "has", "(I)Z"⟩
abbrev cX1_add : ByteArray := prog_3_method_5_code
def yX1_add : MethodName := ⟨RX1, "add", "(IIII)I"⟩
abbrev cX1_hookTo : ByteArray := prog_3_method_6_code
def yX1_hookTo : MethodName := ⟨RX1, "hookTo", "(IIII)V"⟩
abbrev cX1_authorOf : ByteArray := prog_3_method_8_code
def yX1_authorOf : MethodName := ⟨RX1, "authorOf", "(I)I"⟩
abbrev cX1_kindOf : ByteArray := prog_3_method_9_code
def yX1_kindOf : MethodName := ⟨RX1, "kindOf", "(I)I"⟩
abbrev cX1_parentOf : ByteArray := prog_3_method_12_code
def yX1_parentOf : MethodName := ⟨RX1, "parentOf", "(I)I"⟩
abbrev cX1_unitOf : ByteArray := prog_3_method_13_code
def yX1_unitOf : MethodName := ⟨RX1, "unitOf", "(I)I"⟩
abbrev cX1_placeOf : ByteArray := prog_3_method_14_code
def yX1_placeOf : MethodName := ⟨RX1, "placeOf", "(I)I"⟩
abbrev cX1_isLost : ByteArray := prog_3_method_15_code
def yX1_isLost : MethodName := ⟨RX1, "isLost", "(I)Z"⟩
abbrev cX1_isHook : ByteArray := prog_3_method_16_code
def yX1_isHook : MethodName := ⟨RX1, "isHook", "(II)Z"⟩
abbrev cX1_closeGap : ByteArray := prog_3_method_17_code
def yX1_closeGap : MethodName := ⟨RX1, "closeGap", "(III)V"⟩
abbrev cX1_hookAnew : ByteArray := prog_3_method_18_code
def yX1_hookAnew : MethodName := ⟨RX1, "hookAnew", "(ILGlossedPage$Text;)I"⟩
abbrev cX1_stands : ByteArray := prog_3_method_19_code
def yX1_stands : MethodName := ⟨RX1, "stands", "(I)Z"⟩
abbrev cX1_weigh : ByteArray := prog_3_method_20_code
def yX1_weigh : MethodName := ⟨RX1, "weigh", "()V"⟩
abbrev cX1_isLight : ByteArray := prog_3_method_21_code
def yX1_isLight : MethodName := ⟨RX1, "isLight", "(I)Z"⟩
abbrev cX1_burdenOf : ByteArray := prog_3_method_22_code
def yX1_burdenOf : MethodName := ⟨RX1, "burdenOf", "(I)I"⟩
def RX2 : String := "GlossedPage$Editions"
def TX2 : u_T := fun k => match k with
  | 0 => ("GlossedPage$Editions", "addresses", "[I", true)
  | 1 => ("GlossedPage$Editions", "pageCounts", "[I", true)
  | 2 => ("GlossedPage$Editions", "unitCounts", "[I", true)
  | 3 => ("GlossedPage$Editions", "count", "I", false)
  | _ => ("GlossedPage$Editions", "width", "I", false)
def tyX2 : Nat → FieldType := fun k => match k with
  | 0 => .array .int
  | 1 => .array .int
  | 2 => .array .int
  | 3 => .int
  | _ => .int
abbrev wsX20 : List Cond := u_ws RX2 TX2 5
theorem nmX2 : ∀ a, a < 5 → ∀ b, b < 5 → a ≠ b → (TX2 a).2.1 ≠ (TX2 b).2.1 := by decide +kernel
theorem tyX2_ok : ∀ k, k < 5 → parseFieldDescriptor (TX2 k).2.2.1 = some (tyX2 k) := by decide +kernel
abbrev cX2_init : ByteArray := prog_4_method_1_code
def yX2_init : MethodName := ⟨RX2, "<init>", "()V"⟩
def RX3 : String := "GlossedPage$Margin"
def TX3 : u_T := fun k => match k with
  | 0 => ("GlossedPage$Margin", "heights", "[I", true)
  | _ => ("GlossedPage$Margin", "free", "I", false)
def tyX3 : Nat → FieldType := fun k => match k with
  | 0 => .array .int
  | _ => .int
abbrev wsX30 : List Cond := u_ws RX3 TX3 2
theorem nmX3 : ∀ a, a < 2 → ∀ b, b < 2 → a ≠ b → (TX3 a).2.1 ≠ (TX3 b).2.1 := by decide +kernel
theorem tyX3_ok : ∀ k, k < 2 → parseFieldDescriptor (TX3 k).2.2.1 = some (tyX3 k) := by decide +kernel
abbrev cX3_init : ByteArray := prog_5_method_1_code
def yX3_init : MethodName := ⟨RX3, "<init>", "()V"⟩
def RX4 : String := "GlossedPage$Pad"
def TX4 : u_T := fun k => match k with
  | 0 => ("GlossedPage$Pad", "words", "[I", true)
  | _ => ("GlossedPage$Pad", "size", "I", false)
def tyX4 : Nat → FieldType := fun k => match k with
  | 0 => .array .int
  | _ => .int
abbrev wsX40 : List Cond := u_ws RX4 TX4 2
theorem nmX4 : ∀ a, a < 2 → ∀ b, b < 2 → a ≠ b → (TX4 a).2.1 ≠ (TX4 b).2.1 := by decide +kernel
theorem tyX4_ok : ∀ k, k < 2 → parseFieldDescriptor (TX4 k).2.2.1 = some (tyX4 k) := by decide +kernel
abbrev cX4_init : ByteArray := prog_6_method_1_code
def yX4_init : MethodName := ⟨RX4, "<init>", "()V"⟩
abbrev cX4_size : ByteArray := prog_6_method_2_code
def yX4_size : MethodName := ⟨RX4, "size", "()I"⟩
abbrev cX4_isFull : ByteArray := prog_6_method_3_code
def yX4_isFull : MethodName := ⟨RX4, "isFull", "()Z"⟩
abbrev cX4_add : ByteArray := prog_6_method_4_code
def yX4_add : MethodName := ⟨RX4, "add", "(I)V"⟩
abbrev cX4_clear : ByteArray := prog_6_method_5_code
def yX4_clear : MethodName := ⟨RX4, "clear", "()V"⟩
abbrev cX4_wordAt : ByteArray := prog_6_method_6_code
def yX4_wordAt : MethodName := ⟨RX4, "wordAt", "(I)I"⟩
def RX5 : String := "GlossedPage$Rulings"
def TX5 : u_T := fun k => match k with
  | 0 => ("GlossedPage$Rulings", "ruled", "[I", true)
  | 1 => ("GlossedPage$Rulings", "yes", "[I", true)
  | 2 => ("GlossedPage$Rulings", "ruleKinds", "[I", true)
  | 3 => ("GlossedPage$Rulings", "ruleWhats", "[I", true)
  | _ => ("GlossedPage$Rulings", "rules", "I", false)
def tyX5 : Nat → FieldType := fun k => match k with
  | 0 => .array .int
  | 1 => .array .int
  | 2 => .array .int
  | 3 => .array .int
  | _ => .int
abbrev wsX50 : List Cond := u_ws RX5 TX5 5
theorem nmX5 : ∀ a, a < 5 → ∀ b, b < 5 → a ≠ b → (TX5 a).2.1 ≠ (TX5 b).2.1 := by decide +kernel
theorem tyX5_ok : ∀ k, k < 5 → parseFieldDescriptor (TX5 k).2.2.1 = some (tyX5 k) := by decide +kernel
abbrev cX5_init : ByteArray := prog_7_method_1_code
def yX5_init : MethodName := ⟨RX5, "<init>", "()V"⟩
def RX6 : String := "GlossedPage$Setting"
def TX6 : u_T := fun k => match k with
  | 0 => ("GlossedPage$Setting", "inner", "LGlossedPage$Margin;", true)
  | 1 => ("GlossedPage$Setting", "outer", "LGlossedPage$Margin;", true)
  | 2 => ("GlossedPage$Setting", "rows", "[I", true)
  | 3 => ("GlossedPage$Setting", "width", "I", false)
  | _ => ("GlossedPage$Setting", "next", "I", false)
def tyX6 : Nat → FieldType := fun k => match k with
  | 0 => .object "GlossedPage$Margin"
  | 1 => .object "GlossedPage$Margin"
  | 2 => .array .int
  | 3 => .int
  | _ => .int
abbrev wsX60 : List Cond := u_ws RX6 TX6 5
theorem nmX6 : ∀ a, a < 5 → ∀ b, b < 5 → a ≠ b → (TX6 a).2.1 ≠ (TX6 b).2.1 := by decide +kernel
theorem tyX6_ok : ∀ k, k < 5 → parseFieldDescriptor (TX6 k).2.2.1 = some (tyX6 k) := by decide +kernel
abbrev cX6_init : ByteArray := prog_8_method_1_code
def yX6_init : MethodName := ⟨RX6, "<init>", "()V"⟩
def RX7 : String := "GlossedPage$Text"
def TX7 : u_T := fun k => match k with
  | 0 => ("GlossedPage$Text", "words", "[I", true)
  | 1 => ("GlossedPage$Text", "sizes", "[I", true)
  | 2 => ("GlossedPage$Text", "likenesses", "[I", true)
  | _ => ("GlossedPage$Text", "count", "I", false)
def tyX7 : Nat → FieldType := fun k => match k with
  | 0 => .array .int
  | 1 => .array .int
  | 2 => .array .int
  | _ => .int
abbrev wsX70 : List Cond := u_ws RX7 TX7 4
theorem nmX7 : ∀ a, a < 4 → ∀ b, b < 4 → a ≠ b → (TX7 a).2.1 ≠ (TX7 b).2.1 := by decide +kernel
theorem tyX7_ok : ∀ k, k < 4 → parseFieldDescriptor (TX7 k).2.2.1 = some (tyX7 k) := by decide +kernel
abbrev cX7_init : ByteArray := prog_9_method_1_code
def yX7_init : MethodName := ⟨RX7, "<init>", "()V"⟩
abbrev cX7_count : ByteArray := prog_9_method_2_code
def yX7_count : MethodName := ⟨RX7, "count", "()I"⟩
abbrev cX7_isFull : ByteArray := prog_9_method_3_code
def yX7_isFull : MethodName := ⟨RX7, "isFull", "()Z"⟩
abbrev cX7_has : ByteArray := prog_9_method_4_code
def yX7_has : MethodName := ⟨RX7, "has", "(I)Z"⟩
abbrev cX7_hasPlace : ByteArray := prog_9_method_5_code
def yX7_hasPlace : MethodName := ⟨RX7, "hasPlace", "(II)Z"⟩
abbrev cX7_sizeOf : ByteArray := prog_9_method_6_code
def yX7_sizeOf : MethodName := ⟨RX7, "sizeOf", "(I)I"⟩
abbrev cX7_wordAt : ByteArray := prog_9_method_7_code
def yX7_wordAt : MethodName := ⟨RX7, "wordAt", "(II)I"⟩
abbrev cX7_put : ByteArray := prog_9_method_8_code
def yX7_put : MethodName := ⟨RX7, "put", "(III)V"⟩
abbrev cX7_add : ByteArray := prog_9_method_9_code
def yX7_add : MethodName := ⟨RX7, "add", "(LGlossedPage$Pad;)V"⟩
abbrev cX7_takeOut : ByteArray := prog_9_method_10_code
def yX7_takeOut : MethodName := ⟨RX7, "takeOut", "(II)V"⟩
abbrev cX7_placeOf : ByteArray := prog_9_method_11_code
def yX7_placeOf : MethodName := ⟨RX7, "placeOf", "(III)I"⟩
abbrev cX7_nearest : ByteArray := prog_9_method_12_code
def yX7_nearest : MethodName := ⟨RX7, "nearest", "(III)I"⟩
def RX8 : String := "GlossedPage"
def TX8 : u_T := fun k => match k with
  | 0 => ("GlossedPage", "pad", "LGlossedPage$Pad;", true)
  | 1 => ("GlossedPage", "text", "LGlossedPage$Text;", true)
  | 2 => ("GlossedPage", "authors", "LGlossedPage$Authors;", true)
  | 3 => ("GlossedPage", "comments", "LGlossedPage$Comments;", true)
  | 4 => ("GlossedPage", "rulings", "LGlossedPage$Rulings;", true)
  | 5 => ("GlossedPage", "setting", "LGlossedPage$Setting;", true)
  | _ => ("GlossedPage", "editions", "LGlossedPage$Editions;", true)
def tyX8 : Nat → FieldType := fun k => match k with
  | 0 => .object "GlossedPage$Pad"
  | 1 => .object "GlossedPage$Text"
  | 2 => .object "GlossedPage$Authors"
  | 3 => .object "GlossedPage$Comments"
  | 4 => .object "GlossedPage$Rulings"
  | 5 => .object "GlossedPage$Setting"
  | _ => .object "GlossedPage$Editions"
abbrev wsX80 : List Cond := u_ws RX8 TX8 7
theorem nmX8 : ∀ a, a < 7 → ∀ b, b < 7 → a ≠ b → (TX8 a).2.1 ≠ (TX8 b).2.1 := by decide +kernel
theorem tyX8_ok : ∀ k, k < 7 → parseFieldDescriptor (TX8 k).2.2.1 = some (tyX8 k) := by decide +kernel
abbrev cX8_init : ByteArray := prog_1_method_1_code
def yX8_init : MethodName := ⟨RX8, "<init>", "()V"⟩
abbrev cX8_word : ByteArray := prog_1_method_2_code
def yX8_word : MethodName := ⟨RX8, "word", "(I)I"⟩
abbrev cX8_unit : ByteArray := prog_1_method_4_code
def yX8_unit : MethodName := ⟨RX8, "unit", "()I"⟩
abbrev cX8_emend : ByteArray := prog_1_method_5_code
def yX8_emend : MethodName := ⟨RX8, "emend", "(III)I"⟩
abbrev cX8_textOf : ByteArray := prog_1_method_6_code
def yX8_textOf : MethodName := ⟨RX8, "textOf", "(II)I"⟩
abbrev cX8_author : ByteArray := prog_1_method_7_code
def yX8_author : MethodName := ⟨RX8, "author", "(III)I"⟩
abbrev cX8_comment : ByteArray := prog_1_method_9_code
def yX8_comment : MethodName := ⟨RX8, "comment", "(IIIIIII)I"⟩
abbrev cX8_told : ByteArray := prog_1_method_11_code
def yX8_told : MethodName := ⟨RX8, "told", "(II)I"⟩
abbrev cX8_needArgument : ByteArray := prog_1_method_27_code
def yX8_needArgument : MethodName := ⟨RX8, "needArgument", "(III)V"⟩
abbrev cX8_needUnit : ByteArray := prog_1_method_28_code
def yX8_needUnit : MethodName := ⟨RX8, "needUnit", "(I)V"⟩
abbrev cX8_needAuthor : ByteArray := prog_1_method_29_code
def yX8_needAuthor : MethodName := ⟨RX8, "needAuthor", "(I)V"⟩
abbrev cX8_needComment : ByteArray := prog_1_method_30_code
def yX8_needComment : MethodName := ⟨RX8, "needComment", "(I)V"⟩
abbrev cX8_needRoomForComment : ByteArray := prog_1_method_31_code
def yX8_needRoomForComment : MethodName := ⟨RX8, "needRoomForComment", "()V"⟩
abbrev cX8_at : ByteArray := prog_1_method_34_code
def yX8_at : MethodName := ⟨RX8, "at", "([II)I"⟩
def RX9 : String := "GlossedPageModel"
def TX9 : u_T := fun k => match k with
  | _ => ("", "", "", false)
def tyX9 : Nat → FieldType := fun k => match k with
  | _ => .int
abbrev wsX90 : List Cond := u_ws RX9 TX9 0
theorem nmX9 : ∀ a, a < 0 → ∀ b, b < 0 → a ≠ b → (TX9 a).2.1 ≠ (TX9 b).2.1 := by decide +kernel
theorem tyX9_ok : ∀ k, k < 0 → parseFieldDescriptor (TX9 k).2.2.1 = some (tyX9 k) := by decide +kernel
def RJx145de : String := "java/io/Serializable"
def TJx145de : u_T := fun k => match k with
  | _ => ("", "", "", false)
def tyJx145de : Nat → FieldType := fun k => match k with
  | _ => .int
abbrev wsJx145de0 : List Cond := u_ws RJx145de TJx145de 0
theorem nmJx145de : ∀ a, a < 0 → ∀ b, b < 0 → a ≠ b → (TJx145de a).2.1 ≠ (TJx145de b).2.1 := by decide +kernel
theorem tyJx145de_ok : ∀ k, k < 0 → parseFieldDescriptor (TJx145de k).2.2.1 = some (tyJx145de k) := by decide +kernel
def RJ9 : String := "java/lang/Math"
def TJ9 : u_T := fun k => match k with
  | _ => ("", "", "", false)
def tyJ9 : Nat → FieldType := fun k => match k with
  | _ => .int
abbrev wsJ90 : List Cond := u_ws RJ9 TJ9 0
theorem nmJ9 : ∀ a, a < 0 → ∀ b, b < 0 → a ≠ b → (TJ9 a).2.1 ≠ (TJ9 b).2.1 := by decide +kernel
theorem tyJ9_ok : ∀ k, k < 0 → parseFieldDescriptor (TJ9 k).2.2.1 = some (tyJ9 k) := by decide +kernel
abbrev cJ9_abs_0f7a4 : ByteArray := prog_16_method_59_code
def yJ9_abs_0f7a4 : MethodName := ⟨RJ9, "abs", "(I)I"⟩
abbrev cJ9_min_7cf53 : ByteArray := prog_16_method_69_code
def yJ9_min_7cf53 : MethodName := ⟨RJ9, "min", "(II)I"⟩
def RJ0 : String := "java/lang/String"
def TJ0 : u_T := fun k => match k with
  | _ => ("", "", "", false)
def tyJ0 : Nat → FieldType := fun k => match k with
  | _ => .int
abbrev wsJ00 : List Cond := u_ws RJ0 TJ0 0
theorem nmJ0 : ∀ a, a < 0 → ∀ b, b < 0 → a ≠ b → (TJ0 a).2.1 ≠ (TJ0 b).2.1 := by decide +kernel
theorem tyJ0_ok : ∀ k, k < 0 → parseFieldDescriptor (TJ0 k).2.2.1 = some (tyJ0 k) := by decide +kernel
def RJ7 : String := "java/util/Arrays"
def TJ7 : u_T := fun k => match k with
  | _ => ("", "", "", false)
def tyJ7 : Nat → FieldType := fun k => match k with
  | _ => .int
abbrev wsJ70 : List Cond := u_ws RJ7 TJ7 0
theorem nmJ7 : ∀ a, a < 0 → ∀ b, b < 0 → a ≠ b → (TJ7 a).2.1 ≠ (TJ7 b).2.1 := by decide +kernel
theorem tyJ7_ok : ∀ k, k < 0 → parseFieldDescriptor (TJ7 k).2.2.1 = some (tyJ7 k) := by decide +kernel
abbrev cJ7_fill_53178 : ByteArray := prog_20_method_103_code
def yJ7_fill_53178 : MethodName := ⟨RJ7, "fill", "([II)V"⟩
def RL : String := "GlossedPageLaw"
abbrev cL_up : ByteArray := method_2_code
def yL_up : MethodName := ⟨RL, "up", "(II)I"⟩
abbrev cL_cell : ByteArray := method_3_code
def yL_cell : MethodName := ⟨RL, "cell", "([II)I"⟩
abbrev cL_comment : ByteArray := method_4_code
def yL_comment : MethodName := ⟨RL, "comment", "(LGlossedPage;II)I"⟩
abbrev cL_emend : ByteArray := method_5_code
def yL_emend : MethodName := ⟨RL, "emend", "(LGlossedPage;II)I"⟩
abbrev cL_nth : ByteArray := method_6_code
def yL_nth : MethodName := ⟨RL, "nth", "([IIII)I"⟩
abbrev cL_near : ByteArray := method_7_code
def yL_near : MethodName := ⟨RL, "near", "([IIII)I"⟩
abbrev cL_law : ByteArray := code
def yL_law : MethodName := ⟨RL, "law", "([I)Z"⟩
abbrev vwCl : List vw_C := [(RX0, TX0, 4), (RX1, TX1, 12), (RX2, TX2, 5), (RX3, TX3, 2), (RX4, TX4, 2), (RX5, TX5, 5), (RX6, TX6, 5), (RX7, TX7, 4), (RX8, TX8, 7)]
end
section
theorem dX0_init_0 : decode cX0_init 0 = .ok (.aload_n 0, 1) := by decide +kernel
theorem dX0_init_1 : decode cX0_init 1 = .ok (.invokespecial 3, 3) := by decide +kernel
theorem dX0_init_4 : decode cX0_init 4 = .ok (.aload_n 0, 1) := by decide +kernel
theorem dX0_init_5 : decode cX0_init 5 = .ok (.bipush 12, 2) := by decide +kernel
theorem dX0_init_7 : decode cX0_init 7 = .ok (.newarray .int, 2) := by decide +kernel
theorem dX0_init_9 : decode cX0_init 9 = .ok (.putfield 9, 3) := by decide +kernel
theorem dX0_init_12 : decode cX0_init 12 = .ok (.aload_n 0, 1) := by decide +kernel
theorem dX0_init_13 : decode cX0_init 13 = .ok (.bipush 12, 2) := by decide +kernel
theorem dX0_init_15 : decode cX0_init 15 = .ok (.newarray .int, 2) := by decide +kernel
theorem dX0_init_17 : decode cX0_init 17 = .ok (.putfield 15, 3) := by decide +kernel
theorem dX0_init_20 : decode cX0_init 20 = .ok (.aload_n 0, 1) := by decide +kernel
theorem dX0_init_21 : decode cX0_init 21 = .ok (.bipush 12, 2) := by decide +kernel
theorem dX0_init_23 : decode cX0_init 23 = .ok (.newarray .int, 2) := by decide +kernel
theorem dX0_init_25 : decode cX0_init 25 = .ok (.putfield 18, 3) := by decide +kernel
theorem dX0_init_28 : decode cX0_init 28 = .ok (.return_, 1) := by decide +kernel
theorem dX0_count_0 : decode cX0_count 0 = .ok (.aload_n 0, 1) := by decide +kernel
theorem dX0_count_1 : decode cX0_count 1 = .ok (.getfield 21, 3) := by decide +kernel
theorem dX0_count_4 : decode cX0_count 4 = .ok (.ireturn, 1) := by decide +kernel
theorem dX0_isFull_0 : decode cX0_isFull 0 = .ok (.aload_n 0, 1) := by decide +kernel
theorem dX0_isFull_1 : decode cX0_isFull 1 = .ok (.getfield 21, 3) := by decide +kernel
theorem dX0_isFull_4 : decode cX0_isFull 4 = .ok (.bipush 12, 2) := by decide +kernel
theorem dX0_isFull_6 : decode cX0_isFull 6 = .ok (.if_icmp .lt 7, 3) := by decide +kernel
theorem dX0_isFull_9 : decode cX0_isFull 9 = .ok (.iconst 1, 1) := by decide +kernel
theorem dX0_isFull_10 : decode cX0_isFull 10 = .ok (.goto 4, 3) := by decide +kernel
theorem dX0_isFull_13 : decode cX0_isFull 13 = .ok (.iconst 0, 1) := by decide +kernel
theorem dX0_isFull_14 : decode cX0_isFull 14 = .ok (.ireturn, 1) := by decide +kernel
theorem dX0_has_0 : decode cX0_has 0 = .ok (.iload_n 1, 1) := by decide +kernel
theorem dX0_has_1 : decode cX0_has 1 = .ok (.ifCond .lt 15, 3) := by decide +kernel
theorem dX0_has_4 : decode cX0_has 4 = .ok (.iload_n 1, 1) := by decide +kernel
theorem dX0_has_5 : decode cX0_has 5 = .ok (.aload_n 0, 1) := by decide +kernel
theorem dX0_has_6 : decode cX0_has 6 = .ok (.getfield 21, 3) := by decide +kernel
theorem dX0_has_9 : decode cX0_has 9 = .ok (.if_icmp .ge 7, 3) := by decide +kernel
theorem dX0_has_12 : decode cX0_has 12 = .ok (.iconst 1, 1) := by decide +kernel
theorem dX0_has_13 : decode cX0_has 13 = .ok (.goto 4, 3) := by decide +kernel
theorem dX0_has_16 : decode cX0_has 16 = .ok (.iconst 0, 1) := by decide +kernel
theorem dX0_has_17 : decode cX0_has 17 = .ok (.ireturn, 1) := by decide +kernel
theorem dX0_add_0 : decode cX0_add 0 = .ok (.aload_n 0, 1) := by decide +kernel
theorem dX0_add_1 : decode cX0_add 1 = .ok (.invokevirtual 25, 3) := by decide +kernel
theorem dX0_add_4 : decode cX0_add 4 = .ok (.ifCond .ne 43, 3) := by decide +kernel
theorem dX0_add_7 : decode cX0_add 7 = .ok (.aload_n 0, 1) := by decide +kernel
theorem dX0_add_8 : decode cX0_add 8 = .ok (.getfield 9, 3) := by decide +kernel
theorem dX0_add_11 : decode cX0_add 11 = .ok (.aload_n 0, 1) := by decide +kernel
theorem dX0_add_12 : decode cX0_add 12 = .ok (.getfield 21, 3) := by decide +kernel
theorem dX0_add_15 : decode cX0_add 15 = .ok (.iload_n 1, 1) := by decide +kernel
theorem dX0_add_16 : decode cX0_add 16 = .ok (.iastore, 1) := by decide +kernel
theorem dX0_add_17 : decode cX0_add 17 = .ok (.aload_n 0, 1) := by decide +kernel
theorem dX0_add_18 : decode cX0_add 18 = .ok (.getfield 15, 3) := by decide +kernel
theorem dX0_add_21 : decode cX0_add 21 = .ok (.aload_n 0, 1) := by decide +kernel
theorem dX0_add_22 : decode cX0_add 22 = .ok (.getfield 21, 3) := by decide +kernel
theorem dX0_add_25 : decode cX0_add 25 = .ok (.iload_n 2, 1) := by decide +kernel
theorem dX0_add_26 : decode cX0_add 26 = .ok (.iastore, 1) := by decide +kernel
theorem dX0_add_27 : decode cX0_add 27 = .ok (.aload_n 0, 1) := by decide +kernel
theorem dX0_add_28 : decode cX0_add 28 = .ok (.getfield 18, 3) := by decide +kernel
theorem dX0_add_31 : decode cX0_add 31 = .ok (.aload_n 0, 1) := by decide +kernel
theorem dX0_add_32 : decode cX0_add 32 = .ok (.getfield 21, 3) := by decide +kernel
theorem dX0_add_35 : decode cX0_add 35 = .ok (.iload_n 3, 1) := by decide +kernel
theorem dX0_add_36 : decode cX0_add 36 = .ok (.iastore, 1) := by decide +kernel
theorem dX0_add_37 : decode cX0_add 37 = .ok (.aload_n 0, 1) := by decide +kernel
theorem dX0_add_38 : decode cX0_add 38 = .ok (.dup, 1) := by decide +kernel
theorem dX0_add_39 : decode cX0_add 39 = .ok (.getfield 21, 3) := by decide +kernel
theorem dX0_add_42 : decode cX0_add 42 = .ok (.iconst 1, 1) := by decide +kernel
theorem dX0_add_43 : decode cX0_add 43 = .ok (.iadd, 1) := by decide +kernel
theorem dX0_add_44 : decode cX0_add 44 = .ok (.putfield 21, 3) := by decide +kernel
theorem dX0_add_47 : decode cX0_add 47 = .ok (.return_, 1) := by decide +kernel
theorem dX1_init_0 : decode cX1_init 0 = .ok (.aload_n 0, 1) := by decide +kernel
theorem dX1_init_1 : decode cX1_init 1 = .ok (.invokespecial 3, 3) := by decide +kernel
theorem dX1_init_4 : decode cX1_init 4 = .ok (.aload_n 0, 1) := by decide +kernel
theorem dX1_init_5 : decode cX1_init 5 = .ok (.bipush 60, 2) := by decide +kernel
theorem dX1_init_7 : decode cX1_init 7 = .ok (.newarray .int, 2) := by decide +kernel
theorem dX1_init_9 : decode cX1_init 9 = .ok (.putfield 9, 3) := by decide +kernel
theorem dX1_init_12 : decode cX1_init 12 = .ok (.aload_n 0, 1) := by decide +kernel
theorem dX1_init_13 : decode cX1_init 13 = .ok (.bipush 60, 2) := by decide +kernel
theorem dX1_init_15 : decode cX1_init 15 = .ok (.newarray .int, 2) := by decide +kernel
theorem dX1_init_17 : decode cX1_init 17 = .ok (.putfield 15, 3) := by decide +kernel
theorem dX1_init_20 : decode cX1_init 20 = .ok (.aload_n 0, 1) := by decide +kernel
theorem dX1_init_21 : decode cX1_init 21 = .ok (.bipush 60, 2) := by decide +kernel
theorem dX1_init_23 : decode cX1_init 23 = .ok (.newarray .int, 2) := by decide +kernel
theorem dX1_init_25 : decode cX1_init 25 = .ok (.putfield 18, 3) := by decide +kernel
theorem dX1_init_28 : decode cX1_init 28 = .ok (.aload_n 0, 1) := by decide +kernel
theorem dX1_init_29 : decode cX1_init 29 = .ok (.bipush 60, 2) := by decide +kernel
theorem dX1_init_31 : decode cX1_init 31 = .ok (.newarray .int, 2) := by decide +kernel
theorem dX1_init_33 : decode cX1_init 33 = .ok (.putfield 21, 3) := by decide +kernel
theorem dX1_init_36 : decode cX1_init 36 = .ok (.aload_n 0, 1) := by decide +kernel
theorem dX1_init_37 : decode cX1_init 37 = .ok (.bipush 60, 2) := by decide +kernel
theorem dX1_init_39 : decode cX1_init 39 = .ok (.newarray .int, 2) := by decide +kernel
theorem dX1_init_41 : decode cX1_init 41 = .ok (.putfield 24, 3) := by decide +kernel
theorem dX1_init_44 : decode cX1_init 44 = .ok (.aload_n 0, 1) := by decide +kernel
theorem dX1_init_45 : decode cX1_init 45 = .ok (.bipush 60, 2) := by decide +kernel
theorem dX1_init_47 : decode cX1_init 47 = .ok (.newarray .int, 2) := by decide +kernel
theorem dX1_init_49 : decode cX1_init 49 = .ok (.putfield 27, 3) := by decide +kernel
theorem dX1_init_52 : decode cX1_init 52 = .ok (.aload_n 0, 1) := by decide +kernel
theorem dX1_init_53 : decode cX1_init 53 = .ok (.bipush 60, 2) := by decide +kernel
theorem dX1_init_55 : decode cX1_init 55 = .ok (.newarray .int, 2) := by decide +kernel
theorem dX1_init_57 : decode cX1_init 57 = .ok (.putfield 30, 3) := by decide +kernel
theorem dX1_init_60 : decode cX1_init 60 = .ok (.aload_n 0, 1) := by decide +kernel
theorem dX1_init_61 : decode cX1_init 61 = .ok (.bipush 60, 2) := by decide +kernel
theorem dX1_init_63 : decode cX1_init 63 = .ok (.newarray .int, 2) := by decide +kernel
theorem dX1_init_65 : decode cX1_init 65 = .ok (.putfield 33, 3) := by decide +kernel
theorem dX1_init_68 : decode cX1_init 68 = .ok (.aload_n 0, 1) := by decide +kernel
theorem dX1_init_69 : decode cX1_init 69 = .ok (.bipush 60, 2) := by decide +kernel
theorem dX1_init_71 : decode cX1_init 71 = .ok (.newarray .int, 2) := by decide +kernel
theorem dX1_init_73 : decode cX1_init 73 = .ok (.putfield 36, 3) := by decide +kernel
theorem dX1_init_76 : decode cX1_init 76 = .ok (.aload_n 0, 1) := by decide +kernel
theorem dX1_init_77 : decode cX1_init 77 = .ok (.bipush 60, 2) := by decide +kernel
theorem dX1_init_79 : decode cX1_init 79 = .ok (.newarray .boolean, 2) := by decide +kernel
theorem dX1_init_81 : decode cX1_init 81 = .ok (.putfield 39, 3) := by decide +kernel
theorem dX1_init_84 : decode cX1_init 84 = .ok (.aload_n 0, 1) := by decide +kernel
theorem dX1_init_85 : decode cX1_init 85 = .ok (.bipush 60, 2) := by decide +kernel
theorem dX1_init_87 : decode cX1_init 87 = .ok (.newarray .int, 2) := by decide +kernel
theorem dX1_init_89 : decode cX1_init 89 = .ok (.putfield 43, 3) := by decide +kernel
theorem dX1_init_92 : decode cX1_init 92 = .ok (.return_, 1) := by decide +kernel
theorem dX1_isFull_0 : decode cX1_isFull 0 = .ok (.aload_n 0, 1) := by decide +kernel
theorem dX1_isFull_1 : decode cX1_isFull 1 = .ok (.getfield 46, 3) := by decide +kernel
theorem dX1_isFull_4 : decode cX1_isFull 4 = .ok (.bipush 60, 2) := by decide +kernel
theorem dX1_isFull_6 : decode cX1_isFull 6 = .ok (.if_icmp .lt 7, 3) := by decide +kernel
theorem dX1_isFull_9 : decode cX1_isFull 9 = .ok (.iconst 1, 1) := by decide +kernel
theorem dX1_isFull_10 : decode cX1_isFull 10 = .ok (.goto 4, 3) := by decide +kernel
theorem dX1_isFull_13 : decode cX1_isFull 13 = .ok (.iconst 0, 1) := by decide +kernel
theorem dX1_isFull_14 : decode cX1_isFull 14 = .ok (.ireturn, 1) := by decide +kernel
theorem dX1_has_0 : decode cX1_has 0 = .ok (.iload_n 1, 1) := by decide +kernel
theorem dX1_has_1 : decode cX1_has 1 = .ok (.ifCond .lt 15, 3) := by decide +kernel
theorem dX1_has_4 : decode cX1_has 4 = .ok (.iload_n 1, 1) := by decide +kernel
theorem dX1_has_5 : decode cX1_has 5 = .ok (.aload_n 0, 1) := by decide +kernel
theorem dX1_has_6 : decode cX1_has 6 = .ok (.getfield 46, 3) := by decide +kernel
theorem dX1_has_9 : decode cX1_has 9 = .ok (.if_icmp .ge 7, 3) := by decide +kernel
theorem dX1_has_12 : decode cX1_has 12 = .ok (.iconst 1, 1) := by decide +kernel
theorem dX1_has_13 : decode cX1_has 13 = .ok (.goto 4, 3) := by decide +kernel
theorem dX1_has_16 : decode cX1_has 16 = .ok (.iconst 0, 1) := by decide +kernel
theorem dX1_has_17 : decode cX1_has 17 = .ok (.ireturn, 1) := by decide +kernel
theorem dX1_add_0 : decode cX1_add 0 = .ok (.aload_n 0, 1) := by decide +kernel
theorem dX1_add_1 : decode cX1_add 1 = .ok (.invokevirtual 50, 3) := by decide +kernel
theorem dX1_add_4 : decode cX1_add 4 = .ok (.ifCond .eq 5, 3) := by decide +kernel
theorem dX1_add_7 : decode cX1_add 7 = .ok (.iconst (-1), 1) := by decide +kernel
theorem dX1_add_8 : decode cX1_add 8 = .ok (.ireturn, 1) := by decide +kernel
theorem dX1_add_9 : decode cX1_add 9 = .ok (.aload_n 0, 1) := by decide +kernel
theorem dX1_add_10 : decode cX1_add 10 = .ok (.getfield 9, 3) := by decide +kernel
theorem dX1_add_13 : decode cX1_add 13 = .ok (.aload_n 0, 1) := by decide +kernel
theorem dX1_add_14 : decode cX1_add 14 = .ok (.getfield 46, 3) := by decide +kernel
theorem dX1_add_17 : decode cX1_add 17 = .ok (.iload_n 1, 1) := by decide +kernel
theorem dX1_add_18 : decode cX1_add 18 = .ok (.iastore, 1) := by decide +kernel
theorem dX1_add_19 : decode cX1_add 19 = .ok (.aload_n 0, 1) := by decide +kernel
theorem dX1_add_20 : decode cX1_add 20 = .ok (.getfield 15, 3) := by decide +kernel
theorem dX1_add_23 : decode cX1_add 23 = .ok (.aload_n 0, 1) := by decide +kernel
theorem dX1_add_24 : decode cX1_add 24 = .ok (.getfield 46, 3) := by decide +kernel
theorem dX1_add_27 : decode cX1_add 27 = .ok (.iload_n 2, 1) := by decide +kernel
theorem dX1_add_28 : decode cX1_add 28 = .ok (.iastore, 1) := by decide +kernel
theorem dX1_add_29 : decode cX1_add 29 = .ok (.aload_n 0, 1) := by decide +kernel
theorem dX1_add_30 : decode cX1_add 30 = .ok (.getfield 18, 3) := by decide +kernel
theorem dX1_add_33 : decode cX1_add 33 = .ok (.aload_n 0, 1) := by decide +kernel
theorem dX1_add_34 : decode cX1_add 34 = .ok (.getfield 46, 3) := by decide +kernel
theorem dX1_add_37 : decode cX1_add 37 = .ok (.iload_n 3, 1) := by decide +kernel
theorem dX1_add_38 : decode cX1_add 38 = .ok (.iastore, 1) := by decide +kernel
theorem dX1_add_39 : decode cX1_add 39 = .ok (.aload_n 0, 1) := by decide +kernel
theorem dX1_add_40 : decode cX1_add 40 = .ok (.getfield 21, 3) := by decide +kernel
theorem dX1_add_43 : decode cX1_add 43 = .ok (.aload_n 0, 1) := by decide +kernel
theorem dX1_add_44 : decode cX1_add 44 = .ok (.getfield 46, 3) := by decide +kernel
theorem dX1_add_47 : decode cX1_add 47 = .ok (.iload 4, 2) := by decide +kernel
theorem dX1_add_49 : decode cX1_add 49 = .ok (.iastore, 1) := by decide +kernel
theorem dX1_add_50 : decode cX1_add 50 = .ok (.aload_n 0, 1) := by decide +kernel
theorem dX1_add_51 : decode cX1_add 51 = .ok (.dup, 1) := by decide +kernel
theorem dX1_add_52 : decode cX1_add 52 = .ok (.getfield 46, 3) := by decide +kernel
theorem dX1_add_55 : decode cX1_add 55 = .ok (.iconst 1, 1) := by decide +kernel
theorem dX1_add_56 : decode cX1_add 56 = .ok (.iadd, 1) := by decide +kernel
theorem dX1_add_57 : decode cX1_add 57 = .ok (.putfield 46, 3) := by decide +kernel
theorem dX1_add_60 : decode cX1_add 60 = .ok (.aload_n 0, 1) := by decide +kernel
theorem dX1_add_61 : decode cX1_add 61 = .ok (.getfield 46, 3) := by decide +kernel
theorem dX1_add_64 : decode cX1_add 64 = .ok (.iconst 1, 1) := by decide +kernel
theorem dX1_add_65 : decode cX1_add 65 = .ok (.isub, 1) := by decide +kernel
theorem dX1_add_66 : decode cX1_add 66 = .ok (.ireturn, 1) := by decide +kernel
theorem dX1_hookTo_0 : decode cX1_hookTo 0 = .ok (.aload_n 0, 1) := by decide +kernel
theorem dX1_hookTo_1 : decode cX1_hookTo 1 = .ok (.iload_n 1, 1) := by decide +kernel
theorem dX1_hookTo_2 : decode cX1_hookTo 2 = .ok (.invokevirtual 54, 3) := by decide +kernel
theorem dX1_hookTo_5 : decode cX1_hookTo 5 = .ok (.ifCond .eq 39, 3) := by decide +kernel
theorem dX1_hookTo_8 : decode cX1_hookTo 8 = .ok (.aload_n 0, 1) := by decide +kernel
theorem dX1_hookTo_9 : decode cX1_hookTo 9 = .ok (.getfield 24, 3) := by decide +kernel
theorem dX1_hookTo_12 : decode cX1_hookTo 12 = .ok (.iload_n 1, 1) := by decide +kernel
theorem dX1_hookTo_13 : decode cX1_hookTo 13 = .ok (.iconst (-1), 1) := by decide +kernel
theorem dX1_hookTo_14 : decode cX1_hookTo 14 = .ok (.iastore, 1) := by decide +kernel
theorem dX1_hookTo_15 : decode cX1_hookTo 15 = .ok (.aload_n 0, 1) := by decide +kernel
theorem dX1_hookTo_16 : decode cX1_hookTo 16 = .ok (.getfield 27, 3) := by decide +kernel
theorem dX1_hookTo_19 : decode cX1_hookTo 19 = .ok (.iload_n 1, 1) := by decide +kernel
theorem dX1_hookTo_20 : decode cX1_hookTo 20 = .ok (.iload_n 1, 1) := by decide +kernel
theorem dX1_hookTo_21 : decode cX1_hookTo 21 = .ok (.iastore, 1) := by decide +kernel
theorem dX1_hookTo_22 : decode cX1_hookTo 22 = .ok (.aload_n 0, 1) := by decide +kernel
theorem dX1_hookTo_23 : decode cX1_hookTo 23 = .ok (.getfield 30, 3) := by decide +kernel
theorem dX1_hookTo_26 : decode cX1_hookTo 26 = .ok (.iload_n 1, 1) := by decide +kernel
theorem dX1_hookTo_27 : decode cX1_hookTo 27 = .ok (.iload_n 2, 1) := by decide +kernel
theorem dX1_hookTo_28 : decode cX1_hookTo 28 = .ok (.iastore, 1) := by decide +kernel
theorem dX1_hookTo_29 : decode cX1_hookTo 29 = .ok (.aload_n 0, 1) := by decide +kernel
theorem dX1_hookTo_30 : decode cX1_hookTo 30 = .ok (.getfield 33, 3) := by decide +kernel
theorem dX1_hookTo_33 : decode cX1_hookTo 33 = .ok (.iload_n 1, 1) := by decide +kernel
theorem dX1_hookTo_34 : decode cX1_hookTo 34 = .ok (.iload_n 3, 1) := by decide +kernel
theorem dX1_hookTo_35 : decode cX1_hookTo 35 = .ok (.iastore, 1) := by decide +kernel
theorem dX1_hookTo_36 : decode cX1_hookTo 36 = .ok (.aload_n 0, 1) := by decide +kernel
theorem dX1_hookTo_37 : decode cX1_hookTo 37 = .ok (.getfield 36, 3) := by decide +kernel
theorem dX1_hookTo_40 : decode cX1_hookTo 40 = .ok (.iload_n 1, 1) := by decide +kernel
theorem dX1_hookTo_41 : decode cX1_hookTo 41 = .ok (.iload 4, 2) := by decide +kernel
theorem dX1_hookTo_43 : decode cX1_hookTo 43 = .ok (.iastore, 1) := by decide +kernel
theorem dX1_hookTo_44 : decode cX1_hookTo 44 = .ok (.return_, 1) := by decide +kernel
theorem dX1_authorOf_0 : decode cX1_authorOf 0 = .ok (.aload_n 0, 1) := by decide +kernel
theorem dX1_authorOf_1 : decode cX1_authorOf 1 = .ok (.getfield 9, 3) := by decide +kernel
theorem dX1_authorOf_4 : decode cX1_authorOf 4 = .ok (.iload_n 1, 1) := by decide +kernel
theorem dX1_authorOf_5 : decode cX1_authorOf 5 = .ok (.invokestatic 58, 3) := by decide +kernel
theorem dX1_authorOf_8 : decode cX1_authorOf 8 = .ok (.ireturn, 1) := by decide +kernel
theorem dX1_kindOf_0 : decode cX1_kindOf 0 = .ok (.aload_n 0, 1) := by decide +kernel
theorem dX1_kindOf_1 : decode cX1_kindOf 1 = .ok (.getfield 15, 3) := by decide +kernel
theorem dX1_kindOf_4 : decode cX1_kindOf 4 = .ok (.iload_n 1, 1) := by decide +kernel
theorem dX1_kindOf_5 : decode cX1_kindOf 5 = .ok (.invokestatic 58, 3) := by decide +kernel
theorem dX1_kindOf_8 : decode cX1_kindOf 8 = .ok (.ireturn, 1) := by decide +kernel
theorem dX1_parentOf_0 : decode cX1_parentOf 0 = .ok (.aload_n 0, 1) := by decide +kernel
theorem dX1_parentOf_1 : decode cX1_parentOf 1 = .ok (.getfield 24, 3) := by decide +kernel
theorem dX1_parentOf_4 : decode cX1_parentOf 4 = .ok (.iload_n 1, 1) := by decide +kernel
theorem dX1_parentOf_5 : decode cX1_parentOf 5 = .ok (.invokestatic 58, 3) := by decide +kernel
theorem dX1_parentOf_8 : decode cX1_parentOf 8 = .ok (.ireturn, 1) := by decide +kernel
theorem dX1_unitOf_0 : decode cX1_unitOf 0 = .ok (.aload_n 0, 1) := by decide +kernel
theorem dX1_unitOf_1 : decode cX1_unitOf 1 = .ok (.getfield 30, 3) := by decide +kernel
theorem dX1_unitOf_4 : decode cX1_unitOf 4 = .ok (.aload_n 0, 1) := by decide +kernel
theorem dX1_unitOf_5 : decode cX1_unitOf 5 = .ok (.getfield 27, 3) := by decide +kernel
theorem dX1_unitOf_8 : decode cX1_unitOf 8 = .ok (.iload_n 1, 1) := by decide +kernel
theorem dX1_unitOf_9 : decode cX1_unitOf 9 = .ok (.invokestatic 58, 3) := by decide +kernel
theorem dX1_unitOf_12 : decode cX1_unitOf 12 = .ok (.invokestatic 58, 3) := by decide +kernel
theorem dX1_unitOf_15 : decode cX1_unitOf 15 = .ok (.ireturn, 1) := by decide +kernel
theorem dX1_placeOf_0 : decode cX1_placeOf 0 = .ok (.aload_n 0, 1) := by decide +kernel
theorem dX1_placeOf_1 : decode cX1_placeOf 1 = .ok (.getfield 33, 3) := by decide +kernel
theorem dX1_placeOf_4 : decode cX1_placeOf 4 = .ok (.aload_n 0, 1) := by decide +kernel
theorem dX1_placeOf_5 : decode cX1_placeOf 5 = .ok (.getfield 27, 3) := by decide +kernel
theorem dX1_placeOf_8 : decode cX1_placeOf 8 = .ok (.iload_n 1, 1) := by decide +kernel
theorem dX1_placeOf_9 : decode cX1_placeOf 9 = .ok (.invokestatic 58, 3) := by decide +kernel
theorem dX1_placeOf_12 : decode cX1_placeOf 12 = .ok (.invokestatic 58, 3) := by decide +kernel
theorem dX1_placeOf_15 : decode cX1_placeOf 15 = .ok (.ireturn, 1) := by decide +kernel
theorem dX1_isLost_0 : decode cX1_isLost 0 = .ok (.aload_n 0, 1) := by decide +kernel
theorem dX1_isLost_1 : decode cX1_isLost 1 = .ok (.getfield 27, 3) := by decide +kernel
theorem dX1_isLost_4 : decode cX1_isLost 4 = .ok (.iload_n 1, 1) := by decide +kernel
theorem dX1_isLost_5 : decode cX1_isLost 5 = .ok (.invokestatic 58, 3) := by decide +kernel
theorem dX1_isLost_8 : decode cX1_isLost 8 = .ok (.istore_n 2, 1) := by decide +kernel
theorem dX1_isLost_9 : decode cX1_isLost 9 = .ok (.aload_n 0, 1) := by decide +kernel
theorem dX1_isLost_10 : decode cX1_isLost 10 = .ok (.iload_n 2, 1) := by decide +kernel
theorem dX1_isLost_11 : decode cX1_isLost 11 = .ok (.invokevirtual 54, 3) := by decide +kernel
theorem dX1_isLost_14 : decode cX1_isLost 14 = .ok (.ifCond .eq 16, 3) := by decide +kernel
theorem dX1_isLost_17 : decode cX1_isLost 17 = .ok (.aload_n 0, 1) := by decide +kernel
theorem dX1_isLost_18 : decode cX1_isLost 18 = .ok (.getfield 39, 3) := by decide +kernel
theorem dX1_isLost_21 : decode cX1_isLost 21 = .ok (.iload_n 2, 1) := by decide +kernel
theorem dX1_isLost_22 : decode cX1_isLost 22 = .ok (.baload, 1) := by decide +kernel
theorem dX1_isLost_23 : decode cX1_isLost 23 = .ok (.ifCond .eq 7, 3) := by decide +kernel
theorem dX1_isLost_26 : decode cX1_isLost 26 = .ok (.iconst 1, 1) := by decide +kernel
theorem dX1_isLost_27 : decode cX1_isLost 27 = .ok (.goto 4, 3) := by decide +kernel
theorem dX1_isLost_30 : decode cX1_isLost 30 = .ok (.iconst 0, 1) := by decide +kernel
theorem dX1_isLost_31 : decode cX1_isLost 31 = .ok (.ireturn, 1) := by decide +kernel
theorem dX1_isHook_0 : decode cX1_isHook 0 = .ok (.aload_n 0, 1) := by decide +kernel
theorem dX1_isHook_1 : decode cX1_isHook 1 = .ok (.iload_n 1, 1) := by decide +kernel
theorem dX1_isHook_2 : decode cX1_isHook 2 = .ok (.invokevirtual 54, 3) := by decide +kernel
theorem dX1_isHook_5 : decode cX1_isHook 5 = .ok (.ifCond .eq 27, 3) := by decide +kernel
theorem dX1_isHook_8 : decode cX1_isHook 8 = .ok (.aload_n 0, 1) := by decide +kernel
theorem dX1_isHook_9 : decode cX1_isHook 9 = .ok (.getfield 24, 3) := by decide +kernel
theorem dX1_isHook_12 : decode cX1_isHook 12 = .ok (.iload_n 1, 1) := by decide +kernel
theorem dX1_isHook_13 : decode cX1_isHook 13 = .ok (.iaload, 1) := by decide +kernel
theorem dX1_isHook_14 : decode cX1_isHook 14 = .ok (.iconst (-1), 1) := by decide +kernel
theorem dX1_isHook_15 : decode cX1_isHook 15 = .ok (.if_icmp .ne 17, 3) := by decide +kernel
theorem dX1_isHook_18 : decode cX1_isHook 18 = .ok (.aload_n 0, 1) := by decide +kernel
theorem dX1_isHook_19 : decode cX1_isHook 19 = .ok (.getfield 30, 3) := by decide +kernel
theorem dX1_isHook_22 : decode cX1_isHook 22 = .ok (.iload_n 1, 1) := by decide +kernel
theorem dX1_isHook_23 : decode cX1_isHook 23 = .ok (.iaload, 1) := by decide +kernel
theorem dX1_isHook_24 : decode cX1_isHook 24 = .ok (.iload_n 2, 1) := by decide +kernel
theorem dX1_isHook_25 : decode cX1_isHook 25 = .ok (.if_icmp .ne 7, 3) := by decide +kernel
theorem dX1_isHook_28 : decode cX1_isHook 28 = .ok (.iconst 1, 1) := by decide +kernel
theorem dX1_isHook_29 : decode cX1_isHook 29 = .ok (.goto 4, 3) := by decide +kernel
theorem dX1_isHook_32 : decode cX1_isHook 32 = .ok (.iconst 0, 1) := by decide +kernel
theorem dX1_isHook_33 : decode cX1_isHook 33 = .ok (.ireturn, 1) := by decide +kernel
theorem dX1_closeGap_0 : decode cX1_closeGap 0 = .ok (.iconst 0, 1) := by decide +kernel
theorem dX1_closeGap_1 : decode cX1_closeGap 1 = .ok (.istore 4, 2) := by decide +kernel
theorem dX1_closeGap_3 : decode cX1_closeGap 3 = .ok (.iload 4, 2) := by decide +kernel
theorem dX1_closeGap_5 : decode cX1_closeGap 5 = .ok (.aload_n 0, 1) := by decide +kernel
theorem dX1_closeGap_6 : decode cX1_closeGap 6 = .ok (.getfield 46, 3) := by decide +kernel
theorem dX1_closeGap_9 : decode cX1_closeGap 9 = .ok (.if_icmp .ge 54, 3) := by decide +kernel
theorem dX1_closeGap_12 : decode cX1_closeGap 12 = .ok (.aload_n 0, 1) := by decide +kernel
theorem dX1_closeGap_13 : decode cX1_closeGap 13 = .ok (.iload 4, 2) := by decide +kernel
theorem dX1_closeGap_15 : decode cX1_closeGap 15 = .ok (.iload_n 1, 1) := by decide +kernel
theorem dX1_closeGap_16 : decode cX1_closeGap 16 = .ok (.invokevirtual 62, 3) := by decide +kernel
theorem dX1_closeGap_19 : decode cX1_closeGap 19 = .ok (.ifCond .eq 38, 3) := by decide +kernel
theorem dX1_closeGap_22 : decode cX1_closeGap 22 = .ok (.aload_n 0, 1) := by decide +kernel
theorem dX1_closeGap_23 : decode cX1_closeGap 23 = .ok (.getfield 33, 3) := by decide +kernel
theorem dX1_closeGap_26 : decode cX1_closeGap 26 = .ok (.iload 4, 2) := by decide +kernel
theorem dX1_closeGap_28 : decode cX1_closeGap 28 = .ok (.iaload, 1) := by decide +kernel
theorem dX1_closeGap_29 : decode cX1_closeGap 29 = .ok (.istore 5, 2) := by decide +kernel
theorem dX1_closeGap_31 : decode cX1_closeGap 31 = .ok (.aload_n 0, 1) := by decide +kernel
theorem dX1_closeGap_32 : decode cX1_closeGap 32 = .ok (.getfield 33, 3) := by decide +kernel
theorem dX1_closeGap_35 : decode cX1_closeGap 35 = .ok (.iload 4, 2) := by decide +kernel
theorem dX1_closeGap_37 : decode cX1_closeGap 37 = .ok (.iload 5, 2) := by decide +kernel
theorem dX1_closeGap_39 : decode cX1_closeGap 39 = .ok (.iload_n 2, 1) := by decide +kernel
theorem dX1_closeGap_40 : decode cX1_closeGap 40 = .ok (.if_icmp .le 10, 3) := by decide +kernel
theorem dX1_closeGap_43 : decode cX1_closeGap 43 = .ok (.iload 5, 2) := by decide +kernel
theorem dX1_closeGap_45 : decode cX1_closeGap 45 = .ok (.iconst 1, 1) := by decide +kernel
theorem dX1_closeGap_46 : decode cX1_closeGap 46 = .ok (.isub, 1) := by decide +kernel
theorem dX1_closeGap_47 : decode cX1_closeGap 47 = .ok (.goto 5, 3) := by decide +kernel
theorem dX1_closeGap_50 : decode cX1_closeGap 50 = .ok (.iload 5, 2) := by decide +kernel
theorem dX1_closeGap_52 : decode cX1_closeGap 52 = .ok (.iload_n 3, 1) := by decide +kernel
theorem dX1_closeGap_53 : decode cX1_closeGap 53 = .ok (.invokestatic 66, 3) := by decide +kernel
theorem dX1_closeGap_56 : decode cX1_closeGap 56 = .ok (.iastore, 1) := by decide +kernel
theorem dX1_closeGap_57 : decode cX1_closeGap 57 = .ok (.iinc 4 1, 3) := by decide +kernel
theorem dX1_closeGap_60 : decode cX1_closeGap 60 = .ok (.goto (-57), 3) := by decide +kernel
theorem dX1_closeGap_63 : decode cX1_closeGap 63 = .ok (.return_, 1) := by decide +kernel
theorem dX1_hookAnew_0 : decode cX1_hookAnew 0 = .ok (.iconst 0, 1) := by decide +kernel
theorem dX1_hookAnew_1 : decode cX1_hookAnew 1 = .ok (.istore_n 3, 1) := by decide +kernel
theorem dX1_hookAnew_2 : decode cX1_hookAnew 2 = .ok (.iconst 0, 1) := by decide +kernel
theorem dX1_hookAnew_3 : decode cX1_hookAnew 3 = .ok (.istore 4, 2) := by decide +kernel
theorem dX1_hookAnew_5 : decode cX1_hookAnew 5 = .ok (.iload 4, 2) := by decide +kernel
theorem dX1_hookAnew_7 : decode cX1_hookAnew 7 = .ok (.aload_n 0, 1) := by decide +kernel
theorem dX1_hookAnew_8 : decode cX1_hookAnew 8 = .ok (.getfield 46, 3) := by decide +kernel
theorem dX1_hookAnew_11 : decode cX1_hookAnew 11 = .ok (.if_icmp .ge 91, 3) := by decide +kernel
theorem dX1_hookAnew_14 : decode cX1_hookAnew 14 = .ok (.aload_n 0, 1) := by decide +kernel
theorem dX1_hookAnew_15 : decode cX1_hookAnew 15 = .ok (.iload 4, 2) := by decide +kernel
theorem dX1_hookAnew_17 : decode cX1_hookAnew 17 = .ok (.iload_n 1, 1) := by decide +kernel
theorem dX1_hookAnew_18 : decode cX1_hookAnew 18 = .ok (.invokevirtual 62, 3) := by decide +kernel
theorem dX1_hookAnew_21 : decode cX1_hookAnew 21 = .ok (.ifCond .eq 75, 3) := by decide +kernel
theorem dX1_hookAnew_24 : decode cX1_hookAnew 24 = .ok (.aload_n 2, 1) := by decide +kernel
theorem dX1_hookAnew_25 : decode cX1_hookAnew 25 = .ok (.iload_n 1, 1) := by decide +kernel
theorem dX1_hookAnew_26 : decode cX1_hookAnew 26 = .ok (.aload_n 0, 1) := by decide +kernel
theorem dX1_hookAnew_27 : decode cX1_hookAnew 27 = .ok (.getfield 36, 3) := by decide +kernel
theorem dX1_hookAnew_30 : decode cX1_hookAnew 30 = .ok (.iload 4, 2) := by decide +kernel
theorem dX1_hookAnew_32 : decode cX1_hookAnew 32 = .ok (.iaload, 1) := by decide +kernel
theorem dX1_hookAnew_33 : decode cX1_hookAnew 33 = .ok (.aload_n 0, 1) := by decide +kernel
theorem dX1_hookAnew_34 : decode cX1_hookAnew 34 = .ok (.getfield 33, 3) := by decide +kernel
theorem dX1_hookAnew_37 : decode cX1_hookAnew 37 = .ok (.iload 4, 2) := by decide +kernel
theorem dX1_hookAnew_39 : decode cX1_hookAnew 39 = .ok (.iaload, 1) := by decide +kernel
theorem dX1_hookAnew_40 : decode cX1_hookAnew 40 = .ok (.invokevirtual 72, 3) := by decide +kernel
theorem dX1_hookAnew_43 : decode cX1_hookAnew 43 = .ok (.istore 5, 2) := by decide +kernel
theorem dX1_hookAnew_45 : decode cX1_hookAnew 45 = .ok (.iload 5, 2) := by decide +kernel
theorem dX1_hookAnew_47 : decode cX1_hookAnew 47 = .ok (.iconst (-1), 1) := by decide +kernel
theorem dX1_hookAnew_48 : decode cX1_hookAnew 48 = .ok (.if_icmp .ne 7, 3) := by decide +kernel
theorem dX1_hookAnew_51 : decode cX1_hookAnew 51 = .ok (.iconst 1, 1) := by decide +kernel
theorem dX1_hookAnew_52 : decode cX1_hookAnew 52 = .ok (.goto 4, 3) := by decide +kernel
theorem dX1_hookAnew_55 : decode cX1_hookAnew 55 = .ok (.iconst 0, 1) := by decide +kernel
theorem dX1_hookAnew_56 : decode cX1_hookAnew 56 = .ok (.istore 6, 2) := by decide +kernel
theorem dX1_hookAnew_58 : decode cX1_hookAnew 58 = .ok (.iload 6, 2) := by decide +kernel
theorem dX1_hookAnew_60 : decode cX1_hookAnew 60 = .ok (.ifCond .ne 12, 3) := by decide +kernel
theorem dX1_hookAnew_63 : decode cX1_hookAnew 63 = .ok (.aload_n 0, 1) := by decide +kernel
theorem dX1_hookAnew_64 : decode cX1_hookAnew 64 = .ok (.getfield 33, 3) := by decide +kernel
theorem dX1_hookAnew_67 : decode cX1_hookAnew 67 = .ok (.iload 4, 2) := by decide +kernel
theorem dX1_hookAnew_69 : decode cX1_hookAnew 69 = .ok (.iload 5, 2) := by decide +kernel
theorem dX1_hookAnew_71 : decode cX1_hookAnew 71 = .ok (.iastore, 1) := by decide +kernel
theorem dX1_hookAnew_72 : decode cX1_hookAnew 72 = .ok (.iload 6, 2) := by decide +kernel
theorem dX1_hookAnew_74 : decode cX1_hookAnew 74 = .ok (.aload_n 0, 1) := by decide +kernel
theorem dX1_hookAnew_75 : decode cX1_hookAnew 75 = .ok (.getfield 39, 3) := by decide +kernel
theorem dX1_hookAnew_78 : decode cX1_hookAnew 78 = .ok (.iload 4, 2) := by decide +kernel
theorem dX1_hookAnew_80 : decode cX1_hookAnew 80 = .ok (.baload, 1) := by decide +kernel
theorem dX1_hookAnew_81 : decode cX1_hookAnew 81 = .ok (.if_icmp .eq 15, 3) := by decide +kernel
theorem dX1_hookAnew_84 : decode cX1_hookAnew 84 = .ok (.aload_n 0, 1) := by decide +kernel
theorem dX1_hookAnew_85 : decode cX1_hookAnew 85 = .ok (.getfield 39, 3) := by decide +kernel
theorem dX1_hookAnew_88 : decode cX1_hookAnew 88 = .ok (.iload 4, 2) := by decide +kernel
theorem dX1_hookAnew_90 : decode cX1_hookAnew 90 = .ok (.iload 6, 2) := by decide +kernel
theorem dX1_hookAnew_92 : decode cX1_hookAnew 92 = .ok (.bastore, 1) := by decide +kernel
theorem dX1_hookAnew_93 : decode cX1_hookAnew 93 = .ok (.iinc 3 1, 3) := by decide +kernel
theorem dX1_hookAnew_96 : decode cX1_hookAnew 96 = .ok (.iinc 4 1, 3) := by decide +kernel
theorem dX1_hookAnew_99 : decode cX1_hookAnew 99 = .ok (.goto (-94), 3) := by decide +kernel
theorem dX1_hookAnew_102 : decode cX1_hookAnew 102 = .ok (.iload_n 3, 1) := by decide +kernel
theorem dX1_hookAnew_103 : decode cX1_hookAnew 103 = .ok (.ireturn, 1) := by decide +kernel
theorem dX1_stands_0 : decode cX1_stands 0 = .ok (.aload_n 0, 1) := by decide +kernel
theorem dX1_stands_1 : decode cX1_stands 1 = .ok (.invokevirtual 78, 3) := by decide +kernel
theorem dX1_stands_4 : decode cX1_stands 4 = .ok (.aload_n 0, 1) := by decide +kernel
theorem dX1_stands_5 : decode cX1_stands 5 = .ok (.iload_n 1, 1) := by decide +kernel
theorem dX1_stands_6 : decode cX1_stands 6 = .ok (.invokevirtual 81, 3) := by decide +kernel
theorem dX1_stands_9 : decode cX1_stands 9 = .ok (.ireturn, 1) := by decide +kernel
theorem dX1_weigh_0 : decode cX1_weigh 0 = .ok (.aload_n 0, 1) := by decide +kernel
theorem dX1_weigh_1 : decode cX1_weigh 1 = .ok (.getfield 43, 3) := by decide +kernel
theorem dX1_weigh_4 : decode cX1_weigh 4 = .ok (.iconst 0, 1) := by decide +kernel
theorem dX1_weigh_5 : decode cX1_weigh 5 = .ok (.invokestatic 84, 3) := by decide +kernel
theorem dX1_weigh_8 : decode cX1_weigh 8 = .ok (.aload_n 0, 1) := by decide +kernel
theorem dX1_weigh_9 : decode cX1_weigh 9 = .ok (.getfield 46, 3) := by decide +kernel
theorem dX1_weigh_12 : decode cX1_weigh 12 = .ok (.iconst 1, 1) := by decide +kernel
theorem dX1_weigh_13 : decode cX1_weigh 13 = .ok (.isub, 1) := by decide +kernel
theorem dX1_weigh_14 : decode cX1_weigh 14 = .ok (.istore_n 1, 1) := by decide +kernel
theorem dX1_weigh_15 : decode cX1_weigh 15 = .ok (.iload_n 1, 1) := by decide +kernel
theorem dX1_weigh_16 : decode cX1_weigh 16 = .ok (.ifCond .lt 50, 3) := by decide +kernel
theorem dX1_weigh_19 : decode cX1_weigh 19 = .ok (.aload_n 0, 1) := by decide +kernel
theorem dX1_weigh_20 : decode cX1_weigh 20 = .ok (.getfield 24, 3) := by decide +kernel
theorem dX1_weigh_23 : decode cX1_weigh 23 = .ok (.iload_n 1, 1) := by decide +kernel
theorem dX1_weigh_24 : decode cX1_weigh 24 = .ok (.iaload, 1) := by decide +kernel
theorem dX1_weigh_25 : decode cX1_weigh 25 = .ok (.istore_n 2, 1) := by decide +kernel
theorem dX1_weigh_26 : decode cX1_weigh 26 = .ok (.aload_n 0, 1) := by decide +kernel
theorem dX1_weigh_27 : decode cX1_weigh 27 = .ok (.iload_n 2, 1) := by decide +kernel
theorem dX1_weigh_28 : decode cX1_weigh 28 = .ok (.invokevirtual 54, 3) := by decide +kernel
theorem dX1_weigh_31 : decode cX1_weigh 31 = .ok (.ifCond .eq 29, 3) := by decide +kernel
theorem dX1_weigh_34 : decode cX1_weigh 34 = .ok (.aload_n 0, 1) := by decide +kernel
theorem dX1_weigh_35 : decode cX1_weigh 35 = .ok (.iload_n 1, 1) := by decide +kernel
theorem dX1_weigh_36 : decode cX1_weigh 36 = .ok (.invokevirtual 81, 3) := by decide +kernel
theorem dX1_weigh_39 : decode cX1_weigh 39 = .ok (.ifCond .eq 21, 3) := by decide +kernel
theorem dX1_weigh_42 : decode cX1_weigh 42 = .ok (.aload_n 0, 1) := by decide +kernel
theorem dX1_weigh_43 : decode cX1_weigh 43 = .ok (.getfield 43, 3) := by decide +kernel
theorem dX1_weigh_46 : decode cX1_weigh 46 = .ok (.iload_n 2, 1) := by decide +kernel
theorem dX1_weigh_47 : decode cX1_weigh 47 = .ok (.dup2, 1) := by decide +kernel
theorem dX1_weigh_48 : decode cX1_weigh 48 = .ok (.iaload, 1) := by decide +kernel
theorem dX1_weigh_49 : decode cX1_weigh 49 = .ok (.aload_n 0, 1) := by decide +kernel
theorem dX1_weigh_50 : decode cX1_weigh 50 = .ok (.getfield 15, 3) := by decide +kernel
theorem dX1_weigh_53 : decode cX1_weigh 53 = .ok (.iload_n 1, 1) := by decide +kernel
theorem dX1_weigh_54 : decode cX1_weigh 54 = .ok (.iaload, 1) := by decide +kernel
theorem dX1_weigh_55 : decode cX1_weigh 55 = .ok (.invokestatic 90, 3) := by decide +kernel
theorem dX1_weigh_58 : decode cX1_weigh 58 = .ok (.iadd, 1) := by decide +kernel
theorem dX1_weigh_59 : decode cX1_weigh 59 = .ok (.iastore, 1) := by decide +kernel
theorem dX1_weigh_60 : decode cX1_weigh 60 = .ok (.iinc 1 (-1), 3) := by decide +kernel
theorem dX1_weigh_63 : decode cX1_weigh 63 = .ok (.goto (-48), 3) := by decide +kernel
theorem dX1_weigh_66 : decode cX1_weigh 66 = .ok (.return_, 1) := by decide +kernel
theorem dX1_isLight_0 : decode cX1_isLight 0 = .ok (.aload_n 0, 1) := by decide +kernel
theorem dX1_isLight_1 : decode cX1_isLight 1 = .ok (.getfield 43, 3) := by decide +kernel
theorem dX1_isLight_4 : decode cX1_isLight 4 = .ok (.iload_n 1, 1) := by decide +kernel
theorem dX1_isLight_5 : decode cX1_isLight 5 = .ok (.invokestatic 58, 3) := by decide +kernel
theorem dX1_isLight_8 : decode cX1_isLight 8 = .ok (.iconst 1, 1) := by decide +kernel
theorem dX1_isLight_9 : decode cX1_isLight 9 = .ok (.if_icmp .ge 7, 3) := by decide +kernel
theorem dX1_isLight_12 : decode cX1_isLight 12 = .ok (.iconst 1, 1) := by decide +kernel
theorem dX1_isLight_13 : decode cX1_isLight 13 = .ok (.goto 4, 3) := by decide +kernel
theorem dX1_isLight_16 : decode cX1_isLight 16 = .ok (.iconst 0, 1) := by decide +kernel
theorem dX1_isLight_17 : decode cX1_isLight 17 = .ok (.ireturn, 1) := by decide +kernel
theorem dX1_burdenOf_0 : decode cX1_burdenOf 0 = .ok (.iload_n 0, 1) := by decide +kernel
theorem dX1_burdenOf_1 : decode cX1_burdenOf 1 = .ok (.iconst 1, 1) := by decide +kernel
theorem dX1_burdenOf_2 : decode cX1_burdenOf 2 = .ok (.if_icmp .eq 8, 3) := by decide +kernel
theorem dX1_burdenOf_5 : decode cX1_burdenOf 5 = .ok (.iload_n 0, 1) := by decide +kernel
theorem dX1_burdenOf_6 : decode cX1_burdenOf 6 = .ok (.iconst 3, 1) := by decide +kernel
theorem dX1_burdenOf_7 : decode cX1_burdenOf 7 = .ok (.if_icmp .ne 5, 3) := by decide +kernel
theorem dX1_burdenOf_10 : decode cX1_burdenOf 10 = .ok (.iconst 1, 1) := by decide +kernel
theorem dX1_burdenOf_11 : decode cX1_burdenOf 11 = .ok (.ireturn, 1) := by decide +kernel
theorem dX1_burdenOf_12 : decode cX1_burdenOf 12 = .ok (.iload_n 0, 1) := by decide +kernel
theorem dX1_burdenOf_13 : decode cX1_burdenOf 13 = .ok (.iconst 2, 1) := by decide +kernel
theorem dX1_burdenOf_14 : decode cX1_burdenOf 14 = .ok (.if_icmp .ne 7, 3) := by decide +kernel
theorem dX1_burdenOf_17 : decode cX1_burdenOf 17 = .ok (.iconst (-1), 1) := by decide +kernel
theorem dX1_burdenOf_18 : decode cX1_burdenOf 18 = .ok (.goto 4, 3) := by decide +kernel
theorem dX1_burdenOf_21 : decode cX1_burdenOf 21 = .ok (.iconst 0, 1) := by decide +kernel
theorem dX1_burdenOf_22 : decode cX1_burdenOf 22 = .ok (.ireturn, 1) := by decide +kernel
theorem dX2_init_0 : decode cX2_init 0 = .ok (.aload_n 0, 1) := by decide +kernel
theorem dX2_init_1 : decode cX2_init 1 = .ok (.invokespecial 3, 3) := by decide +kernel
theorem dX2_init_4 : decode cX2_init 4 = .ok (.aload_n 0, 1) := by decide +kernel
theorem dX2_init_5 : decode cX2_init 5 = .ok (.sipush 160, 3) := by decide +kernel
theorem dX2_init_8 : decode cX2_init 8 = .ok (.newarray .int, 2) := by decide +kernel
theorem dX2_init_10 : decode cX2_init 10 = .ok (.putfield 9, 3) := by decide +kernel
theorem dX2_init_13 : decode cX2_init 13 = .ok (.aload_n 0, 1) := by decide +kernel
theorem dX2_init_14 : decode cX2_init 14 = .ok (.bipush 8, 2) := by decide +kernel
theorem dX2_init_16 : decode cX2_init 16 = .ok (.newarray .int, 2) := by decide +kernel
theorem dX2_init_18 : decode cX2_init 18 = .ok (.putfield 15, 3) := by decide +kernel
theorem dX2_init_21 : decode cX2_init 21 = .ok (.aload_n 0, 1) := by decide +kernel
theorem dX2_init_22 : decode cX2_init 22 = .ok (.bipush 8, 2) := by decide +kernel
theorem dX2_init_24 : decode cX2_init 24 = .ok (.newarray .int, 2) := by decide +kernel
theorem dX2_init_26 : decode cX2_init 26 = .ok (.putfield 18, 3) := by decide +kernel
theorem dX2_init_29 : decode cX2_init 29 = .ok (.return_, 1) := by decide +kernel
theorem dX3_init_0 : decode cX3_init 0 = .ok (.aload_n 0, 1) := by decide +kernel
theorem dX3_init_1 : decode cX3_init 1 = .ok (.invokespecial 3, 3) := by decide +kernel
theorem dX3_init_4 : decode cX3_init 4 = .ok (.aload_n 0, 1) := by decide +kernel
theorem dX3_init_5 : decode cX3_init 5 = .ok (.sipush 240, 3) := by decide +kernel
theorem dX3_init_8 : decode cX3_init 8 = .ok (.newarray .int, 2) := by decide +kernel
theorem dX3_init_10 : decode cX3_init 10 = .ok (.putfield 9, 3) := by decide +kernel
theorem dX3_init_13 : decode cX3_init 13 = .ok (.return_, 1) := by decide +kernel
theorem dX4_init_0 : decode cX4_init 0 = .ok (.aload_n 0, 1) := by decide +kernel
theorem dX4_init_1 : decode cX4_init 1 = .ok (.invokespecial 3, 3) := by decide +kernel
theorem dX4_init_4 : decode cX4_init 4 = .ok (.aload_n 0, 1) := by decide +kernel
theorem dX4_init_5 : decode cX4_init 5 = .ok (.bipush 12, 2) := by decide +kernel
theorem dX4_init_7 : decode cX4_init 7 = .ok (.newarray .int, 2) := by decide +kernel
theorem dX4_init_9 : decode cX4_init 9 = .ok (.putfield 9, 3) := by decide +kernel
theorem dX4_init_12 : decode cX4_init 12 = .ok (.return_, 1) := by decide +kernel
theorem dX4_size_0 : decode cX4_size 0 = .ok (.aload_n 0, 1) := by decide +kernel
theorem dX4_size_1 : decode cX4_size 1 = .ok (.getfield 15, 3) := by decide +kernel
theorem dX4_size_4 : decode cX4_size 4 = .ok (.ireturn, 1) := by decide +kernel
theorem dX4_isFull_0 : decode cX4_isFull 0 = .ok (.aload_n 0, 1) := by decide +kernel
theorem dX4_isFull_1 : decode cX4_isFull 1 = .ok (.getfield 15, 3) := by decide +kernel
theorem dX4_isFull_4 : decode cX4_isFull 4 = .ok (.aload_n 0, 1) := by decide +kernel
theorem dX4_isFull_5 : decode cX4_isFull 5 = .ok (.getfield 9, 3) := by decide +kernel
theorem dX4_isFull_8 : decode cX4_isFull 8 = .ok (.arraylength, 1) := by decide +kernel
theorem dX4_isFull_9 : decode cX4_isFull 9 = .ok (.if_icmp .lt 7, 3) := by decide +kernel
theorem dX4_isFull_12 : decode cX4_isFull 12 = .ok (.iconst 1, 1) := by decide +kernel
theorem dX4_isFull_13 : decode cX4_isFull 13 = .ok (.goto 4, 3) := by decide +kernel
theorem dX4_isFull_16 : decode cX4_isFull 16 = .ok (.iconst 0, 1) := by decide +kernel
theorem dX4_isFull_17 : decode cX4_isFull 17 = .ok (.ireturn, 1) := by decide +kernel
theorem dX4_add_0 : decode cX4_add 0 = .ok (.aload_n 0, 1) := by decide +kernel
theorem dX4_add_1 : decode cX4_add 1 = .ok (.invokevirtual 19, 3) := by decide +kernel
theorem dX4_add_4 : decode cX4_add 4 = .ok (.ifCond .ne 23, 3) := by decide +kernel
theorem dX4_add_7 : decode cX4_add 7 = .ok (.aload_n 0, 1) := by decide +kernel
theorem dX4_add_8 : decode cX4_add 8 = .ok (.getfield 9, 3) := by decide +kernel
theorem dX4_add_11 : decode cX4_add 11 = .ok (.aload_n 0, 1) := by decide +kernel
theorem dX4_add_12 : decode cX4_add 12 = .ok (.getfield 15, 3) := by decide +kernel
theorem dX4_add_15 : decode cX4_add 15 = .ok (.iload_n 1, 1) := by decide +kernel
theorem dX4_add_16 : decode cX4_add 16 = .ok (.iastore, 1) := by decide +kernel
theorem dX4_add_17 : decode cX4_add 17 = .ok (.aload_n 0, 1) := by decide +kernel
theorem dX4_add_18 : decode cX4_add 18 = .ok (.dup, 1) := by decide +kernel
theorem dX4_add_19 : decode cX4_add 19 = .ok (.getfield 15, 3) := by decide +kernel
theorem dX4_add_22 : decode cX4_add 22 = .ok (.iconst 1, 1) := by decide +kernel
theorem dX4_add_23 : decode cX4_add 23 = .ok (.iadd, 1) := by decide +kernel
theorem dX4_add_24 : decode cX4_add 24 = .ok (.putfield 15, 3) := by decide +kernel
theorem dX4_add_27 : decode cX4_add 27 = .ok (.return_, 1) := by decide +kernel
theorem dX4_clear_0 : decode cX4_clear 0 = .ok (.aload_n 0, 1) := by decide +kernel
theorem dX4_clear_1 : decode cX4_clear 1 = .ok (.iconst 0, 1) := by decide +kernel
theorem dX4_clear_2 : decode cX4_clear 2 = .ok (.putfield 15, 3) := by decide +kernel
theorem dX4_clear_5 : decode cX4_clear 5 = .ok (.return_, 1) := by decide +kernel
theorem dX4_wordAt_0 : decode cX4_wordAt 0 = .ok (.iload_n 1, 1) := by decide +kernel
theorem dX4_wordAt_1 : decode cX4_wordAt 1 = .ok (.aload_n 0, 1) := by decide +kernel
theorem dX4_wordAt_2 : decode cX4_wordAt 2 = .ok (.getfield 15, 3) := by decide +kernel
theorem dX4_wordAt_5 : decode cX4_wordAt 5 = .ok (.if_icmp .ge 14, 3) := by decide +kernel
theorem dX4_wordAt_8 : decode cX4_wordAt 8 = .ok (.aload_n 0, 1) := by decide +kernel
theorem dX4_wordAt_9 : decode cX4_wordAt 9 = .ok (.getfield 9, 3) := by decide +kernel
theorem dX4_wordAt_12 : decode cX4_wordAt 12 = .ok (.iload_n 1, 1) := by decide +kernel
theorem dX4_wordAt_13 : decode cX4_wordAt 13 = .ok (.invokestatic 23, 3) := by decide +kernel
theorem dX4_wordAt_16 : decode cX4_wordAt 16 = .ok (.goto 4, 3) := by decide +kernel
theorem dX4_wordAt_19 : decode cX4_wordAt 19 = .ok (.iconst (-1), 1) := by decide +kernel
theorem dX4_wordAt_20 : decode cX4_wordAt 20 = .ok (.ireturn, 1) := by decide +kernel
theorem dX5_init_0 : decode cX5_init 0 = .ok (.aload_n 0, 1) := by decide +kernel
theorem dX5_init_1 : decode cX5_init 1 = .ok (.invokespecial 3, 3) := by decide +kernel
theorem dX5_init_4 : decode cX5_init 4 = .ok (.aload_n 0, 1) := by decide +kernel
theorem dX5_init_5 : decode cX5_init 5 = .ok (.bipush 10, 2) := by decide +kernel
theorem dX5_init_7 : decode cX5_init 7 = .ok (.newarray .int, 2) := by decide +kernel
theorem dX5_init_9 : decode cX5_init 9 = .ok (.putfield 9, 3) := by decide +kernel
theorem dX5_init_12 : decode cX5_init 12 = .ok (.aload_n 0, 1) := by decide +kernel
theorem dX5_init_13 : decode cX5_init 13 = .ok (.bipush 10, 2) := by decide +kernel
theorem dX5_init_15 : decode cX5_init 15 = .ok (.newarray .int, 2) := by decide +kernel
theorem dX5_init_17 : decode cX5_init 17 = .ok (.putfield 15, 3) := by decide +kernel
theorem dX5_init_20 : decode cX5_init 20 = .ok (.aload_n 0, 1) := by decide +kernel
theorem dX5_init_21 : decode cX5_init 21 = .ok (.bipush 6, 2) := by decide +kernel
theorem dX5_init_23 : decode cX5_init 23 = .ok (.newarray .int, 2) := by decide +kernel
theorem dX5_init_25 : decode cX5_init 25 = .ok (.putfield 18, 3) := by decide +kernel
theorem dX5_init_28 : decode cX5_init 28 = .ok (.aload_n 0, 1) := by decide +kernel
theorem dX5_init_29 : decode cX5_init 29 = .ok (.bipush 6, 2) := by decide +kernel
theorem dX5_init_31 : decode cX5_init 31 = .ok (.newarray .int, 2) := by decide +kernel
theorem dX5_init_33 : decode cX5_init 33 = .ok (.putfield 21, 3) := by decide +kernel
theorem dX5_init_36 : decode cX5_init 36 = .ok (.return_, 1) := by decide +kernel
theorem dX6_init_0 : decode cX6_init 0 = .ok (.aload_n 0, 1) := by decide +kernel
theorem dX6_init_1 : decode cX6_init 1 = .ok (.invokespecial 3, 3) := by decide +kernel
theorem dX6_init_4 : decode cX6_init 4 = .ok (.aload_n 0, 1) := by decide +kernel
theorem dX6_init_5 : decode cX6_init 5 = .ok (.new 9, 3) := by decide +kernel
theorem dX6_init_8 : decode cX6_init 8 = .ok (.dup, 1) := by decide +kernel
theorem dX6_init_9 : decode cX6_init 9 = .ok (.invokespecial 11, 3) := by decide +kernel
theorem dX6_init_12 : decode cX6_init 12 = .ok (.putfield 12, 3) := by decide +kernel
theorem dX6_init_15 : decode cX6_init 15 = .ok (.aload_n 0, 1) := by decide +kernel
theorem dX6_init_16 : decode cX6_init 16 = .ok (.new 9, 3) := by decide +kernel
theorem dX6_init_19 : decode cX6_init 19 = .ok (.dup, 1) := by decide +kernel
theorem dX6_init_20 : decode cX6_init 20 = .ok (.invokespecial 11, 3) := by decide +kernel
theorem dX6_init_23 : decode cX6_init 23 = .ok (.putfield 18, 3) := by decide +kernel
theorem dX6_init_26 : decode cX6_init 26 = .ok (.aload_n 0, 1) := by decide +kernel
theorem dX6_init_27 : decode cX6_init 27 = .ok (.sipush 240, 3) := by decide +kernel
theorem dX6_init_30 : decode cX6_init 30 = .ok (.newarray .int, 2) := by decide +kernel
theorem dX6_init_32 : decode cX6_init 32 = .ok (.putfield 21, 3) := by decide +kernel
theorem dX6_init_35 : decode cX6_init 35 = .ok (.return_, 1) := by decide +kernel
theorem dX7_init_0 : decode cX7_init 0 = .ok (.aload_n 0, 1) := by decide +kernel
theorem dX7_init_1 : decode cX7_init 1 = .ok (.invokespecial 3, 3) := by decide +kernel
theorem dX7_init_4 : decode cX7_init 4 = .ok (.aload_n 0, 1) := by decide +kernel
theorem dX7_init_5 : decode cX7_init 5 = .ok (.sipush 240, 3) := by decide +kernel
theorem dX7_init_8 : decode cX7_init 8 = .ok (.newarray .int, 2) := by decide +kernel
theorem dX7_init_10 : decode cX7_init 10 = .ok (.putfield 9, 3) := by decide +kernel
theorem dX7_init_13 : decode cX7_init 13 = .ok (.aload_n 0, 1) := by decide +kernel
theorem dX7_init_14 : decode cX7_init 14 = .ok (.bipush 20, 2) := by decide +kernel
theorem dX7_init_16 : decode cX7_init 16 = .ok (.newarray .int, 2) := by decide +kernel
theorem dX7_init_18 : decode cX7_init 18 = .ok (.putfield 15, 3) := by decide +kernel
theorem dX7_init_21 : decode cX7_init 21 = .ok (.aload_n 0, 1) := by decide +kernel
theorem dX7_init_22 : decode cX7_init 22 = .ok (.bipush 13, 2) := by decide +kernel
theorem dX7_init_24 : decode cX7_init 24 = .ok (.newarray .int, 2) := by decide +kernel
theorem dX7_init_26 : decode cX7_init 26 = .ok (.putfield 18, 3) := by decide +kernel
theorem dX7_init_29 : decode cX7_init 29 = .ok (.return_, 1) := by decide +kernel
theorem dX7_count_0 : decode cX7_count 0 = .ok (.aload_n 0, 1) := by decide +kernel
theorem dX7_count_1 : decode cX7_count 1 = .ok (.getfield 21, 3) := by decide +kernel
theorem dX7_count_4 : decode cX7_count 4 = .ok (.ireturn, 1) := by decide +kernel
theorem dX7_isFull_0 : decode cX7_isFull 0 = .ok (.aload_n 0, 1) := by decide +kernel
theorem dX7_isFull_1 : decode cX7_isFull 1 = .ok (.getfield 21, 3) := by decide +kernel
theorem dX7_isFull_4 : decode cX7_isFull 4 = .ok (.aload_n 0, 1) := by decide +kernel
theorem dX7_isFull_5 : decode cX7_isFull 5 = .ok (.getfield 15, 3) := by decide +kernel
theorem dX7_isFull_8 : decode cX7_isFull 8 = .ok (.arraylength, 1) := by decide +kernel
theorem dX7_isFull_9 : decode cX7_isFull 9 = .ok (.if_icmp .lt 7, 3) := by decide +kernel
theorem dX7_isFull_12 : decode cX7_isFull 12 = .ok (.iconst 1, 1) := by decide +kernel
theorem dX7_isFull_13 : decode cX7_isFull 13 = .ok (.goto 4, 3) := by decide +kernel
theorem dX7_isFull_16 : decode cX7_isFull 16 = .ok (.iconst 0, 1) := by decide +kernel
theorem dX7_isFull_17 : decode cX7_isFull 17 = .ok (.ireturn, 1) := by decide +kernel
theorem dX7_has_0 : decode cX7_has 0 = .ok (.iload_n 1, 1) := by decide +kernel
theorem dX7_has_1 : decode cX7_has 1 = .ok (.ifCond .lt 15, 3) := by decide +kernel
theorem dX7_has_4 : decode cX7_has 4 = .ok (.iload_n 1, 1) := by decide +kernel
theorem dX7_has_5 : decode cX7_has 5 = .ok (.aload_n 0, 1) := by decide +kernel
theorem dX7_has_6 : decode cX7_has 6 = .ok (.getfield 21, 3) := by decide +kernel
theorem dX7_has_9 : decode cX7_has 9 = .ok (.if_icmp .ge 7, 3) := by decide +kernel
theorem dX7_has_12 : decode cX7_has 12 = .ok (.iconst 1, 1) := by decide +kernel
theorem dX7_has_13 : decode cX7_has 13 = .ok (.goto 4, 3) := by decide +kernel
theorem dX7_has_16 : decode cX7_has 16 = .ok (.iconst 0, 1) := by decide +kernel
theorem dX7_has_17 : decode cX7_has 17 = .ok (.ireturn, 1) := by decide +kernel
theorem dX7_hasPlace_0 : decode cX7_hasPlace 0 = .ok (.iload_n 2, 1) := by decide +kernel
theorem dX7_hasPlace_1 : decode cX7_hasPlace 1 = .ok (.ifCond .lt 16, 3) := by decide +kernel
theorem dX7_hasPlace_4 : decode cX7_hasPlace 4 = .ok (.iload_n 2, 1) := by decide +kernel
theorem dX7_hasPlace_5 : decode cX7_hasPlace 5 = .ok (.aload_n 0, 1) := by decide +kernel
theorem dX7_hasPlace_6 : decode cX7_hasPlace 6 = .ok (.iload_n 1, 1) := by decide +kernel
theorem dX7_hasPlace_7 : decode cX7_hasPlace 7 = .ok (.invokevirtual 25, 3) := by decide +kernel
theorem dX7_hasPlace_10 : decode cX7_hasPlace 10 = .ok (.if_icmp .ge 7, 3) := by decide +kernel
theorem dX7_hasPlace_13 : decode cX7_hasPlace 13 = .ok (.iconst 1, 1) := by decide +kernel
theorem dX7_hasPlace_14 : decode cX7_hasPlace 14 = .ok (.goto 4, 3) := by decide +kernel
theorem dX7_hasPlace_17 : decode cX7_hasPlace 17 = .ok (.iconst 0, 1) := by decide +kernel
theorem dX7_hasPlace_18 : decode cX7_hasPlace 18 = .ok (.ireturn, 1) := by decide +kernel
theorem dX7_sizeOf_0 : decode cX7_sizeOf 0 = .ok (.aload_n 0, 1) := by decide +kernel
theorem dX7_sizeOf_1 : decode cX7_sizeOf 1 = .ok (.iload_n 1, 1) := by decide +kernel
theorem dX7_sizeOf_2 : decode cX7_sizeOf 2 = .ok (.invokevirtual 29, 3) := by decide +kernel
theorem dX7_sizeOf_5 : decode cX7_sizeOf 5 = .ok (.ifCond .eq 12, 3) := by decide +kernel
theorem dX7_sizeOf_8 : decode cX7_sizeOf 8 = .ok (.aload_n 0, 1) := by decide +kernel
theorem dX7_sizeOf_9 : decode cX7_sizeOf 9 = .ok (.getfield 15, 3) := by decide +kernel
theorem dX7_sizeOf_12 : decode cX7_sizeOf 12 = .ok (.iload_n 1, 1) := by decide +kernel
theorem dX7_sizeOf_13 : decode cX7_sizeOf 13 = .ok (.iaload, 1) := by decide +kernel
theorem dX7_sizeOf_14 : decode cX7_sizeOf 14 = .ok (.goto 4, 3) := by decide +kernel
theorem dX7_sizeOf_17 : decode cX7_sizeOf 17 = .ok (.iconst 0, 1) := by decide +kernel
theorem dX7_sizeOf_18 : decode cX7_sizeOf 18 = .ok (.ireturn, 1) := by decide +kernel
theorem dX7_wordAt_0 : decode cX7_wordAt 0 = .ok (.aload_n 0, 1) := by decide +kernel
theorem dX7_wordAt_1 : decode cX7_wordAt 1 = .ok (.iload_n 1, 1) := by decide +kernel
theorem dX7_wordAt_2 : decode cX7_wordAt 2 = .ok (.iload_n 2, 1) := by decide +kernel
theorem dX7_wordAt_3 : decode cX7_wordAt 3 = .ok (.invokevirtual 33, 3) := by decide +kernel
theorem dX7_wordAt_6 : decode cX7_wordAt 6 = .ok (.ifCond .eq 17, 3) := by decide +kernel
theorem dX7_wordAt_9 : decode cX7_wordAt 9 = .ok (.aload_n 0, 1) := by decide +kernel
theorem dX7_wordAt_10 : decode cX7_wordAt 10 = .ok (.getfield 9, 3) := by decide +kernel
theorem dX7_wordAt_13 : decode cX7_wordAt 13 = .ok (.iload_n 1, 1) := by decide +kernel
theorem dX7_wordAt_14 : decode cX7_wordAt 14 = .ok (.bipush 12, 2) := by decide +kernel
theorem dX7_wordAt_16 : decode cX7_wordAt 16 = .ok (.imul, 1) := by decide +kernel
theorem dX7_wordAt_17 : decode cX7_wordAt 17 = .ok (.iload_n 2, 1) := by decide +kernel
theorem dX7_wordAt_18 : decode cX7_wordAt 18 = .ok (.iadd, 1) := by decide +kernel
theorem dX7_wordAt_19 : decode cX7_wordAt 19 = .ok (.iaload, 1) := by decide +kernel
theorem dX7_wordAt_20 : decode cX7_wordAt 20 = .ok (.goto 4, 3) := by decide +kernel
theorem dX7_wordAt_23 : decode cX7_wordAt 23 = .ok (.iconst (-1), 1) := by decide +kernel
theorem dX7_wordAt_24 : decode cX7_wordAt 24 = .ok (.ireturn, 1) := by decide +kernel
theorem dX7_put_0 : decode cX7_put 0 = .ok (.aload_n 0, 1) := by decide +kernel
theorem dX7_put_1 : decode cX7_put 1 = .ok (.iload_n 1, 1) := by decide +kernel
theorem dX7_put_2 : decode cX7_put 2 = .ok (.iload_n 2, 1) := by decide +kernel
theorem dX7_put_3 : decode cX7_put 3 = .ok (.invokevirtual 33, 3) := by decide +kernel
theorem dX7_put_6 : decode cX7_put 6 = .ok (.ifCond .eq 15, 3) := by decide +kernel
theorem dX7_put_9 : decode cX7_put 9 = .ok (.aload_n 0, 1) := by decide +kernel
theorem dX7_put_10 : decode cX7_put 10 = .ok (.getfield 9, 3) := by decide +kernel
theorem dX7_put_13 : decode cX7_put 13 = .ok (.iload_n 1, 1) := by decide +kernel
theorem dX7_put_14 : decode cX7_put 14 = .ok (.bipush 12, 2) := by decide +kernel
theorem dX7_put_16 : decode cX7_put 16 = .ok (.imul, 1) := by decide +kernel
theorem dX7_put_17 : decode cX7_put 17 = .ok (.iload_n 2, 1) := by decide +kernel
theorem dX7_put_18 : decode cX7_put 18 = .ok (.iadd, 1) := by decide +kernel
theorem dX7_put_19 : decode cX7_put 19 = .ok (.iload_n 3, 1) := by decide +kernel
theorem dX7_put_20 : decode cX7_put 20 = .ok (.iastore, 1) := by decide +kernel
theorem dX7_put_21 : decode cX7_put 21 = .ok (.return_, 1) := by decide +kernel
theorem dX7_add_0 : decode cX7_add 0 = .ok (.aload_n 0, 1) := by decide +kernel
theorem dX7_add_1 : decode cX7_add 1 = .ok (.invokevirtual 37, 3) := by decide +kernel
theorem dX7_add_4 : decode cX7_add 4 = .ok (.ifCond .eq 4, 3) := by decide +kernel
theorem dX7_add_7 : decode cX7_add 7 = .ok (.return_, 1) := by decide +kernel
theorem dX7_add_8 : decode cX7_add 8 = .ok (.aload_n 0, 1) := by decide +kernel
theorem dX7_add_9 : decode cX7_add 9 = .ok (.getfield 21, 3) := by decide +kernel
theorem dX7_add_12 : decode cX7_add 12 = .ok (.istore_n 2, 1) := by decide +kernel
theorem dX7_add_13 : decode cX7_add 13 = .ok (.aload_n 0, 1) := by decide +kernel
theorem dX7_add_14 : decode cX7_add 14 = .ok (.dup, 1) := by decide +kernel
theorem dX7_add_15 : decode cX7_add 15 = .ok (.getfield 21, 3) := by decide +kernel
theorem dX7_add_18 : decode cX7_add 18 = .ok (.iconst 1, 1) := by decide +kernel
theorem dX7_add_19 : decode cX7_add 19 = .ok (.iadd, 1) := by decide +kernel
theorem dX7_add_20 : decode cX7_add 20 = .ok (.putfield 21, 3) := by decide +kernel
theorem dX7_add_23 : decode cX7_add 23 = .ok (.aload_n 0, 1) := by decide +kernel
theorem dX7_add_24 : decode cX7_add 24 = .ok (.getfield 15, 3) := by decide +kernel
theorem dX7_add_27 : decode cX7_add 27 = .ok (.iload_n 2, 1) := by decide +kernel
theorem dX7_add_28 : decode cX7_add 28 = .ok (.aload_n 1, 1) := by decide +kernel
theorem dX7_add_29 : decode cX7_add 29 = .ok (.invokevirtual 41, 3) := by decide +kernel
theorem dX7_add_32 : decode cX7_add 32 = .ok (.iastore, 1) := by decide +kernel
theorem dX7_add_33 : decode cX7_add 33 = .ok (.iconst 0, 1) := by decide +kernel
theorem dX7_add_34 : decode cX7_add 34 = .ok (.istore_n 3, 1) := by decide +kernel
theorem dX7_add_35 : decode cX7_add 35 = .ok (.iload_n 3, 1) := by decide +kernel
theorem dX7_add_36 : decode cX7_add 36 = .ok (.aload_n 1, 1) := by decide +kernel
theorem dX7_add_37 : decode cX7_add 37 = .ok (.invokevirtual 41, 3) := by decide +kernel
theorem dX7_add_40 : decode cX7_add 40 = .ok (.if_icmp .ge 20, 3) := by decide +kernel
theorem dX7_add_43 : decode cX7_add 43 = .ok (.aload_n 0, 1) := by decide +kernel
theorem dX7_add_44 : decode cX7_add 44 = .ok (.iload_n 2, 1) := by decide +kernel
theorem dX7_add_45 : decode cX7_add 45 = .ok (.iload_n 3, 1) := by decide +kernel
theorem dX7_add_46 : decode cX7_add 46 = .ok (.aload_n 1, 1) := by decide +kernel
theorem dX7_add_47 : decode cX7_add 47 = .ok (.iload_n 3, 1) := by decide +kernel
theorem dX7_add_48 : decode cX7_add 48 = .ok (.invokevirtual 47, 3) := by decide +kernel
theorem dX7_add_51 : decode cX7_add 51 = .ok (.invokevirtual 50, 3) := by decide +kernel
theorem dX7_add_54 : decode cX7_add 54 = .ok (.iinc 3 1, 3) := by decide +kernel
theorem dX7_add_57 : decode cX7_add 57 = .ok (.goto (-22), 3) := by decide +kernel
theorem dX7_add_60 : decode cX7_add 60 = .ok (.return_, 1) := by decide +kernel
theorem dX7_takeOut_0 : decode cX7_takeOut 0 = .ok (.aload_n 0, 1) := by decide +kernel
theorem dX7_takeOut_1 : decode cX7_takeOut 1 = .ok (.iload_n 1, 1) := by decide +kernel
theorem dX7_takeOut_2 : decode cX7_takeOut 2 = .ok (.iload_n 2, 1) := by decide +kernel
theorem dX7_takeOut_3 : decode cX7_takeOut 3 = .ok (.invokevirtual 33, 3) := by decide +kernel
theorem dX7_takeOut_6 : decode cX7_takeOut 6 = .ok (.ifCond .ne 4, 3) := by decide +kernel
theorem dX7_takeOut_9 : decode cX7_takeOut 9 = .ok (.return_, 1) := by decide +kernel
theorem dX7_takeOut_10 : decode cX7_takeOut 10 = .ok (.iload_n 2, 1) := by decide +kernel
theorem dX7_takeOut_11 : decode cX7_takeOut 11 = .ok (.istore_n 3, 1) := by decide +kernel
theorem dX7_takeOut_12 : decode cX7_takeOut 12 = .ok (.iload_n 3, 1) := by decide +kernel
theorem dX7_takeOut_13 : decode cX7_takeOut 13 = .ok (.iconst 1, 1) := by decide +kernel
theorem dX7_takeOut_14 : decode cX7_takeOut 14 = .ok (.iadd, 1) := by decide +kernel
theorem dX7_takeOut_15 : decode cX7_takeOut 15 = .ok (.aload_n 0, 1) := by decide +kernel
theorem dX7_takeOut_16 : decode cX7_takeOut 16 = .ok (.getfield 15, 3) := by decide +kernel
theorem dX7_takeOut_19 : decode cX7_takeOut 19 = .ok (.iload_n 1, 1) := by decide +kernel
theorem dX7_takeOut_20 : decode cX7_takeOut 20 = .ok (.iaload, 1) := by decide +kernel
theorem dX7_takeOut_21 : decode cX7_takeOut 21 = .ok (.if_icmp .ge 23, 3) := by decide +kernel
theorem dX7_takeOut_24 : decode cX7_takeOut 24 = .ok (.aload_n 0, 1) := by decide +kernel
theorem dX7_takeOut_25 : decode cX7_takeOut 25 = .ok (.iload_n 1, 1) := by decide +kernel
theorem dX7_takeOut_26 : decode cX7_takeOut 26 = .ok (.iload_n 3, 1) := by decide +kernel
theorem dX7_takeOut_27 : decode cX7_takeOut 27 = .ok (.aload_n 0, 1) := by decide +kernel
theorem dX7_takeOut_28 : decode cX7_takeOut 28 = .ok (.iload_n 1, 1) := by decide +kernel
theorem dX7_takeOut_29 : decode cX7_takeOut 29 = .ok (.iload_n 3, 1) := by decide +kernel
theorem dX7_takeOut_30 : decode cX7_takeOut 30 = .ok (.iconst 1, 1) := by decide +kernel
theorem dX7_takeOut_31 : decode cX7_takeOut 31 = .ok (.iadd, 1) := by decide +kernel
theorem dX7_takeOut_32 : decode cX7_takeOut 32 = .ok (.invokevirtual 54, 3) := by decide +kernel
theorem dX7_takeOut_35 : decode cX7_takeOut 35 = .ok (.invokevirtual 50, 3) := by decide +kernel
theorem dX7_takeOut_38 : decode cX7_takeOut 38 = .ok (.iinc 3 1, 3) := by decide +kernel
theorem dX7_takeOut_41 : decode cX7_takeOut 41 = .ok (.goto (-29), 3) := by decide +kernel
theorem dX7_takeOut_44 : decode cX7_takeOut 44 = .ok (.aload_n 0, 1) := by decide +kernel
theorem dX7_takeOut_45 : decode cX7_takeOut 45 = .ok (.getfield 15, 3) := by decide +kernel
theorem dX7_takeOut_48 : decode cX7_takeOut 48 = .ok (.iload_n 1, 1) := by decide +kernel
theorem dX7_takeOut_49 : decode cX7_takeOut 49 = .ok (.dup2, 1) := by decide +kernel
theorem dX7_takeOut_50 : decode cX7_takeOut 50 = .ok (.iaload, 1) := by decide +kernel
theorem dX7_takeOut_51 : decode cX7_takeOut 51 = .ok (.iconst 1, 1) := by decide +kernel
theorem dX7_takeOut_52 : decode cX7_takeOut 52 = .ok (.isub, 1) := by decide +kernel
theorem dX7_takeOut_53 : decode cX7_takeOut 53 = .ok (.iastore, 1) := by decide +kernel
theorem dX7_takeOut_54 : decode cX7_takeOut 54 = .ok (.return_, 1) := by decide +kernel
theorem dX7_placeOf_0 : decode cX7_placeOf 0 = .ok (.iconst 0, 1) := by decide +kernel
theorem dX7_placeOf_1 : decode cX7_placeOf 1 = .ok (.istore 4, 2) := by decide +kernel
theorem dX7_placeOf_3 : decode cX7_placeOf 3 = .ok (.iconst 0, 1) := by decide +kernel
theorem dX7_placeOf_4 : decode cX7_placeOf 4 = .ok (.istore 5, 2) := by decide +kernel
theorem dX7_placeOf_6 : decode cX7_placeOf 6 = .ok (.iload 5, 2) := by decide +kernel
theorem dX7_placeOf_8 : decode cX7_placeOf 8 = .ok (.aload_n 0, 1) := by decide +kernel
theorem dX7_placeOf_9 : decode cX7_placeOf 9 = .ok (.iload_n 1, 1) := by decide +kernel
theorem dX7_placeOf_10 : decode cX7_placeOf 10 = .ok (.invokevirtual 25, 3) := by decide +kernel
theorem dX7_placeOf_13 : decode cX7_placeOf 13 = .ok (.if_icmp .ge 32, 3) := by decide +kernel
theorem dX7_placeOf_16 : decode cX7_placeOf 16 = .ok (.aload_n 0, 1) := by decide +kernel
theorem dX7_placeOf_17 : decode cX7_placeOf 17 = .ok (.iload_n 1, 1) := by decide +kernel
theorem dX7_placeOf_18 : decode cX7_placeOf 18 = .ok (.iload 5, 2) := by decide +kernel
theorem dX7_placeOf_20 : decode cX7_placeOf 20 = .ok (.invokevirtual 54, 3) := by decide +kernel
theorem dX7_placeOf_23 : decode cX7_placeOf 23 = .ok (.iload_n 2, 1) := by decide +kernel
theorem dX7_placeOf_24 : decode cX7_placeOf 24 = .ok (.if_icmp .ne 15, 3) := by decide +kernel
theorem dX7_placeOf_27 : decode cX7_placeOf 27 = .ok (.iinc 4 1, 3) := by decide +kernel
theorem dX7_placeOf_30 : decode cX7_placeOf 30 = .ok (.iload 4, 2) := by decide +kernel
theorem dX7_placeOf_32 : decode cX7_placeOf 32 = .ok (.iload_n 3, 1) := by decide +kernel
theorem dX7_placeOf_33 : decode cX7_placeOf 33 = .ok (.if_icmp .ne 6, 3) := by decide +kernel
theorem dX7_placeOf_36 : decode cX7_placeOf 36 = .ok (.iload 5, 2) := by decide +kernel
theorem dX7_placeOf_38 : decode cX7_placeOf 38 = .ok (.ireturn, 1) := by decide +kernel
theorem dX7_placeOf_39 : decode cX7_placeOf 39 = .ok (.iinc 5 1, 3) := by decide +kernel
theorem dX7_placeOf_42 : decode cX7_placeOf 42 = .ok (.goto (-36), 3) := by decide +kernel
theorem dX7_placeOf_45 : decode cX7_placeOf 45 = .ok (.iconst (-1), 1) := by decide +kernel
theorem dX7_placeOf_46 : decode cX7_placeOf 46 = .ok (.ireturn, 1) := by decide +kernel
theorem dX7_nearest_0 : decode cX7_nearest 0 = .ok (.iconst (-1), 1) := by decide +kernel
theorem dX7_nearest_1 : decode cX7_nearest 1 = .ok (.istore 4, 2) := by decide +kernel
theorem dX7_nearest_3 : decode cX7_nearest 3 = .ok (.iconst 0, 1) := by decide +kernel
theorem dX7_nearest_4 : decode cX7_nearest 4 = .ok (.istore 5, 2) := by decide +kernel
theorem dX7_nearest_6 : decode cX7_nearest 6 = .ok (.iload 5, 2) := by decide +kernel
theorem dX7_nearest_8 : decode cX7_nearest 8 = .ok (.aload_n 0, 1) := by decide +kernel
theorem dX7_nearest_9 : decode cX7_nearest 9 = .ok (.iload_n 1, 1) := by decide +kernel
theorem dX7_nearest_10 : decode cX7_nearest 10 = .ok (.invokevirtual 25, 3) := by decide +kernel
theorem dX7_nearest_13 : decode cX7_nearest 13 = .ok (.if_icmp .ge 47, 3) := by decide +kernel
theorem dX7_nearest_16 : decode cX7_nearest 16 = .ok (.aload_n 0, 1) := by decide +kernel
theorem dX7_nearest_17 : decode cX7_nearest 17 = .ok (.iload_n 1, 1) := by decide +kernel
theorem dX7_nearest_18 : decode cX7_nearest 18 = .ok (.iload 5, 2) := by decide +kernel
theorem dX7_nearest_20 : decode cX7_nearest 20 = .ok (.invokevirtual 54, 3) := by decide +kernel
theorem dX7_nearest_23 : decode cX7_nearest 23 = .ok (.iload_n 2, 1) := by decide +kernel
theorem dX7_nearest_24 : decode cX7_nearest 24 = .ok (.if_icmp .ne 30, 3) := by decide +kernel
theorem dX7_nearest_27 : decode cX7_nearest 27 = .ok (.iload 4, 2) := by decide +kernel
theorem dX7_nearest_29 : decode cX7_nearest 29 = .ok (.iconst (-1), 1) := by decide +kernel
theorem dX7_nearest_30 : decode cX7_nearest 30 = .ok (.if_icmp .eq 20, 3) := by decide +kernel
theorem dX7_nearest_33 : decode cX7_nearest 33 = .ok (.iload 5, 2) := by decide +kernel
theorem dX7_nearest_35 : decode cX7_nearest 35 = .ok (.iload_n 3, 1) := by decide +kernel
theorem dX7_nearest_36 : decode cX7_nearest 36 = .ok (.isub, 1) := by decide +kernel
theorem dX7_nearest_37 : decode cX7_nearest 37 = .ok (.invokestatic 57, 3) := by decide +kernel
theorem dX7_nearest_40 : decode cX7_nearest 40 = .ok (.iload 4, 2) := by decide +kernel
theorem dX7_nearest_42 : decode cX7_nearest 42 = .ok (.iload_n 3, 1) := by decide +kernel
theorem dX7_nearest_43 : decode cX7_nearest 43 = .ok (.isub, 1) := by decide +kernel
theorem dX7_nearest_44 : decode cX7_nearest 44 = .ok (.invokestatic 57, 3) := by decide +kernel
theorem dX7_nearest_47 : decode cX7_nearest 47 = .ok (.if_icmp .ge 7, 3) := by decide +kernel
theorem dX7_nearest_50 : decode cX7_nearest 50 = .ok (.iload 5, 2) := by decide +kernel
theorem dX7_nearest_52 : decode cX7_nearest 52 = .ok (.istore 4, 2) := by decide +kernel
theorem dX7_nearest_54 : decode cX7_nearest 54 = .ok (.iinc 5 1, 3) := by decide +kernel
theorem dX7_nearest_57 : decode cX7_nearest 57 = .ok (.goto (-51), 3) := by decide +kernel
theorem dX7_nearest_60 : decode cX7_nearest 60 = .ok (.iload 4, 2) := by decide +kernel
theorem dX7_nearest_62 : decode cX7_nearest 62 = .ok (.ireturn, 1) := by decide +kernel
theorem dX8_init_0 : decode cX8_init 0 = .ok (.aload_n 0, 1) := by decide +kernel
theorem dX8_init_1 : decode cX8_init 1 = .ok (.invokespecial 3, 3) := by decide +kernel
theorem dX8_init_4 : decode cX8_init 4 = .ok (.aload_n 0, 1) := by decide +kernel
theorem dX8_init_5 : decode cX8_init 5 = .ok (.new 9, 3) := by decide +kernel
theorem dX8_init_8 : decode cX8_init 8 = .ok (.dup, 1) := by decide +kernel
theorem dX8_init_9 : decode cX8_init 9 = .ok (.invokespecial 11, 3) := by decide +kernel
theorem dX8_init_12 : decode cX8_init 12 = .ok (.putfield 12, 3) := by decide +kernel
theorem dX8_init_15 : decode cX8_init 15 = .ok (.aload_n 0, 1) := by decide +kernel
theorem dX8_init_16 : decode cX8_init 16 = .ok (.new 16, 3) := by decide +kernel
theorem dX8_init_19 : decode cX8_init 19 = .ok (.dup, 1) := by decide +kernel
theorem dX8_init_20 : decode cX8_init 20 = .ok (.invokespecial 18, 3) := by decide +kernel
theorem dX8_init_23 : decode cX8_init 23 = .ok (.putfield 19, 3) := by decide +kernel
theorem dX8_init_26 : decode cX8_init 26 = .ok (.aload_n 0, 1) := by decide +kernel
theorem dX8_init_27 : decode cX8_init 27 = .ok (.new 23, 3) := by decide +kernel
theorem dX8_init_30 : decode cX8_init 30 = .ok (.dup, 1) := by decide +kernel
theorem dX8_init_31 : decode cX8_init 31 = .ok (.invokespecial 25, 3) := by decide +kernel
theorem dX8_init_34 : decode cX8_init 34 = .ok (.putfield 26, 3) := by decide +kernel
theorem dX8_init_37 : decode cX8_init 37 = .ok (.aload_n 0, 1) := by decide +kernel
theorem dX8_init_38 : decode cX8_init 38 = .ok (.new 30, 3) := by decide +kernel
theorem dX8_init_41 : decode cX8_init 41 = .ok (.dup, 1) := by decide +kernel
theorem dX8_init_42 : decode cX8_init 42 = .ok (.invokespecial 32, 3) := by decide +kernel
theorem dX8_init_45 : decode cX8_init 45 = .ok (.putfield 33, 3) := by decide +kernel
theorem dX8_init_48 : decode cX8_init 48 = .ok (.aload_n 0, 1) := by decide +kernel
theorem dX8_init_49 : decode cX8_init 49 = .ok (.new 37, 3) := by decide +kernel
theorem dX8_init_52 : decode cX8_init 52 = .ok (.dup, 1) := by decide +kernel
theorem dX8_init_53 : decode cX8_init 53 = .ok (.invokespecial 39, 3) := by decide +kernel
theorem dX8_init_56 : decode cX8_init 56 = .ok (.putfield 40, 3) := by decide +kernel
theorem dX8_init_59 : decode cX8_init 59 = .ok (.aload_n 0, 1) := by decide +kernel
theorem dX8_init_60 : decode cX8_init 60 = .ok (.new 44, 3) := by decide +kernel
theorem dX8_init_63 : decode cX8_init 63 = .ok (.dup, 1) := by decide +kernel
theorem dX8_init_64 : decode cX8_init 64 = .ok (.invokespecial 46, 3) := by decide +kernel
theorem dX8_init_67 : decode cX8_init 67 = .ok (.putfield 47, 3) := by decide +kernel
theorem dX8_init_70 : decode cX8_init 70 = .ok (.aload_n 0, 1) := by decide +kernel
theorem dX8_init_71 : decode cX8_init 71 = .ok (.new 51, 3) := by decide +kernel
theorem dX8_init_74 : decode cX8_init 74 = .ok (.dup, 1) := by decide +kernel
theorem dX8_init_75 : decode cX8_init 75 = .ok (.invokespecial 53, 3) := by decide +kernel
theorem dX8_init_78 : decode cX8_init 78 = .ok (.putfield 54, 3) := by decide +kernel
theorem dX8_init_81 : decode cX8_init 81 = .ok (.return_, 1) := by decide +kernel
theorem dX8_word_0 : decode cX8_word 0 = .ok (.iload_n 1, 1) := by decide +kernel
theorem dX8_word_1 : decode cX8_word 1 = .ok (.iconst 0, 1) := by decide +kernel
theorem dX8_word_2 : decode cX8_word 2 = .ok (.bipush 59, 2) := by decide +kernel
theorem dX8_word_4 : decode cX8_word 4 = .ok (.invokestatic 58, 3) := by decide +kernel
theorem dX8_word_7 : decode cX8_word 7 = .ok (.aload_n 0, 1) := by decide +kernel
theorem dX8_word_8 : decode cX8_word 8 = .ok (.getfield 12, 3) := by decide +kernel
theorem dX8_word_11 : decode cX8_word 11 = .ok (.invokevirtual 62, 3) := by decide +kernel
theorem dX8_word_14 : decode cX8_word 14 = .ok (.ifCond .eq 13, 3) := by decide +kernel
theorem dX8_word_17 : decode cX8_word 17 = .ok (.new 66, 3) := by decide +kernel
theorem dX8_word_20 : decode cX8_word 20 = .ok (.dup, 1) := by decide +kernel
theorem dX8_word_21 : decode cX8_word 21 = .ok (.ldc 68, 2) := by decide +kernel
theorem dX8_word_23 : decode cX8_word 23 = .ok (.invokespecial 70, 3) := by decide +kernel
theorem dX8_word_26 : decode cX8_word 26 = .ok (.athrow, 1) := by decide +kernel
theorem dX8_word_27 : decode cX8_word 27 = .ok (.aload_n 0, 1) := by decide +kernel
theorem dX8_word_28 : decode cX8_word 28 = .ok (.getfield 12, 3) := by decide +kernel
theorem dX8_word_31 : decode cX8_word 31 = .ok (.iload_n 1, 1) := by decide +kernel
theorem dX8_word_32 : decode cX8_word 32 = .ok (.invokevirtual 73, 3) := by decide +kernel
theorem dX8_word_35 : decode cX8_word 35 = .ok (.aload_n 0, 1) := by decide +kernel
theorem dX8_word_36 : decode cX8_word 36 = .ok (.getfield 12, 3) := by decide +kernel
theorem dX8_word_39 : decode cX8_word 39 = .ok (.invokevirtual 77, 3) := by decide +kernel
theorem dX8_word_42 : decode cX8_word 42 = .ok (.ireturn, 1) := by decide +kernel
theorem dX8_unit_0 : decode cX8_unit 0 = .ok (.aload_n 0, 1) := by decide +kernel
theorem dX8_unit_1 : decode cX8_unit 1 = .ok (.getfield 12, 3) := by decide +kernel
theorem dX8_unit_4 : decode cX8_unit 4 = .ok (.invokevirtual 77, 3) := by decide +kernel
theorem dX8_unit_7 : decode cX8_unit 7 = .ok (.ifCond .ne 13, 3) := by decide +kernel
theorem dX8_unit_10 : decode cX8_unit 10 = .ok (.new 66, 3) := by decide +kernel
theorem dX8_unit_13 : decode cX8_unit 13 = .ok (.dup, 1) := by decide +kernel
theorem dX8_unit_14 : decode cX8_unit 14 = .ok (.ldc 84, 2) := by decide +kernel
theorem dX8_unit_16 : decode cX8_unit 16 = .ok (.invokespecial 70, 3) := by decide +kernel
theorem dX8_unit_19 : decode cX8_unit 19 = .ok (.athrow, 1) := by decide +kernel
theorem dX8_unit_20 : decode cX8_unit 20 = .ok (.aload_n 0, 1) := by decide +kernel
theorem dX8_unit_21 : decode cX8_unit 21 = .ok (.getfield 19, 3) := by decide +kernel
theorem dX8_unit_24 : decode cX8_unit 24 = .ok (.invokevirtual 86, 3) := by decide +kernel
theorem dX8_unit_27 : decode cX8_unit 27 = .ok (.ifCond .eq 13, 3) := by decide +kernel
theorem dX8_unit_30 : decode cX8_unit 30 = .ok (.new 66, 3) := by decide +kernel
theorem dX8_unit_33 : decode cX8_unit 33 = .ok (.dup, 1) := by decide +kernel
theorem dX8_unit_34 : decode cX8_unit 34 = .ok (.ldc 87, 2) := by decide +kernel
theorem dX8_unit_36 : decode cX8_unit 36 = .ok (.invokespecial 70, 3) := by decide +kernel
theorem dX8_unit_39 : decode cX8_unit 39 = .ok (.athrow, 1) := by decide +kernel
theorem dX8_unit_40 : decode cX8_unit 40 = .ok (.aload_n 0, 1) := by decide +kernel
theorem dX8_unit_41 : decode cX8_unit 41 = .ok (.getfield 19, 3) := by decide +kernel
theorem dX8_unit_44 : decode cX8_unit 44 = .ok (.aload_n 0, 1) := by decide +kernel
theorem dX8_unit_45 : decode cX8_unit 45 = .ok (.getfield 12, 3) := by decide +kernel
theorem dX8_unit_48 : decode cX8_unit 48 = .ok (.invokevirtual 89, 3) := by decide +kernel
theorem dX8_unit_51 : decode cX8_unit 51 = .ok (.aload_n 0, 1) := by decide +kernel
theorem dX8_unit_52 : decode cX8_unit 52 = .ok (.getfield 12, 3) := by decide +kernel
theorem dX8_unit_55 : decode cX8_unit 55 = .ok (.invokevirtual 81, 3) := by decide +kernel
theorem dX8_unit_58 : decode cX8_unit 58 = .ok (.aload_n 0, 1) := by decide +kernel
theorem dX8_unit_59 : decode cX8_unit 59 = .ok (.getfield 19, 3) := by decide +kernel
theorem dX8_unit_62 : decode cX8_unit 62 = .ok (.invokevirtual 92, 3) := by decide +kernel
theorem dX8_unit_65 : decode cX8_unit 65 = .ok (.iconst 1, 1) := by decide +kernel
theorem dX8_unit_66 : decode cX8_unit 66 = .ok (.isub, 1) := by decide +kernel
theorem dX8_unit_67 : decode cX8_unit 67 = .ok (.ireturn, 1) := by decide +kernel
theorem dX8_emend_0 : decode cX8_emend 0 = .ok (.aload_n 0, 1) := by decide +kernel
theorem dX8_emend_1 : decode cX8_emend 1 = .ok (.getfield 19, 3) := by decide +kernel
theorem dX8_emend_4 : decode cX8_emend 4 = .ok (.iload_n 1, 1) := by decide +kernel
theorem dX8_emend_5 : decode cX8_emend 5 = .ok (.iload_n 2, 1) := by decide +kernel
theorem dX8_emend_6 : decode cX8_emend 6 = .ok (.invokevirtual 95, 3) := by decide +kernel
theorem dX8_emend_9 : decode cX8_emend 9 = .ok (.ifCond .ne 13, 3) := by decide +kernel
theorem dX8_emend_12 : decode cX8_emend 12 = .ok (.new 99, 3) := by decide +kernel
theorem dX8_emend_15 : decode cX8_emend 15 = .ok (.dup, 1) := by decide +kernel
theorem dX8_emend_16 : decode cX8_emend 16 = .ok (.ldc 101, 2) := by decide +kernel
theorem dX8_emend_18 : decode cX8_emend 18 = .ok (.invokespecial 103, 3) := by decide +kernel
theorem dX8_emend_21 : decode cX8_emend 21 = .ok (.athrow, 1) := by decide +kernel
theorem dX8_emend_22 : decode cX8_emend 22 = .ok (.iload_n 3, 1) := by decide +kernel
theorem dX8_emend_23 : decode cX8_emend 23 = .ok (.iconst (-1), 1) := by decide +kernel
theorem dX8_emend_24 : decode cX8_emend 24 = .ok (.bipush 59, 2) := by decide +kernel
theorem dX8_emend_26 : decode cX8_emend 26 = .ok (.invokestatic 58, 3) := by decide +kernel
theorem dX8_emend_29 : decode cX8_emend 29 = .ok (.iload_n 3, 1) := by decide +kernel
theorem dX8_emend_30 : decode cX8_emend 30 = .ok (.iconst (-1), 1) := by decide +kernel
theorem dX8_emend_31 : decode cX8_emend 31 = .ok (.if_icmp .eq 26, 3) := by decide +kernel
theorem dX8_emend_34 : decode cX8_emend 34 = .ok (.aload_n 0, 1) := by decide +kernel
theorem dX8_emend_35 : decode cX8_emend 35 = .ok (.getfield 19, 3) := by decide +kernel
theorem dX8_emend_38 : decode cX8_emend 38 = .ok (.iload_n 1, 1) := by decide +kernel
theorem dX8_emend_39 : decode cX8_emend 39 = .ok (.iload_n 2, 1) := by decide +kernel
theorem dX8_emend_40 : decode cX8_emend 40 = .ok (.iload_n 3, 1) := by decide +kernel
theorem dX8_emend_41 : decode cX8_emend 41 = .ok (.invokevirtual 104, 3) := by decide +kernel
theorem dX8_emend_44 : decode cX8_emend 44 = .ok (.aload_n 0, 1) := by decide +kernel
theorem dX8_emend_45 : decode cX8_emend 45 = .ok (.getfield 33, 3) := by decide +kernel
theorem dX8_emend_48 : decode cX8_emend 48 = .ok (.iload_n 1, 1) := by decide +kernel
theorem dX8_emend_49 : decode cX8_emend 49 = .ok (.aload_n 0, 1) := by decide +kernel
theorem dX8_emend_50 : decode cX8_emend 50 = .ok (.getfield 19, 3) := by decide +kernel
theorem dX8_emend_53 : decode cX8_emend 53 = .ok (.invokevirtual 107, 3) := by decide +kernel
theorem dX8_emend_56 : decode cX8_emend 56 = .ok (.ireturn, 1) := by decide +kernel
theorem dX8_emend_57 : decode cX8_emend 57 = .ok (.aload_n 0, 1) := by decide +kernel
theorem dX8_emend_58 : decode cX8_emend 58 = .ok (.getfield 19, 3) := by decide +kernel
theorem dX8_emend_61 : decode cX8_emend 61 = .ok (.iload_n 1, 1) := by decide +kernel
theorem dX8_emend_62 : decode cX8_emend 62 = .ok (.invokevirtual 111, 3) := by decide +kernel
theorem dX8_emend_65 : decode cX8_emend 65 = .ok (.iconst 1, 1) := by decide +kernel
theorem dX8_emend_66 : decode cX8_emend 66 = .ok (.if_icmp .gt 13, 3) := by decide +kernel
theorem dX8_emend_69 : decode cX8_emend 69 = .ok (.new 66, 3) := by decide +kernel
theorem dX8_emend_72 : decode cX8_emend 72 = .ok (.dup, 1) := by decide +kernel
theorem dX8_emend_73 : decode cX8_emend 73 = .ok (.ldc 115, 2) := by decide +kernel
theorem dX8_emend_75 : decode cX8_emend 75 = .ok (.invokespecial 70, 3) := by decide +kernel
theorem dX8_emend_78 : decode cX8_emend 78 = .ok (.athrow, 1) := by decide +kernel
theorem dX8_emend_79 : decode cX8_emend 79 = .ok (.aload_n 0, 1) := by decide +kernel
theorem dX8_emend_80 : decode cX8_emend 80 = .ok (.getfield 19, 3) := by decide +kernel
theorem dX8_emend_83 : decode cX8_emend 83 = .ok (.iload_n 1, 1) := by decide +kernel
theorem dX8_emend_84 : decode cX8_emend 84 = .ok (.iload_n 2, 1) := by decide +kernel
theorem dX8_emend_85 : decode cX8_emend 85 = .ok (.invokevirtual 117, 3) := by decide +kernel
theorem dX8_emend_88 : decode cX8_emend 88 = .ok (.aload_n 0, 1) := by decide +kernel
theorem dX8_emend_89 : decode cX8_emend 89 = .ok (.getfield 33, 3) := by decide +kernel
theorem dX8_emend_92 : decode cX8_emend 92 = .ok (.iload_n 1, 1) := by decide +kernel
theorem dX8_emend_93 : decode cX8_emend 93 = .ok (.iload_n 2, 1) := by decide +kernel
theorem dX8_emend_94 : decode cX8_emend 94 = .ok (.aload_n 0, 1) := by decide +kernel
theorem dX8_emend_95 : decode cX8_emend 95 = .ok (.getfield 19, 3) := by decide +kernel
theorem dX8_emend_98 : decode cX8_emend 98 = .ok (.iload_n 1, 1) := by decide +kernel
theorem dX8_emend_99 : decode cX8_emend 99 = .ok (.invokevirtual 111, 3) := by decide +kernel
theorem dX8_emend_102 : decode cX8_emend 102 = .ok (.iconst 1, 1) := by decide +kernel
theorem dX8_emend_103 : decode cX8_emend 103 = .ok (.isub, 1) := by decide +kernel
theorem dX8_emend_104 : decode cX8_emend 104 = .ok (.invokevirtual 121, 3) := by decide +kernel
theorem dX8_emend_107 : decode cX8_emend 107 = .ok (.aload_n 0, 1) := by decide +kernel
theorem dX8_emend_108 : decode cX8_emend 108 = .ok (.getfield 33, 3) := by decide +kernel
theorem dX8_emend_111 : decode cX8_emend 111 = .ok (.iload_n 1, 1) := by decide +kernel
theorem dX8_emend_112 : decode cX8_emend 112 = .ok (.aload_n 0, 1) := by decide +kernel
theorem dX8_emend_113 : decode cX8_emend 113 = .ok (.getfield 19, 3) := by decide +kernel
theorem dX8_emend_116 : decode cX8_emend 116 = .ok (.invokevirtual 107, 3) := by decide +kernel
theorem dX8_emend_119 : decode cX8_emend 119 = .ok (.ireturn, 1) := by decide +kernel
theorem dX8_textOf_0 : decode cX8_textOf 0 = .ok (.aload_n 0, 1) := by decide +kernel
theorem dX8_textOf_1 : decode cX8_textOf 1 = .ok (.iload_n 1, 1) := by decide +kernel
theorem dX8_textOf_2 : decode cX8_textOf 2 = .ok (.invokevirtual 124, 3) := by decide +kernel
theorem dX8_textOf_5 : decode cX8_textOf 5 = .ok (.iload_n 2, 1) := by decide +kernel
theorem dX8_textOf_6 : decode cX8_textOf 6 = .ok (.ifCond .ge 13, 3) := by decide +kernel
theorem dX8_textOf_9 : decode cX8_textOf 9 = .ok (.new 99, 3) := by decide +kernel
theorem dX8_textOf_12 : decode cX8_textOf 12 = .ok (.dup, 1) := by decide +kernel
theorem dX8_textOf_13 : decode cX8_textOf 13 = .ok (.ldc 127, 2) := by decide +kernel
theorem dX8_textOf_15 : decode cX8_textOf 15 = .ok (.invokespecial 103, 3) := by decide +kernel
theorem dX8_textOf_18 : decode cX8_textOf 18 = .ok (.athrow, 1) := by decide +kernel
theorem dX8_textOf_19 : decode cX8_textOf 19 = .ok (.aload_n 0, 1) := by decide +kernel
theorem dX8_textOf_20 : decode cX8_textOf 20 = .ok (.getfield 19, 3) := by decide +kernel
theorem dX8_textOf_23 : decode cX8_textOf 23 = .ok (.iload_n 1, 1) := by decide +kernel
theorem dX8_textOf_24 : decode cX8_textOf 24 = .ok (.iload_n 2, 1) := by decide +kernel
theorem dX8_textOf_25 : decode cX8_textOf 25 = .ok (.invokevirtual 129, 3) := by decide +kernel
theorem dX8_textOf_28 : decode cX8_textOf 28 = .ok (.ireturn, 1) := by decide +kernel
theorem dX8_author_0 : decode cX8_author 0 = .ok (.iload_n 1, 1) := by decide +kernel
theorem dX8_author_1 : decode cX8_author 1 = .ok (.iconst 0, 1) := by decide +kernel
theorem dX8_author_2 : decode cX8_author 2 = .ok (.sipush 2000, 3) := by decide +kernel
theorem dX8_author_5 : decode cX8_author 5 = .ok (.invokestatic 58, 3) := by decide +kernel
theorem dX8_author_8 : decode cX8_author 8 = .ok (.iload_n 2, 1) := by decide +kernel
theorem dX8_author_9 : decode cX8_author 9 = .ok (.iconst 0, 1) := by decide +kernel
theorem dX8_author_10 : decode cX8_author 10 = .ok (.iconst 3, 1) := by decide +kernel
theorem dX8_author_11 : decode cX8_author 11 = .ok (.invokestatic 58, 3) := by decide +kernel
theorem dX8_author_14 : decode cX8_author 14 = .ok (.iload_n 3, 1) := by decide +kernel
theorem dX8_author_15 : decode cX8_author 15 = .ok (.iconst 0, 1) := by decide +kernel
theorem dX8_author_16 : decode cX8_author 16 = .ok (.bipush 99, 2) := by decide +kernel
theorem dX8_author_18 : decode cX8_author 18 = .ok (.invokestatic 58, 3) := by decide +kernel
theorem dX8_author_21 : decode cX8_author 21 = .ok (.aload_n 0, 1) := by decide +kernel
theorem dX8_author_22 : decode cX8_author 22 = .ok (.getfield 26, 3) := by decide +kernel
theorem dX8_author_25 : decode cX8_author 25 = .ok (.invokevirtual 133, 3) := by decide +kernel
theorem dX8_author_28 : decode cX8_author 28 = .ok (.ifCond .eq 13, 3) := by decide +kernel
theorem dX8_author_31 : decode cX8_author 31 = .ok (.new 66, 3) := by decide +kernel
theorem dX8_author_34 : decode cX8_author 34 = .ok (.dup, 1) := by decide +kernel
theorem dX8_author_35 : decode cX8_author 35 = .ok (.ldc 134, 2) := by decide +kernel
theorem dX8_author_37 : decode cX8_author 37 = .ok (.invokespecial 70, 3) := by decide +kernel
theorem dX8_author_40 : decode cX8_author 40 = .ok (.athrow, 1) := by decide +kernel
theorem dX8_author_41 : decode cX8_author 41 = .ok (.aload_n 0, 1) := by decide +kernel
theorem dX8_author_42 : decode cX8_author 42 = .ok (.getfield 26, 3) := by decide +kernel
theorem dX8_author_45 : decode cX8_author 45 = .ok (.iload_n 1, 1) := by decide +kernel
theorem dX8_author_46 : decode cX8_author 46 = .ok (.iload_n 2, 1) := by decide +kernel
theorem dX8_author_47 : decode cX8_author 47 = .ok (.iload_n 3, 1) := by decide +kernel
theorem dX8_author_48 : decode cX8_author 48 = .ok (.invokevirtual 136, 3) := by decide +kernel
theorem dX8_author_51 : decode cX8_author 51 = .ok (.aload_n 0, 1) := by decide +kernel
theorem dX8_author_52 : decode cX8_author 52 = .ok (.getfield 26, 3) := by decide +kernel
theorem dX8_author_55 : decode cX8_author 55 = .ok (.invokevirtual 138, 3) := by decide +kernel
theorem dX8_author_58 : decode cX8_author 58 = .ok (.iconst 1, 1) := by decide +kernel
theorem dX8_author_59 : decode cX8_author 59 = .ok (.isub, 1) := by decide +kernel
theorem dX8_author_60 : decode cX8_author 60 = .ok (.ireturn, 1) := by decide +kernel
theorem dX8_comment_0 : decode cX8_comment 0 = .ok (.aload_n 0, 1) := by decide +kernel
theorem dX8_comment_1 : decode cX8_comment 1 = .ok (.iload_n 1, 1) := by decide +kernel
theorem dX8_comment_2 : decode cX8_comment 2 = .ok (.invokevirtual 142, 3) := by decide +kernel
theorem dX8_comment_5 : decode cX8_comment 5 = .ok (.aload_n 0, 1) := by decide +kernel
theorem dX8_comment_6 : decode cX8_comment 6 = .ok (.iload_n 2, 1) := by decide +kernel
theorem dX8_comment_7 : decode cX8_comment 7 = .ok (.invokevirtual 124, 3) := by decide +kernel
theorem dX8_comment_10 : decode cX8_comment 10 = .ok (.iload_n 3, 1) := by decide +kernel
theorem dX8_comment_11 : decode cX8_comment 11 = .ok (.iconst 0, 1) := by decide +kernel
theorem dX8_comment_12 : decode cX8_comment 12 = .ok (.iconst 4, 1) := by decide +kernel
theorem dX8_comment_13 : decode cX8_comment 13 = .ok (.invokestatic 58, 3) := by decide +kernel
theorem dX8_comment_16 : decode cX8_comment 16 = .ok (.iload 4, 2) := by decide +kernel
theorem dX8_comment_18 : decode cX8_comment 18 = .ok (.iconst 0, 1) := by decide +kernel
theorem dX8_comment_19 : decode cX8_comment 19 = .ok (.bipush 59, 2) := by decide +kernel
theorem dX8_comment_21 : decode cX8_comment 21 = .ok (.invokestatic 58, 3) := by decide +kernel
theorem dX8_comment_24 : decode cX8_comment 24 = .ok (.iload 5, 2) := by decide +kernel
theorem dX8_comment_26 : decode cX8_comment 26 = .ok (.iconst 1, 1) := by decide +kernel
theorem dX8_comment_27 : decode cX8_comment 27 = .ok (.bipush 12, 2) := by decide +kernel
theorem dX8_comment_29 : decode cX8_comment 29 = .ok (.invokestatic 58, 3) := by decide +kernel
theorem dX8_comment_32 : decode cX8_comment 32 = .ok (.iload 6, 2) := by decide +kernel
theorem dX8_comment_34 : decode cX8_comment 34 = .ok (.iconst 1, 1) := by decide +kernel
theorem dX8_comment_35 : decode cX8_comment 35 = .ok (.bipush 9, 2) := by decide +kernel
theorem dX8_comment_37 : decode cX8_comment 37 = .ok (.invokestatic 58, 3) := by decide +kernel
theorem dX8_comment_40 : decode cX8_comment 40 = .ok (.iload 7, 2) := by decide +kernel
theorem dX8_comment_42 : decode cX8_comment 42 = .ok (.iconst 0, 1) := by decide +kernel
theorem dX8_comment_43 : decode cX8_comment 43 = .ok (.iconst 1, 1) := by decide +kernel
theorem dX8_comment_44 : decode cX8_comment 44 = .ok (.invokestatic 58, 3) := by decide +kernel
theorem dX8_comment_47 : decode cX8_comment 47 = .ok (.aload_n 0, 1) := by decide +kernel
theorem dX8_comment_48 : decode cX8_comment 48 = .ok (.invokevirtual 145, 3) := by decide +kernel
theorem dX8_comment_51 : decode cX8_comment 51 = .ok (.aload_n 0, 1) := by decide +kernel
theorem dX8_comment_52 : decode cX8_comment 52 = .ok (.getfield 19, 3) := by decide +kernel
theorem dX8_comment_55 : decode cX8_comment 55 = .ok (.iload_n 2, 1) := by decide +kernel
theorem dX8_comment_56 : decode cX8_comment 56 = .ok (.iload 4, 2) := by decide +kernel
theorem dX8_comment_58 : decode cX8_comment 58 = .ok (.iload 5, 2) := by decide +kernel
theorem dX8_comment_60 : decode cX8_comment 60 = .ok (.invokevirtual 148, 3) := by decide +kernel
theorem dX8_comment_63 : decode cX8_comment 63 = .ok (.istore 8, 2) := by decide +kernel
theorem dX8_comment_65 : decode cX8_comment 65 = .ok (.iload 8, 2) := by decide +kernel
theorem dX8_comment_67 : decode cX8_comment 67 = .ok (.iconst (-1), 1) := by decide +kernel
theorem dX8_comment_68 : decode cX8_comment 68 = .ok (.if_icmp .ne 13, 3) := by decide +kernel
theorem dX8_comment_71 : decode cX8_comment 71 = .ok (.new 66, 3) := by decide +kernel
theorem dX8_comment_74 : decode cX8_comment 74 = .ok (.dup, 1) := by decide +kernel
theorem dX8_comment_75 : decode cX8_comment 75 = .ok (.ldc 152, 2) := by decide +kernel
theorem dX8_comment_77 : decode cX8_comment 77 = .ok (.invokespecial 70, 3) := by decide +kernel
theorem dX8_comment_80 : decode cX8_comment 80 = .ok (.athrow, 1) := by decide +kernel
theorem dX8_comment_81 : decode cX8_comment 81 = .ok (.aload_n 0, 1) := by decide +kernel
theorem dX8_comment_82 : decode cX8_comment 82 = .ok (.getfield 33, 3) := by decide +kernel
theorem dX8_comment_85 : decode cX8_comment 85 = .ok (.iload_n 1, 1) := by decide +kernel
theorem dX8_comment_86 : decode cX8_comment 86 = .ok (.iload_n 3, 1) := by decide +kernel
theorem dX8_comment_87 : decode cX8_comment 87 = .ok (.iload 6, 2) := by decide +kernel
theorem dX8_comment_89 : decode cX8_comment 89 = .ok (.iload 7, 2) := by decide +kernel
theorem dX8_comment_91 : decode cX8_comment 91 = .ok (.invokevirtual 154, 3) := by decide +kernel
theorem dX8_comment_94 : decode cX8_comment 94 = .ok (.istore 9, 2) := by decide +kernel
theorem dX8_comment_96 : decode cX8_comment 96 = .ok (.aload_n 0, 1) := by decide +kernel
theorem dX8_comment_97 : decode cX8_comment 97 = .ok (.getfield 33, 3) := by decide +kernel
theorem dX8_comment_100 : decode cX8_comment 100 = .ok (.iload 9, 2) := by decide +kernel
theorem dX8_comment_102 : decode cX8_comment 102 = .ok (.iload_n 2, 1) := by decide +kernel
theorem dX8_comment_103 : decode cX8_comment 103 = .ok (.iload 8, 2) := by decide +kernel
theorem dX8_comment_105 : decode cX8_comment 105 = .ok (.iload 4, 2) := by decide +kernel
theorem dX8_comment_107 : decode cX8_comment 107 = .ok (.invokevirtual 157, 3) := by decide +kernel
theorem dX8_comment_110 : decode cX8_comment 110 = .ok (.iload 9, 2) := by decide +kernel
theorem dX8_comment_112 : decode cX8_comment 112 = .ok (.ireturn, 1) := by decide +kernel
theorem dX8_told_0 : decode cX8_told 0 = .ok (.aload_n 0, 1) := by decide +kernel
theorem dX8_told_1 : decode cX8_told 1 = .ok (.iload_n 1, 1) := by decide +kernel
theorem dX8_told_2 : decode cX8_told 2 = .ok (.invokevirtual 161, 3) := by decide +kernel
theorem dX8_told_5 : decode cX8_told 5 = .ok (.iload_n 2, 1) := by decide +kernel
theorem dX8_told_6 : decode cX8_told 6 = .ok (.iconst 0, 1) := by decide +kernel
theorem dX8_told_7 : decode cX8_told 7 = .ok (.bipush 6, 2) := by decide +kernel
theorem dX8_told_9 : decode cX8_told 9 = .ok (.invokestatic 58, 3) := by decide +kernel
theorem dX8_told_12 : decode cX8_told 12 = .ok (.iload_n 2, 1) := by decide +kernel
theorem dX8_told_13 : decode cX8_told 13 = .ok (.tableswitch 109 0 5 #[39, 48, 57, 66, 83, 100], 39) := by decide +kernel
theorem dX8_told_52 : decode cX8_told 52 = .ok (.aload_n 0, 1) := by decide +kernel
theorem dX8_told_53 : decode cX8_told 53 = .ok (.getfield 33, 3) := by decide +kernel
theorem dX8_told_56 : decode cX8_told 56 = .ok (.iload_n 1, 1) := by decide +kernel
theorem dX8_told_57 : decode cX8_told 57 = .ok (.invokevirtual 164, 3) := by decide +kernel
theorem dX8_told_60 : decode cX8_told 60 = .ok (.ireturn, 1) := by decide +kernel
theorem dX8_told_61 : decode cX8_told 61 = .ok (.aload_n 0, 1) := by decide +kernel
theorem dX8_told_62 : decode cX8_told 62 = .ok (.getfield 33, 3) := by decide +kernel
theorem dX8_told_65 : decode cX8_told 65 = .ok (.iload_n 1, 1) := by decide +kernel
theorem dX8_told_66 : decode cX8_told 66 = .ok (.invokevirtual 175, 3) := by decide +kernel
theorem dX8_told_69 : decode cX8_told 69 = .ok (.ireturn, 1) := by decide +kernel
theorem dX8_told_70 : decode cX8_told 70 = .ok (.aload_n 0, 1) := by decide +kernel
theorem dX8_told_71 : decode cX8_told 71 = .ok (.getfield 33, 3) := by decide +kernel
theorem dX8_told_74 : decode cX8_told 74 = .ok (.iload_n 1, 1) := by decide +kernel
theorem dX8_told_75 : decode cX8_told 75 = .ok (.invokevirtual 178, 3) := by decide +kernel
theorem dX8_told_78 : decode cX8_told 78 = .ok (.ireturn, 1) := by decide +kernel
theorem dX8_told_79 : decode cX8_told 79 = .ok (.aload_n 0, 1) := by decide +kernel
theorem dX8_told_80 : decode cX8_told 80 = .ok (.getfield 33, 3) := by decide +kernel
theorem dX8_told_83 : decode cX8_told 83 = .ok (.iload_n 1, 1) := by decide +kernel
theorem dX8_told_84 : decode cX8_told 84 = .ok (.invokevirtual 180, 3) := by decide +kernel
theorem dX8_told_87 : decode cX8_told 87 = .ok (.ifCond .eq 7, 3) := by decide +kernel
theorem dX8_told_90 : decode cX8_told 90 = .ok (.iconst 1, 1) := by decide +kernel
theorem dX8_told_91 : decode cX8_told 91 = .ok (.goto 4, 3) := by decide +kernel
theorem dX8_told_94 : decode cX8_told 94 = .ok (.iconst 0, 1) := by decide +kernel
theorem dX8_told_95 : decode cX8_told 95 = .ok (.ireturn, 1) := by decide +kernel
theorem dX8_told_96 : decode cX8_told 96 = .ok (.aload_n 0, 1) := by decide +kernel
theorem dX8_told_97 : decode cX8_told 97 = .ok (.getfield 33, 3) := by decide +kernel
theorem dX8_told_100 : decode cX8_told 100 = .ok (.iload_n 1, 1) := by decide +kernel
theorem dX8_told_101 : decode cX8_told 101 = .ok (.invokevirtual 184, 3) := by decide +kernel
theorem dX8_told_104 : decode cX8_told 104 = .ok (.ifCond .eq 7, 3) := by decide +kernel
theorem dX8_told_107 : decode cX8_told 107 = .ok (.iconst 1, 1) := by decide +kernel
theorem dX8_told_108 : decode cX8_told 108 = .ok (.goto 4, 3) := by decide +kernel
theorem dX8_told_111 : decode cX8_told 111 = .ok (.iconst 0, 1) := by decide +kernel
theorem dX8_told_112 : decode cX8_told 112 = .ok (.ireturn, 1) := by decide +kernel
theorem dX8_told_113 : decode cX8_told 113 = .ok (.aload_n 0, 1) := by decide +kernel
theorem dX8_told_114 : decode cX8_told 114 = .ok (.getfield 33, 3) := by decide +kernel
theorem dX8_told_117 : decode cX8_told 117 = .ok (.iload_n 1, 1) := by decide +kernel
theorem dX8_told_118 : decode cX8_told 118 = .ok (.invokevirtual 187, 3) := by decide +kernel
theorem dX8_told_121 : decode cX8_told 121 = .ok (.ireturn, 1) := by decide +kernel
theorem dX8_told_122 : decode cX8_told 122 = .ok (.aload_n 0, 1) := by decide +kernel
theorem dX8_told_123 : decode cX8_told 123 = .ok (.getfield 33, 3) := by decide +kernel
theorem dX8_told_126 : decode cX8_told 126 = .ok (.iload_n 1, 1) := by decide +kernel
theorem dX8_told_127 : decode cX8_told 127 = .ok (.invokevirtual 190, 3) := by decide +kernel
theorem dX8_told_130 : decode cX8_told 130 = .ok (.ireturn, 1) := by decide +kernel
theorem dX8_needArgument_0 : decode cX8_needArgument 0 = .ok (.iload_n 0, 1) := by decide +kernel
theorem dX8_needArgument_1 : decode cX8_needArgument 1 = .ok (.iload_n 1, 1) := by decide +kernel
theorem dX8_needArgument_2 : decode cX8_needArgument 2 = .ok (.if_icmp .lt 8, 3) := by decide +kernel
theorem dX8_needArgument_5 : decode cX8_needArgument 5 = .ok (.iload_n 0, 1) := by decide +kernel
theorem dX8_needArgument_6 : decode cX8_needArgument 6 = .ok (.iload_n 2, 1) := by decide +kernel
theorem dX8_needArgument_7 : decode cX8_needArgument 7 = .ok (.if_icmp .le 14, 3) := by decide +kernel
theorem dX8_needArgument_10 : decode cX8_needArgument 10 = .ok (.new 283, 3) := by decide +kernel
theorem dX8_needArgument_13 : decode cX8_needArgument 13 = .ok (.dup, 1) := by decide +kernel
theorem dX8_needArgument_14 : decode cX8_needArgument 14 = .ok (.ldc_w 285, 3) := by decide +kernel
theorem dX8_needArgument_17 : decode cX8_needArgument 17 = .ok (.invokespecial 287, 3) := by decide +kernel
theorem dX8_needArgument_20 : decode cX8_needArgument 20 = .ok (.athrow, 1) := by decide +kernel
theorem dX8_needArgument_21 : decode cX8_needArgument 21 = .ok (.return_, 1) := by decide +kernel
theorem dX8_needUnit_0 : decode cX8_needUnit 0 = .ok (.aload_n 0, 1) := by decide +kernel
theorem dX8_needUnit_1 : decode cX8_needUnit 1 = .ok (.getfield 19, 3) := by decide +kernel
theorem dX8_needUnit_4 : decode cX8_needUnit 4 = .ok (.iload_n 1, 1) := by decide +kernel
theorem dX8_needUnit_5 : decode cX8_needUnit 5 = .ok (.invokevirtual 288, 3) := by decide +kernel
theorem dX8_needUnit_8 : decode cX8_needUnit 8 = .ok (.ifCond .ne 14, 3) := by decide +kernel
theorem dX8_needUnit_11 : decode cX8_needUnit 11 = .ok (.new 99, 3) := by decide +kernel
theorem dX8_needUnit_14 : decode cX8_needUnit 14 = .ok (.dup, 1) := by decide +kernel
theorem dX8_needUnit_15 : decode cX8_needUnit 15 = .ok (.ldc_w 290, 3) := by decide +kernel
theorem dX8_needUnit_18 : decode cX8_needUnit 18 = .ok (.invokespecial 103, 3) := by decide +kernel
theorem dX8_needUnit_21 : decode cX8_needUnit 21 = .ok (.athrow, 1) := by decide +kernel
theorem dX8_needUnit_22 : decode cX8_needUnit 22 = .ok (.return_, 1) := by decide +kernel
theorem dX8_needAuthor_0 : decode cX8_needAuthor 0 = .ok (.aload_n 0, 1) := by decide +kernel
theorem dX8_needAuthor_1 : decode cX8_needAuthor 1 = .ok (.getfield 26, 3) := by decide +kernel
theorem dX8_needAuthor_4 : decode cX8_needAuthor 4 = .ok (.iload_n 1, 1) := by decide +kernel
theorem dX8_needAuthor_5 : decode cX8_needAuthor 5 = .ok (.invokevirtual 292, 3) := by decide +kernel
theorem dX8_needAuthor_8 : decode cX8_needAuthor 8 = .ok (.ifCond .ne 14, 3) := by decide +kernel
theorem dX8_needAuthor_11 : decode cX8_needAuthor 11 = .ok (.new 99, 3) := by decide +kernel
theorem dX8_needAuthor_14 : decode cX8_needAuthor 14 = .ok (.dup, 1) := by decide +kernel
theorem dX8_needAuthor_15 : decode cX8_needAuthor 15 = .ok (.ldc_w 293, 3) := by decide +kernel
theorem dX8_needAuthor_18 : decode cX8_needAuthor 18 = .ok (.invokespecial 103, 3) := by decide +kernel
theorem dX8_needAuthor_21 : decode cX8_needAuthor 21 = .ok (.athrow, 1) := by decide +kernel
theorem dX8_needAuthor_22 : decode cX8_needAuthor 22 = .ok (.return_, 1) := by decide +kernel
theorem dX8_needComment_0 : decode cX8_needComment 0 = .ok (.aload_n 0, 1) := by decide +kernel
theorem dX8_needComment_1 : decode cX8_needComment 1 = .ok (.getfield 33, 3) := by decide +kernel
theorem dX8_needComment_4 : decode cX8_needComment 4 = .ok (.iload_n 1, 1) := by decide +kernel
theorem dX8_needComment_5 : decode cX8_needComment 5 = .ok (.invokevirtual 295, 3) := by decide +kernel
theorem dX8_needComment_8 : decode cX8_needComment 8 = .ok (.ifCond .ne 14, 3) := by decide +kernel
theorem dX8_needComment_11 : decode cX8_needComment 11 = .ok (.new 99, 3) := by decide +kernel
theorem dX8_needComment_14 : decode cX8_needComment 14 = .ok (.dup, 1) := by decide +kernel
theorem dX8_needComment_15 : decode cX8_needComment 15 = .ok (.ldc_w 296, 3) := by decide +kernel
theorem dX8_needComment_18 : decode cX8_needComment 18 = .ok (.invokespecial 103, 3) := by decide +kernel
theorem dX8_needComment_21 : decode cX8_needComment 21 = .ok (.athrow, 1) := by decide +kernel
theorem dX8_needComment_22 : decode cX8_needComment 22 = .ok (.return_, 1) := by decide +kernel
theorem dX8_needRoomForComment_0 : decode cX8_needRoomForComment 0 = .ok (.aload_n 0, 1) := by decide +kernel
theorem dX8_needRoomForComment_1 : decode cX8_needRoomForComment 1 = .ok (.getfield 33, 3) := by decide +kernel
theorem dX8_needRoomForComment_4 : decode cX8_needRoomForComment 4 = .ok (.invokevirtual 298, 3) := by decide +kernel
theorem dX8_needRoomForComment_7 : decode cX8_needRoomForComment 7 = .ok (.ifCond .eq 14, 3) := by decide +kernel
theorem dX8_needRoomForComment_10 : decode cX8_needRoomForComment 10 = .ok (.new 66, 3) := by decide +kernel
theorem dX8_needRoomForComment_13 : decode cX8_needRoomForComment 13 = .ok (.dup, 1) := by decide +kernel
theorem dX8_needRoomForComment_14 : decode cX8_needRoomForComment 14 = .ok (.ldc_w 299, 3) := by decide +kernel
theorem dX8_needRoomForComment_17 : decode cX8_needRoomForComment 17 = .ok (.invokespecial 70, 3) := by decide +kernel
theorem dX8_needRoomForComment_20 : decode cX8_needRoomForComment 20 = .ok (.athrow, 1) := by decide +kernel
theorem dX8_needRoomForComment_21 : decode cX8_needRoomForComment 21 = .ok (.return_, 1) := by decide +kernel
theorem dX8_at_0 : decode cX8_at 0 = .ok (.iload_n 1, 1) := by decide +kernel
theorem dX8_at_1 : decode cX8_at 1 = .ok (.ifCond .lt 15, 3) := by decide +kernel
theorem dX8_at_4 : decode cX8_at 4 = .ok (.iload_n 1, 1) := by decide +kernel
theorem dX8_at_5 : decode cX8_at 5 = .ok (.aload_n 0, 1) := by decide +kernel
theorem dX8_at_6 : decode cX8_at 6 = .ok (.arraylength, 1) := by decide +kernel
theorem dX8_at_7 : decode cX8_at 7 = .ok (.if_icmp .ge 9, 3) := by decide +kernel
theorem dX8_at_10 : decode cX8_at 10 = .ok (.aload_n 0, 1) := by decide +kernel
theorem dX8_at_11 : decode cX8_at 11 = .ok (.iload_n 1, 1) := by decide +kernel
theorem dX8_at_12 : decode cX8_at 12 = .ok (.iaload, 1) := by decide +kernel
theorem dX8_at_13 : decode cX8_at 13 = .ok (.goto 4, 3) := by decide +kernel
theorem dX8_at_16 : decode cX8_at 16 = .ok (.iconst (-1), 1) := by decide +kernel
theorem dX8_at_17 : decode cX8_at 17 = .ok (.ireturn, 1) := by decide +kernel
theorem dJ9_abs_0f7a4_0 : decode cJ9_abs_0f7a4 0 = .ok (.iload_n 0, 1) := by decide +kernel
theorem dJ9_abs_0f7a4_1 : decode cJ9_abs_0f7a4 1 = .ok (.ifCond .ge 8, 3) := by decide +kernel
theorem dJ9_abs_0f7a4_4 : decode cJ9_abs_0f7a4 4 = .ok (.iload_n 0, 1) := by decide +kernel
theorem dJ9_abs_0f7a4_5 : decode cJ9_abs_0f7a4 5 = .ok (.ineg, 1) := by decide +kernel
theorem dJ9_abs_0f7a4_6 : decode cJ9_abs_0f7a4 6 = .ok (.goto 4, 3) := by decide +kernel
theorem dJ9_abs_0f7a4_9 : decode cJ9_abs_0f7a4 9 = .ok (.iload_n 0, 1) := by decide +kernel
theorem dJ9_abs_0f7a4_10 : decode cJ9_abs_0f7a4 10 = .ok (.ireturn, 1) := by decide +kernel
theorem dJ9_min_7cf53_0 : decode cJ9_min_7cf53 0 = .ok (.iload_n 0, 1) := by decide +kernel
theorem dJ9_min_7cf53_1 : decode cJ9_min_7cf53 1 = .ok (.iload_n 1, 1) := by decide +kernel
theorem dJ9_min_7cf53_2 : decode cJ9_min_7cf53 2 = .ok (.if_icmp .gt 7, 3) := by decide +kernel
theorem dJ9_min_7cf53_5 : decode cJ9_min_7cf53 5 = .ok (.iload_n 0, 1) := by decide +kernel
theorem dJ9_min_7cf53_6 : decode cJ9_min_7cf53 6 = .ok (.goto 4, 3) := by decide +kernel
theorem dJ9_min_7cf53_9 : decode cJ9_min_7cf53 9 = .ok (.iload_n 1, 1) := by decide +kernel
theorem dJ9_min_7cf53_10 : decode cJ9_min_7cf53 10 = .ok (.ireturn, 1) := by decide +kernel
theorem dJ7_fill_53178_0 : decode cJ7_fill_53178 0 = .ok (.iconst 0, 1) := by decide +kernel
theorem dJ7_fill_53178_1 : decode cJ7_fill_53178 1 = .ok (.istore_n 2, 1) := by decide +kernel
theorem dJ7_fill_53178_2 : decode cJ7_fill_53178 2 = .ok (.aload_n 0, 1) := by decide +kernel
theorem dJ7_fill_53178_3 : decode cJ7_fill_53178 3 = .ok (.arraylength, 1) := by decide +kernel
theorem dJ7_fill_53178_4 : decode cJ7_fill_53178 4 = .ok (.istore_n 3, 1) := by decide +kernel
theorem dJ7_fill_53178_5 : decode cJ7_fill_53178 5 = .ok (.iload_n 2, 1) := by decide +kernel
theorem dJ7_fill_53178_6 : decode cJ7_fill_53178 6 = .ok (.iload_n 3, 1) := by decide +kernel
theorem dJ7_fill_53178_7 : decode cJ7_fill_53178 7 = .ok (.if_icmp .ge 13, 3) := by decide +kernel
theorem dJ7_fill_53178_10 : decode cJ7_fill_53178 10 = .ok (.aload_n 0, 1) := by decide +kernel
theorem dJ7_fill_53178_11 : decode cJ7_fill_53178 11 = .ok (.iload_n 2, 1) := by decide +kernel
theorem dJ7_fill_53178_12 : decode cJ7_fill_53178 12 = .ok (.iload_n 1, 1) := by decide +kernel
theorem dJ7_fill_53178_13 : decode cJ7_fill_53178 13 = .ok (.iastore, 1) := by decide +kernel
theorem dJ7_fill_53178_14 : decode cJ7_fill_53178 14 = .ok (.iinc 2 1, 3) := by decide +kernel
theorem dJ7_fill_53178_17 : decode cJ7_fill_53178 17 = .ok (.goto (-12), 3) := by decide +kernel
theorem dJ7_fill_53178_20 : decode cJ7_fill_53178 20 = .ok (.return_, 1) := by decide +kernel
end
section
theorem dL_up_0 : decode cL_up 0 = .ok (.iload_n 0, 1) := by decide +kernel
theorem dL_up_1 : decode cL_up 1 = .ok (.iconst 2, 1) := by decide +kernel
theorem dL_up_2 : decode cL_up 2 = .ok (.iushr, 1) := by decide +kernel
theorem dL_up_3 : decode cL_up 3 = .ok (.iload_n 1, 1) := by decide +kernel
theorem dL_up_4 : decode cL_up 4 = .ok (.irem, 1) := by decide +kernel
theorem dL_up_5 : decode cL_up 5 = .ok (.ireturn, 1) := by decide +kernel
theorem dL_cell_0 : decode cL_cell 0 = .ok (.aload_n 0, 1) := by decide +kernel
theorem dL_cell_1 : decode cL_cell 1 = .ok (.arraylength, 1) := by decide +kernel
theorem dL_cell_2 : decode cL_cell 2 = .ok (.ifCond .ne 7, 3) := by decide +kernel
theorem dL_cell_5 : decode cL_cell 5 = .ok (.iconst 0, 1) := by decide +kernel
theorem dL_cell_6 : decode cL_cell 6 = .ok (.goto 14, 3) := by decide +kernel
theorem dL_cell_9 : decode cL_cell 9 = .ok (.aload_n 0, 1) := by decide +kernel
theorem dL_cell_10 : decode cL_cell 10 = .ok (.iload_n 1, 1) := by decide +kernel
theorem dL_cell_11 : decode cL_cell 11 = .ok (.aload_n 0, 1) := by decide +kernel
theorem dL_cell_12 : decode cL_cell 12 = .ok (.arraylength, 1) := by decide +kernel
theorem dL_cell_13 : decode cL_cell 13 = .ok (.irem, 1) := by decide +kernel
theorem dL_cell_14 : decode cL_cell 14 = .ok (.iaload, 1) := by decide +kernel
theorem dL_cell_15 : decode cL_cell 15 = .ok (.bipush 31, 2) := by decide +kernel
theorem dL_cell_17 : decode cL_cell 17 = .ok (.iload_n 1, 1) := by decide +kernel
theorem dL_cell_18 : decode cL_cell 18 = .ok (.imul, 1) := by decide +kernel
theorem dL_cell_19 : decode cL_cell 19 = .ok (.iadd, 1) := by decide +kernel
theorem dL_cell_20 : decode cL_cell 20 = .ok (.ireturn, 1) := by decide +kernel
theorem dL_comment_0 : decode cL_comment 0 = .ok (.aload_n 0, 1) := by decide +kernel
theorem dL_comment_1 : decode cL_comment 1 = .ok (.iconst 0, 1) := by decide +kernel
theorem dL_comment_2 : decode cL_comment 2 = .ok (.iconst 0, 1) := by decide +kernel
theorem dL_comment_3 : decode cL_comment 3 = .ok (.iconst 4, 1) := by decide +kernel
theorem dL_comment_4 : decode cL_comment 4 = .ok (.iload_n 1, 1) := by decide +kernel
theorem dL_comment_5 : decode cL_comment 5 = .ok (.iload_n 2, 1) := by decide +kernel
theorem dL_comment_6 : decode cL_comment 6 = .ok (.iconst 1, 1) := by decide +kernel
theorem dL_comment_7 : decode cL_comment 7 = .ok (.iload_n 1, 1) := by decide +kernel
theorem dL_comment_8 : decode cL_comment 8 = .ok (.iconst 2, 1) := by decide +kernel
theorem dL_comment_9 : decode cL_comment 9 = .ok (.irem, 1) := by decide +kernel
theorem dL_comment_10 : decode cL_comment 10 = .ok (.invokevirtual 9, 3) := by decide +kernel
theorem dL_comment_13 : decode cL_comment 13 = .ok (.ireturn, 1) := by decide +kernel
theorem dL_comment_14 : decode cL_comment 14 = .ok (.astore_n 3, 1) := by decide +kernel
theorem dL_comment_15 : decode cL_comment 15 = .ok (.sipush (-1003), 3) := by decide +kernel
theorem dL_comment_18 : decode cL_comment 18 = .ok (.ireturn, 1) := by decide +kernel
theorem dL_emend_0 : decode cL_emend 0 = .ok (.aload_n 0, 1) := by decide +kernel
theorem dL_emend_1 : decode cL_emend 1 = .ok (.iconst 0, 1) := by decide +kernel
theorem dL_emend_2 : decode cL_emend 2 = .ok (.iload_n 1, 1) := by decide +kernel
theorem dL_emend_3 : decode cL_emend 3 = .ok (.iload_n 2, 1) := by decide +kernel
theorem dL_emend_4 : decode cL_emend 4 = .ok (.invokevirtual 15, 3) := by decide +kernel
theorem dL_emend_7 : decode cL_emend 7 = .ok (.ireturn, 1) := by decide +kernel
theorem dL_emend_8 : decode cL_emend 8 = .ok (.astore_n 3, 1) := by decide +kernel
theorem dL_emend_9 : decode cL_emend 9 = .ok (.sipush (-1001), 3) := by decide +kernel
theorem dL_emend_12 : decode cL_emend 12 = .ok (.ireturn, 1) := by decide +kernel
theorem dL_emend_13 : decode cL_emend 13 = .ok (.astore_n 3, 1) := by decide +kernel
theorem dL_emend_14 : decode cL_emend 14 = .ok (.sipush (-1003), 3) := by decide +kernel
theorem dL_emend_17 : decode cL_emend 17 = .ok (.ireturn, 1) := by decide +kernel
theorem dL_nth_0 : decode cL_nth 0 = .ok (.iconst (-1), 1) := by decide +kernel
theorem dL_nth_1 : decode cL_nth 1 = .ok (.istore 4, 2) := by decide +kernel
theorem dL_nth_3 : decode cL_nth 3 = .ok (.iload_n 3, 1) := by decide +kernel
theorem dL_nth_4 : decode cL_nth 4 = .ok (.istore 5, 2) := by decide +kernel
theorem dL_nth_6 : decode cL_nth 6 = .ok (.iconst 0, 1) := by decide +kernel
theorem dL_nth_7 : decode cL_nth 7 = .ok (.istore 6, 2) := by decide +kernel
theorem dL_nth_9 : decode cL_nth 9 = .ok (.iload 6, 2) := by decide +kernel
theorem dL_nth_11 : decode cL_nth 11 = .ok (.iload_n 1, 1) := by decide +kernel
theorem dL_nth_12 : decode cL_nth 12 = .ok (.if_icmp .ge 49, 3) := by decide +kernel
theorem dL_nth_15 : decode cL_nth 15 = .ok (.iload 5, 2) := by decide +kernel
theorem dL_nth_17 : decode cL_nth 17 = .ok (.aload_n 0, 1) := by decide +kernel
theorem dL_nth_18 : decode cL_nth 18 = .ok (.iload 6, 2) := by decide +kernel
theorem dL_nth_20 : decode cL_nth 20 = .ok (.iaload, 1) := by decide +kernel
theorem dL_nth_21 : decode cL_nth 21 = .ok (.iload_n 2, 1) := by decide +kernel
theorem dL_nth_22 : decode cL_nth 22 = .ok (.if_icmp .ne 7, 3) := by decide +kernel
theorem dL_nth_25 : decode cL_nth 25 = .ok (.iconst 1, 1) := by decide +kernel
theorem dL_nth_26 : decode cL_nth 26 = .ok (.goto 4, 3) := by decide +kernel
theorem dL_nth_29 : decode cL_nth 29 = .ok (.iconst 0, 1) := by decide +kernel
theorem dL_nth_30 : decode cL_nth 30 = .ok (.isub, 1) := by decide +kernel
theorem dL_nth_31 : decode cL_nth 31 = .ok (.istore 5, 2) := by decide +kernel
theorem dL_nth_33 : decode cL_nth 33 = .ok (.aload_n 0, 1) := by decide +kernel
theorem dL_nth_34 : decode cL_nth 34 = .ok (.iload 6, 2) := by decide +kernel
theorem dL_nth_36 : decode cL_nth 36 = .ok (.iaload, 1) := by decide +kernel
theorem dL_nth_37 : decode cL_nth 37 = .ok (.iload_n 2, 1) := by decide +kernel
theorem dL_nth_38 : decode cL_nth 38 = .ok (.if_icmp .ne 13, 3) := by decide +kernel
theorem dL_nth_41 : decode cL_nth 41 = .ok (.iload 5, 2) := by decide +kernel
theorem dL_nth_43 : decode cL_nth 43 = .ok (.ifCond .ne 8, 3) := by decide +kernel
theorem dL_nth_46 : decode cL_nth 46 = .ok (.iload 6, 2) := by decide +kernel
theorem dL_nth_48 : decode cL_nth 48 = .ok (.goto 5, 3) := by decide +kernel
theorem dL_nth_51 : decode cL_nth 51 = .ok (.iload 4, 2) := by decide +kernel
theorem dL_nth_53 : decode cL_nth 53 = .ok (.istore 4, 2) := by decide +kernel
theorem dL_nth_55 : decode cL_nth 55 = .ok (.iinc 6 1, 3) := by decide +kernel
theorem dL_nth_58 : decode cL_nth 58 = .ok (.goto (-49), 3) := by decide +kernel
theorem dL_nth_61 : decode cL_nth 61 = .ok (.iload 4, 2) := by decide +kernel
theorem dL_nth_63 : decode cL_nth 63 = .ok (.ireturn, 1) := by decide +kernel
theorem dL_near_0 : decode cL_near 0 = .ok (.iconst 0, 1) := by decide +kernel
theorem dL_near_1 : decode cL_near 1 = .ok (.istore 4, 2) := by decide +kernel
theorem dL_near_3 : decode cL_near 3 = .ok (.iload 4, 2) := by decide +kernel
theorem dL_near_5 : decode cL_near 5 = .ok (.bipush 12, 2) := by decide +kernel
theorem dL_near_7 : decode cL_near 7 = .ok (.if_icmp .ge 62, 3) := by decide +kernel
theorem dL_near_10 : decode cL_near 10 = .ok (.iload_n 3, 1) := by decide +kernel
theorem dL_near_11 : decode cL_near 11 = .ok (.iload 4, 2) := by decide +kernel
theorem dL_near_13 : decode cL_near 13 = .ok (.isub, 1) := by decide +kernel
theorem dL_near_14 : decode cL_near 14 = .ok (.ifCond .lt 26, 3) := by decide +kernel
theorem dL_near_17 : decode cL_near 17 = .ok (.iload_n 3, 1) := by decide +kernel
theorem dL_near_18 : decode cL_near 18 = .ok (.iload 4, 2) := by decide +kernel
theorem dL_near_20 : decode cL_near 20 = .ok (.isub, 1) := by decide +kernel
theorem dL_near_21 : decode cL_near 21 = .ok (.iload_n 1, 1) := by decide +kernel
theorem dL_near_22 : decode cL_near 22 = .ok (.if_icmp .ge 18, 3) := by decide +kernel
theorem dL_near_25 : decode cL_near 25 = .ok (.aload_n 0, 1) := by decide +kernel
theorem dL_near_26 : decode cL_near 26 = .ok (.iload_n 3, 1) := by decide +kernel
theorem dL_near_27 : decode cL_near 27 = .ok (.iload 4, 2) := by decide +kernel
theorem dL_near_29 : decode cL_near 29 = .ok (.isub, 1) := by decide +kernel
theorem dL_near_30 : decode cL_near 30 = .ok (.iaload, 1) := by decide +kernel
theorem dL_near_31 : decode cL_near 31 = .ok (.iload_n 2, 1) := by decide +kernel
theorem dL_near_32 : decode cL_near 32 = .ok (.if_icmp .ne 8, 3) := by decide +kernel
theorem dL_near_35 : decode cL_near 35 = .ok (.iload_n 3, 1) := by decide +kernel
theorem dL_near_36 : decode cL_near 36 = .ok (.iload 4, 2) := by decide +kernel
theorem dL_near_38 : decode cL_near 38 = .ok (.isub, 1) := by decide +kernel
theorem dL_near_39 : decode cL_near 39 = .ok (.ireturn, 1) := by decide +kernel
theorem dL_near_40 : decode cL_near 40 = .ok (.iload_n 3, 1) := by decide +kernel
theorem dL_near_41 : decode cL_near 41 = .ok (.iload 4, 2) := by decide +kernel
theorem dL_near_43 : decode cL_near 43 = .ok (.iadd, 1) := by decide +kernel
theorem dL_near_44 : decode cL_near 44 = .ok (.iload_n 1, 1) := by decide +kernel
theorem dL_near_45 : decode cL_near 45 = .ok (.if_icmp .ge 18, 3) := by decide +kernel
theorem dL_near_48 : decode cL_near 48 = .ok (.aload_n 0, 1) := by decide +kernel
theorem dL_near_49 : decode cL_near 49 = .ok (.iload_n 3, 1) := by decide +kernel
theorem dL_near_50 : decode cL_near 50 = .ok (.iload 4, 2) := by decide +kernel
theorem dL_near_52 : decode cL_near 52 = .ok (.iadd, 1) := by decide +kernel
theorem dL_near_53 : decode cL_near 53 = .ok (.iaload, 1) := by decide +kernel
theorem dL_near_54 : decode cL_near 54 = .ok (.iload_n 2, 1) := by decide +kernel
theorem dL_near_55 : decode cL_near 55 = .ok (.if_icmp .ne 8, 3) := by decide +kernel
theorem dL_near_58 : decode cL_near 58 = .ok (.iload_n 3, 1) := by decide +kernel
theorem dL_near_59 : decode cL_near 59 = .ok (.iload 4, 2) := by decide +kernel
theorem dL_near_61 : decode cL_near 61 = .ok (.iadd, 1) := by decide +kernel
theorem dL_near_62 : decode cL_near 62 = .ok (.ireturn, 1) := by decide +kernel
theorem dL_near_63 : decode cL_near 63 = .ok (.iinc 4 1, 3) := by decide +kernel
theorem dL_near_66 : decode cL_near 66 = .ok (.goto (-63), 3) := by decide +kernel
theorem dL_near_69 : decode cL_near 69 = .ok (.iconst (-1), 1) := by decide +kernel
theorem dL_near_70 : decode cL_near 70 = .ok (.ireturn, 1) := by decide +kernel
theorem dL_law_0 : decode cL_law 0 = .ok (.new 7, 3) := by decide +kernel
theorem dL_law_3 : decode cL_law 3 = .ok (.dup, 1) := by decide +kernel
theorem dL_law_4 : decode cL_law 4 = .ok (.invokespecial 21, 3) := by decide +kernel
theorem dL_law_7 : decode cL_law 7 = .ok (.astore_n 1, 1) := by decide +kernel
theorem dL_law_8 : decode cL_law 8 = .ok (.bipush 12, 2) := by decide +kernel
theorem dL_law_10 : decode cL_law 10 = .ok (.newarray .int, 2) := by decide +kernel
theorem dL_law_12 : decode cL_law 12 = .ok (.astore_n 2, 1) := by decide +kernel
theorem dL_law_13 : decode cL_law 13 = .ok (.bipush 60, 2) := by decide +kernel
theorem dL_law_15 : decode cL_law 15 = .ok (.newarray .int, 2) := by decide +kernel
theorem dL_law_17 : decode cL_law 17 = .ok (.astore_n 3, 1) := by decide +kernel
theorem dL_law_18 : decode cL_law 18 = .ok (.bipush 60, 2) := by decide +kernel
theorem dL_law_20 : decode cL_law 20 = .ok (.newarray .int, 2) := by decide +kernel
theorem dL_law_22 : decode cL_law 22 = .ok (.astore 4, 2) := by decide +kernel
theorem dL_law_24 : decode cL_law 24 = .ok (.bipush 60, 2) := by decide +kernel
theorem dL_law_26 : decode cL_law 26 = .ok (.newarray .int, 2) := by decide +kernel
theorem dL_law_28 : decode cL_law 28 = .ok (.astore 5, 2) := by decide +kernel
theorem dL_law_30 : decode cL_law 30 = .ok (.iconst 4, 1) := by decide +kernel
theorem dL_law_31 : decode cL_law 31 = .ok (.aload_n 0, 1) := by decide +kernel
theorem dL_law_32 : decode cL_law 32 = .ok (.bipush 60, 2) := by decide +kernel
theorem dL_law_34 : decode cL_law 34 = .ok (.invokestatic 22, 3) := by decide +kernel
theorem dL_law_37 : decode cL_law 37 = .ok (.bipush 9, 2) := by decide +kernel
theorem dL_law_39 : decode cL_law 39 = .ok (.invokestatic 28, 3) := by decide +kernel
theorem dL_law_42 : decode cL_law 42 = .ok (.iadd, 1) := by decide +kernel
theorem dL_law_43 : decode cL_law 43 = .ok (.istore 6, 2) := by decide +kernel
theorem dL_law_45 : decode cL_law 45 = .ok (.iconst 0, 1) := by decide +kernel
theorem dL_law_46 : decode cL_law 46 = .ok (.istore 7, 2) := by decide +kernel
theorem dL_law_48 : decode cL_law 48 = .ok (.iload 7, 2) := by decide +kernel
theorem dL_law_50 : decode cL_law 50 = .ok (.iload 6, 2) := by decide +kernel
theorem dL_law_52 : decode cL_law 52 = .ok (.if_icmp .ge 35, 3) := by decide +kernel
theorem dL_law_55 : decode cL_law 55 = .ok (.aload_n 2, 1) := by decide +kernel
theorem dL_law_56 : decode cL_law 56 = .ok (.iload 7, 2) := by decide +kernel
theorem dL_law_58 : decode cL_law 58 = .ok (.aload_n 0, 1) := by decide +kernel
theorem dL_law_59 : decode cL_law 59 = .ok (.bipush 61, 2) := by decide +kernel
theorem dL_law_61 : decode cL_law 61 = .ok (.iload 7, 2) := by decide +kernel
theorem dL_law_63 : decode cL_law 63 = .ok (.iadd, 1) := by decide +kernel
theorem dL_law_64 : decode cL_law 64 = .ok (.invokestatic 22, 3) := by decide +kernel
theorem dL_law_67 : decode cL_law 67 = .ok (.iconst 4, 1) := by decide +kernel
theorem dL_law_68 : decode cL_law 68 = .ok (.invokestatic 28, 3) := by decide +kernel
theorem dL_law_71 : decode cL_law 71 = .ok (.iastore, 1) := by decide +kernel
theorem dL_law_72 : decode cL_law 72 = .ok (.aload_n 1, 1) := by decide +kernel
theorem dL_law_73 : decode cL_law 73 = .ok (.aload_n 2, 1) := by decide +kernel
theorem dL_law_74 : decode cL_law 74 = .ok (.iload 7, 2) := by decide +kernel
theorem dL_law_76 : decode cL_law 76 = .ok (.iaload, 1) := by decide +kernel
theorem dL_law_77 : decode cL_law 77 = .ok (.invokevirtual 32, 3) := by decide +kernel
theorem dL_law_80 : decode cL_law 80 = .ok (.pop, 1) := by decide +kernel
theorem dL_law_81 : decode cL_law 81 = .ok (.iinc 7 1, 3) := by decide +kernel
theorem dL_law_84 : decode cL_law 84 = .ok (.goto (-36), 3) := by decide +kernel
theorem dL_law_87 : decode cL_law 87 = .ok (.aload_n 1, 1) := by decide +kernel
theorem dL_law_88 : decode cL_law 88 = .ok (.invokevirtual 36, 3) := by decide +kernel
theorem dL_law_91 : decode cL_law 91 = .ok (.ifCond .ne 17, 3) := by decide +kernel
theorem dL_law_94 : decode cL_law 94 = .ok (.aload_n 1, 1) := by decide +kernel
theorem dL_law_95 : decode cL_law 95 = .ok (.iconst 5, 1) := by decide +kernel
theorem dL_law_96 : decode cL_law 96 = .ok (.iconst 0, 1) := by decide +kernel
theorem dL_law_97 : decode cL_law 97 = .ok (.iconst 0, 1) := by decide +kernel
theorem dL_law_98 : decode cL_law 98 = .ok (.invokevirtual 40, 3) := by decide +kernel
theorem dL_law_101 : decode cL_law 101 = .ok (.ifCond .ne 7, 3) := by decide +kernel
theorem dL_law_104 : decode cL_law 104 = .ok (.iconst 1, 1) := by decide +kernel
theorem dL_law_105 : decode cL_law 105 = .ok (.goto 4, 3) := by decide +kernel
theorem dL_law_108 : decode cL_law 108 = .ok (.iconst 0, 1) := by decide +kernel
theorem dL_law_109 : decode cL_law 109 = .ok (.istore 7, 2) := by decide +kernel
theorem dL_law_111 : decode cL_law 111 = .ok (.iconst 0, 1) := by decide +kernel
theorem dL_law_112 : decode cL_law 112 = .ok (.istore 8, 2) := by decide +kernel
theorem dL_law_114 : decode cL_law 114 = .ok (.iconst 0, 1) := by decide +kernel
theorem dL_law_115 : decode cL_law 115 = .ok (.istore 9, 2) := by decide +kernel
theorem dL_law_117 : decode cL_law 117 = .ok (.iload 9, 2) := by decide +kernel
theorem dL_law_119 : decode cL_law 119 = .ok (.bipush 55, 2) := by decide +kernel
theorem dL_law_121 : decode cL_law 121 = .ok (.if_icmp .ge 581, 3) := by decide +kernel
theorem dL_law_124 : decode cL_law 124 = .ok (.iload 7, 2) := by decide +kernel
theorem dL_law_126 : decode cL_law 126 = .ok (.ifCond .eq 576, 3) := by decide +kernel
theorem dL_law_129 : decode cL_law 129 = .ok (.aload_n 0, 1) := by decide +kernel
theorem dL_law_130 : decode cL_law 130 = .ok (.iload 9, 2) := by decide +kernel
theorem dL_law_132 : decode cL_law 132 = .ok (.invokestatic 22, 3) := by decide +kernel
theorem dL_law_135 : decode cL_law 135 = .ok (.istore 10, 2) := by decide +kernel
theorem dL_law_137 : decode cL_law 137 = .ok (.iload 10, 2) := by decide +kernel
theorem dL_law_139 : decode cL_law 139 = .ok (.iconst 3, 1) := by decide +kernel
theorem dL_law_140 : decode cL_law 140 = .ok (.invokestatic 28, 3) := by decide +kernel
theorem dL_law_143 : decode cL_law 143 = .ok (.ifCond .ne 100, 3) := by decide +kernel
theorem dL_law_146 : decode cL_law 146 = .ok (.iload 10, 2) := by decide +kernel
theorem dL_law_148 : decode cL_law 148 = .ok (.bipush 8, 2) := by decide +kernel
theorem dL_law_150 : decode cL_law 150 = .ok (.idiv, 1) := by decide +kernel
theorem dL_law_151 : decode cL_law 151 = .ok (.iconst 4, 1) := by decide +kernel
theorem dL_law_152 : decode cL_law 152 = .ok (.invokestatic 28, 3) := by decide +kernel
theorem dL_law_155 : decode cL_law 155 = .ok (.istore 11, 2) := by decide +kernel
theorem dL_law_157 : decode cL_law 157 = .ok (.iconst 1, 1) := by decide +kernel
theorem dL_law_158 : decode cL_law 158 = .ok (.iload 10, 2) := by decide +kernel
theorem dL_law_160 : decode cL_law 160 = .ok (.bipush 32, 2) := by decide +kernel
theorem dL_law_162 : decode cL_law 162 = .ok (.idiv, 1) := by decide +kernel
theorem dL_law_163 : decode cL_law 163 = .ok (.iconst 3, 1) := by decide +kernel
theorem dL_law_164 : decode cL_law 164 = .ok (.invokestatic 28, 3) := by decide +kernel
theorem dL_law_167 : decode cL_law 167 = .ok (.iadd, 1) := by decide +kernel
theorem dL_law_168 : decode cL_law 168 = .ok (.istore 12, 2) := by decide +kernel
theorem dL_law_170 : decode cL_law 170 = .ok (.aload_n 2, 1) := by decide +kernel
theorem dL_law_171 : decode cL_law 171 = .ok (.iload 6, 2) := by decide +kernel
theorem dL_law_173 : decode cL_law 173 = .ok (.iload 11, 2) := by decide +kernel
theorem dL_law_175 : decode cL_law 175 = .ok (.iload 12, 2) := by decide +kernel
theorem dL_law_177 : decode cL_law 177 = .ok (.invokestatic 43, 3) := by decide +kernel
theorem dL_law_180 : decode cL_law 180 = .ok (.istore 13, 2) := by decide +kernel
theorem dL_law_182 : decode cL_law 182 = .ok (.aload_n 1, 1) := by decide +kernel
theorem dL_law_183 : decode cL_law 183 = .ok (.iload 11, 2) := by decide +kernel
theorem dL_law_185 : decode cL_law 185 = .ok (.iload 12, 2) := by decide +kernel
theorem dL_law_187 : decode cL_law 187 = .ok (.invokestatic 47, 3) := by decide +kernel
theorem dL_law_190 : decode cL_law 190 = .ok (.iload 13, 2) := by decide +kernel
theorem dL_law_192 : decode cL_law 192 = .ok (.ifCond .ge 9, 3) := by decide +kernel
theorem dL_law_195 : decode cL_law 195 = .ok (.sipush (-1003), 3) := by decide +kernel
theorem dL_law_198 : decode cL_law 198 = .ok (.goto 5, 3) := by decide +kernel
theorem dL_law_201 : decode cL_law 201 = .ok (.iload 8, 2) := by decide +kernel
theorem dL_law_203 : decode cL_law 203 = .ok (.if_icmp .ne 7, 3) := by decide +kernel
theorem dL_law_206 : decode cL_law 206 = .ok (.iconst 1, 1) := by decide +kernel
theorem dL_law_207 : decode cL_law 207 = .ok (.goto 4, 3) := by decide +kernel
theorem dL_law_210 : decode cL_law 210 = .ok (.iconst 0, 1) := by decide +kernel
theorem dL_law_211 : decode cL_law 211 = .ok (.istore 7, 2) := by decide +kernel
theorem dL_law_213 : decode cL_law 213 = .ok (.iload 13, 2) := by decide +kernel
theorem dL_law_215 : decode cL_law 215 = .ok (.ifCond .lt 25, 3) := by decide +kernel
theorem dL_law_218 : decode cL_law 218 = .ok (.aload_n 3, 1) := by decide +kernel
theorem dL_law_219 : decode cL_law 219 = .ok (.iload 8, 2) := by decide +kernel
theorem dL_law_221 : decode cL_law 221 = .ok (.iload 11, 2) := by decide +kernel
theorem dL_law_223 : decode cL_law 223 = .ok (.iastore, 1) := by decide +kernel
theorem dL_law_224 : decode cL_law 224 = .ok (.aload 4, 2) := by decide +kernel
theorem dL_law_226 : decode cL_law 226 = .ok (.iload 8, 2) := by decide +kernel
theorem dL_law_228 : decode cL_law 228 = .ok (.iload 13, 2) := by decide +kernel
theorem dL_law_230 : decode cL_law 230 = .ok (.iastore, 1) := by decide +kernel
theorem dL_law_231 : decode cL_law 231 = .ok (.aload 5, 2) := by decide +kernel
theorem dL_law_233 : decode cL_law 233 = .ok (.iload 8, 2) := by decide +kernel
theorem dL_law_235 : decode cL_law 235 = .ok (.iconst 0, 1) := by decide +kernel
theorem dL_law_236 : decode cL_law 236 = .ok (.iastore, 1) := by decide +kernel
theorem dL_law_237 : decode cL_law 237 = .ok (.iinc 8 1, 3) := by decide +kernel
theorem dL_law_240 : decode cL_law 240 = .ok (.goto 335, 3) := by decide +kernel
theorem dL_law_243 : decode cL_law 243 = .ok (.iload 10, 2) := by decide +kernel
theorem dL_law_245 : decode cL_law 245 = .ok (.bipush 8, 2) := by decide +kernel
theorem dL_law_247 : decode cL_law 247 = .ok (.idiv, 1) := by decide +kernel
theorem dL_law_248 : decode cL_law 248 = .ok (.bipush 13, 2) := by decide +kernel
theorem dL_law_250 : decode cL_law 250 = .ok (.invokestatic 28, 3) := by decide +kernel
theorem dL_law_253 : decode cL_law 253 = .ok (.istore 11, 2) := by decide +kernel
theorem dL_law_255 : decode cL_law 255 = .ok (.iload 10, 2) := by decide +kernel
theorem dL_law_257 : decode cL_law 257 = .ok (.sipush 128, 3) := by decide +kernel
theorem dL_law_260 : decode cL_law 260 = .ok (.idiv, 1) := by decide +kernel
theorem dL_law_261 : decode cL_law 261 = .ok (.bipush 6, 2) := by decide +kernel
theorem dL_law_263 : decode cL_law 263 = .ok (.invokestatic 28, 3) := by decide +kernel
theorem dL_law_266 : decode cL_law 266 = .ok (.ifCond .ne 7, 3) := by decide +kernel
theorem dL_law_269 : decode cL_law 269 = .ok (.iconst (-1), 1) := by decide +kernel
theorem dL_law_270 : decode cL_law 270 = .ok (.goto 13, 3) := by decide +kernel
theorem dL_law_273 : decode cL_law 273 = .ok (.iload 10, 2) := by decide +kernel
theorem dL_law_275 : decode cL_law 275 = .ok (.sipush 1024, 3) := by decide +kernel
theorem dL_law_278 : decode cL_law 278 = .ok (.idiv, 1) := by decide +kernel
theorem dL_law_279 : decode cL_law 279 = .ok (.iconst 4, 1) := by decide +kernel
theorem dL_law_280 : decode cL_law 280 = .ok (.invokestatic 28, 3) := by decide +kernel
theorem dL_law_283 : decode cL_law 283 = .ok (.istore 12, 2) := by decide +kernel
theorem dL_law_285 : decode cL_law 285 = .ok (.iload 12, 2) := by decide +kernel
theorem dL_law_287 : decode cL_law 287 = .ok (.ifCond .ge 7, 3) := by decide +kernel
theorem dL_law_290 : decode cL_law 290 = .ok (.iconst 1, 1) := by decide +kernel
theorem dL_law_291 : decode cL_law 291 = .ok (.goto 4, 3) := by decide +kernel
theorem dL_law_294 : decode cL_law 294 = .ok (.iconst 0, 1) := by decide +kernel
theorem dL_law_295 : decode cL_law 295 = .ok (.istore 13, 2) := by decide +kernel
theorem dL_law_297 : decode cL_law 297 = .ok (.iload 11, 2) := by decide +kernel
theorem dL_law_299 : decode cL_law 299 = .ok (.iload 6, 2) := by decide +kernel
theorem dL_law_301 : decode cL_law 301 = .ok (.if_icmp .lt 9, 3) := by decide +kernel
theorem dL_law_304 : decode cL_law 304 = .ok (.sipush (-1001), 3) := by decide +kernel
theorem dL_law_307 : decode cL_law 307 = .ok (.goto 21, 3) := by decide +kernel
theorem dL_law_310 : decode cL_law 310 = .ok (.iload 13, 2) := by decide +kernel
theorem dL_law_312 : decode cL_law 312 = .ok (.ifCond .eq 15, 3) := by decide +kernel
theorem dL_law_315 : decode cL_law 315 = .ok (.iload 6, 2) := by decide +kernel
theorem dL_law_317 : decode cL_law 317 = .ok (.iconst 1, 1) := by decide +kernel
theorem dL_law_318 : decode cL_law 318 = .ok (.if_icmp .ne 9, 3) := by decide +kernel
theorem dL_law_321 : decode cL_law 321 = .ok (.sipush (-1003), 3) := by decide +kernel
theorem dL_law_324 : decode cL_law 324 = .ok (.goto 4, 3) := by decide +kernel
theorem dL_law_327 : decode cL_law 327 = .ok (.iconst 0, 1) := by decide +kernel
theorem dL_law_328 : decode cL_law 328 = .ok (.istore 14, 2) := by decide +kernel
theorem dL_law_330 : decode cL_law 330 = .ok (.iload 14, 2) := by decide +kernel
theorem dL_law_332 : decode cL_law 332 = .ok (.ifCond .ne 223, 3) := by decide +kernel
theorem dL_law_335 : decode cL_law 335 = .ok (.iload 11, 2) := by decide +kernel
theorem dL_law_337 : decode cL_law 337 = .ok (.istore 15, 2) := by decide +kernel
theorem dL_law_339 : decode cL_law 339 = .ok (.iload 15, 2) := by decide +kernel
theorem dL_law_341 : decode cL_law 341 = .ok (.iload 6, 2) := by decide +kernel
theorem dL_law_343 : decode cL_law 343 = .ok (.iconst 1, 1) := by decide +kernel
theorem dL_law_344 : decode cL_law 344 = .ok (.isub, 1) := by decide +kernel
theorem dL_law_345 : decode cL_law 345 = .ok (.if_icmp .ge 24, 3) := by decide +kernel
theorem dL_law_348 : decode cL_law 348 = .ok (.iload 13, 2) := by decide +kernel
theorem dL_law_350 : decode cL_law 350 = .ok (.ifCond .eq 19, 3) := by decide +kernel
theorem dL_law_353 : decode cL_law 353 = .ok (.aload_n 2, 1) := by decide +kernel
theorem dL_law_354 : decode cL_law 354 = .ok (.iload 15, 2) := by decide +kernel
theorem dL_law_356 : decode cL_law 356 = .ok (.aload_n 2, 1) := by decide +kernel
theorem dL_law_357 : decode cL_law 357 = .ok (.iload 15, 2) := by decide +kernel
theorem dL_law_359 : decode cL_law 359 = .ok (.iconst 1, 1) := by decide +kernel
theorem dL_law_360 : decode cL_law 360 = .ok (.iadd, 1) := by decide +kernel
theorem dL_law_361 : decode cL_law 361 = .ok (.iaload, 1) := by decide +kernel
theorem dL_law_362 : decode cL_law 362 = .ok (.iastore, 1) := by decide +kernel
theorem dL_law_363 : decode cL_law 363 = .ok (.iinc 15 1, 3) := by decide +kernel
theorem dL_law_366 : decode cL_law 366 = .ok (.goto (-27), 3) := by decide +kernel
theorem dL_law_369 : decode cL_law 369 = .ok (.iload 6, 2) := by decide +kernel
theorem dL_law_371 : decode cL_law 371 = .ok (.iload 13, 2) := by decide +kernel
theorem dL_law_373 : decode cL_law 373 = .ok (.ifCond .eq 7, 3) := by decide +kernel
theorem dL_law_376 : decode cL_law 376 = .ok (.iconst 1, 1) := by decide +kernel
theorem dL_law_377 : decode cL_law 377 = .ok (.goto 4, 3) := by decide +kernel
theorem dL_law_380 : decode cL_law 380 = .ok (.iconst 0, 1) := by decide +kernel
theorem dL_law_381 : decode cL_law 381 = .ok (.isub, 1) := by decide +kernel
theorem dL_law_382 : decode cL_law 382 = .ok (.istore 6, 2) := by decide +kernel
theorem dL_law_384 : decode cL_law 384 = .ok (.aload_n 2, 1) := by decide +kernel
theorem dL_law_385 : decode cL_law 385 = .ok (.iload 11, 2) := by decide +kernel
theorem dL_law_387 : decode cL_law 387 = .ok (.iload 13, 2) := by decide +kernel
theorem dL_law_389 : decode cL_law 389 = .ok (.ifCond .eq 10, 3) := by decide +kernel
theorem dL_law_392 : decode cL_law 392 = .ok (.aload_n 2, 1) := by decide +kernel
theorem dL_law_393 : decode cL_law 393 = .ok (.iload 11, 2) := by decide +kernel
theorem dL_law_395 : decode cL_law 395 = .ok (.iaload, 1) := by decide +kernel
theorem dL_law_396 : decode cL_law 396 = .ok (.goto 5, 3) := by decide +kernel
theorem dL_law_399 : decode cL_law 399 = .ok (.iload 12, 2) := by decide +kernel
theorem dL_law_401 : decode cL_law 401 = .ok (.iastore, 1) := by decide +kernel
theorem dL_law_402 : decode cL_law 402 = .ok (.iconst 0, 1) := by decide +kernel
theorem dL_law_403 : decode cL_law 403 = .ok (.istore 15, 2) := by decide +kernel
theorem dL_law_405 : decode cL_law 405 = .ok (.iload 15, 2) := by decide +kernel
theorem dL_law_407 : decode cL_law 407 = .ok (.iload 8, 2) := by decide +kernel
theorem dL_law_409 : decode cL_law 409 = .ok (.if_icmp .ge 146, 3) := by decide +kernel
theorem dL_law_412 : decode cL_law 412 = .ok (.iload 13, 2) := by decide +kernel
theorem dL_law_414 : decode cL_law 414 = .ok (.ifCond .eq 23, 3) := by decide +kernel
theorem dL_law_417 : decode cL_law 417 = .ok (.aload 4, 2) := by decide +kernel
theorem dL_law_419 : decode cL_law 419 = .ok (.iload 15, 2) := by decide +kernel
theorem dL_law_421 : decode cL_law 421 = .ok (.iaload, 1) := by decide +kernel
theorem dL_law_422 : decode cL_law 422 = .ok (.iload 11, 2) := by decide +kernel
theorem dL_law_424 : decode cL_law 424 = .ok (.if_icmp .le 13, 3) := by decide +kernel
theorem dL_law_427 : decode cL_law 427 = .ok (.aload 4, 2) := by decide +kernel
theorem dL_law_429 : decode cL_law 429 = .ok (.iload 15, 2) := by decide +kernel
theorem dL_law_431 : decode cL_law 431 = .ok (.iaload, 1) := by decide +kernel
theorem dL_law_432 : decode cL_law 432 = .ok (.iconst 1, 1) := by decide +kernel
theorem dL_law_433 : decode cL_law 433 = .ok (.isub, 1) := by decide +kernel
theorem dL_law_434 : decode cL_law 434 = .ok (.goto 30, 3) := by decide +kernel
theorem dL_law_437 : decode cL_law 437 = .ok (.iload 13, 2) := by decide +kernel
theorem dL_law_439 : decode cL_law 439 = .ok (.ifCond .eq 20, 3) := by decide +kernel
theorem dL_law_442 : decode cL_law 442 = .ok (.aload 4, 2) := by decide +kernel
theorem dL_law_444 : decode cL_law 444 = .ok (.iload 15, 2) := by decide +kernel
theorem dL_law_446 : decode cL_law 446 = .ok (.iaload, 1) := by decide +kernel
theorem dL_law_447 : decode cL_law 447 = .ok (.iload 6, 2) := by decide +kernel
theorem dL_law_449 : decode cL_law 449 = .ok (.if_icmp .lt 10, 3) := by decide +kernel
theorem dL_law_452 : decode cL_law 452 = .ok (.iload 6, 2) := by decide +kernel
theorem dL_law_454 : decode cL_law 454 = .ok (.iconst 1, 1) := by decide +kernel
theorem dL_law_455 : decode cL_law 455 = .ok (.isub, 1) := by decide +kernel
theorem dL_law_456 : decode cL_law 456 = .ok (.goto 8, 3) := by decide +kernel
theorem dL_law_459 : decode cL_law 459 = .ok (.aload 4, 2) := by decide +kernel
theorem dL_law_461 : decode cL_law 461 = .ok (.iload 15, 2) := by decide +kernel
theorem dL_law_463 : decode cL_law 463 = .ok (.iaload, 1) := by decide +kernel
theorem dL_law_464 : decode cL_law 464 = .ok (.istore 16, 2) := by decide +kernel
theorem dL_law_466 : decode cL_law 466 = .ok (.aload_n 2, 1) := by decide +kernel
theorem dL_law_467 : decode cL_law 467 = .ok (.iload 6, 2) := by decide +kernel
theorem dL_law_469 : decode cL_law 469 = .ok (.aload_n 3, 1) := by decide +kernel
theorem dL_law_470 : decode cL_law 470 = .ok (.iload 15, 2) := by decide +kernel
theorem dL_law_472 : decode cL_law 472 = .ok (.iaload, 1) := by decide +kernel
theorem dL_law_473 : decode cL_law 473 = .ok (.iload 16, 2) := by decide +kernel
theorem dL_law_475 : decode cL_law 475 = .ok (.invokestatic 50, 3) := by decide +kernel
theorem dL_law_478 : decode cL_law 478 = .ok (.istore 17, 2) := by decide +kernel
theorem dL_law_480 : decode cL_law 480 = .ok (.iload 14, 2) := by decide +kernel
theorem dL_law_482 : decode cL_law 482 = .ok (.iload 17, 2) := by decide +kernel
theorem dL_law_484 : decode cL_law 484 = .ok (.ifCond .ge 7, 3) := by decide +kernel
theorem dL_law_487 : decode cL_law 487 = .ok (.iconst 1, 1) := by decide +kernel
theorem dL_law_488 : decode cL_law 488 = .ok (.goto 4, 3) := by decide +kernel
theorem dL_law_491 : decode cL_law 491 = .ok (.iconst 0, 1) := by decide +kernel
theorem dL_law_492 : decode cL_law 492 = .ok (.aload 5, 2) := by decide +kernel
theorem dL_law_494 : decode cL_law 494 = .ok (.iload 15, 2) := by decide +kernel
theorem dL_law_496 : decode cL_law 496 = .ok (.iaload, 1) := by decide +kernel
theorem dL_law_497 : decode cL_law 497 = .ok (.iconst 1, 1) := by decide +kernel
theorem dL_law_498 : decode cL_law 498 = .ok (.if_icmp .ne 7, 3) := by decide +kernel
theorem dL_law_501 : decode cL_law 501 = .ok (.iconst 1, 1) := by decide +kernel
theorem dL_law_502 : decode cL_law 502 = .ok (.goto 4, 3) := by decide +kernel
theorem dL_law_505 : decode cL_law 505 = .ok (.iconst 0, 1) := by decide +kernel
theorem dL_law_506 : decode cL_law 506 = .ok (.if_icmp .ne 7, 3) := by decide +kernel
theorem dL_law_509 : decode cL_law 509 = .ok (.iconst 0, 1) := by decide +kernel
theorem dL_law_510 : decode cL_law 510 = .ok (.goto 4, 3) := by decide +kernel
theorem dL_law_513 : decode cL_law 513 = .ok (.iconst 1, 1) := by decide +kernel
theorem dL_law_514 : decode cL_law 514 = .ok (.iadd, 1) := by decide +kernel
theorem dL_law_515 : decode cL_law 515 = .ok (.istore 14, 2) := by decide +kernel
theorem dL_law_517 : decode cL_law 517 = .ok (.aload 5, 2) := by decide +kernel
theorem dL_law_519 : decode cL_law 519 = .ok (.iload 15, 2) := by decide +kernel
theorem dL_law_521 : decode cL_law 521 = .ok (.iload 17, 2) := by decide +kernel
theorem dL_law_523 : decode cL_law 523 = .ok (.ifCond .ge 7, 3) := by decide +kernel
theorem dL_law_526 : decode cL_law 526 = .ok (.iconst 1, 1) := by decide +kernel
theorem dL_law_527 : decode cL_law 527 = .ok (.goto 4, 3) := by decide +kernel
theorem dL_law_530 : decode cL_law 530 = .ok (.iconst 0, 1) := by decide +kernel
theorem dL_law_531 : decode cL_law 531 = .ok (.iastore, 1) := by decide +kernel
theorem dL_law_532 : decode cL_law 532 = .ok (.aload 4, 2) := by decide +kernel
theorem dL_law_534 : decode cL_law 534 = .ok (.iload 15, 2) := by decide +kernel
theorem dL_law_536 : decode cL_law 536 = .ok (.iload 17, 2) := by decide +kernel
theorem dL_law_538 : decode cL_law 538 = .ok (.ifCond .ge 8, 3) := by decide +kernel
theorem dL_law_541 : decode cL_law 541 = .ok (.iload 16, 2) := by decide +kernel
theorem dL_law_543 : decode cL_law 543 = .ok (.goto 5, 3) := by decide +kernel
theorem dL_law_546 : decode cL_law 546 = .ok (.iload 17, 2) := by decide +kernel
theorem dL_law_548 : decode cL_law 548 = .ok (.iastore, 1) := by decide +kernel
theorem dL_law_549 : decode cL_law 549 = .ok (.iinc 15 1, 3) := by decide +kernel
theorem dL_law_552 : decode cL_law 552 = .ok (.goto (-147), 3) := by decide +kernel
theorem dL_law_555 : decode cL_law 555 = .ok (.aload_n 1, 1) := by decide +kernel
theorem dL_law_556 : decode cL_law 556 = .ok (.iload 11, 2) := by decide +kernel
theorem dL_law_558 : decode cL_law 558 = .ok (.iload 12, 2) := by decide +kernel
theorem dL_law_560 : decode cL_law 560 = .ok (.invokestatic 53, 3) := by decide +kernel
theorem dL_law_563 : decode cL_law 563 = .ok (.iload 14, 2) := by decide +kernel
theorem dL_law_565 : decode cL_law 565 = .ok (.if_icmp .ne 7, 3) := by decide +kernel
theorem dL_law_568 : decode cL_law 568 = .ok (.iconst 1, 1) := by decide +kernel
theorem dL_law_569 : decode cL_law 569 = .ok (.goto 4, 3) := by decide +kernel
theorem dL_law_572 : decode cL_law 572 = .ok (.iconst 0, 1) := by decide +kernel
theorem dL_law_573 : decode cL_law 573 = .ok (.istore 7, 2) := by decide +kernel
theorem dL_law_575 : decode cL_law 575 = .ok (.iconst 0, 1) := by decide +kernel
theorem dL_law_576 : decode cL_law 576 = .ok (.istore 11, 2) := by decide +kernel
theorem dL_law_578 : decode cL_law 578 = .ok (.iload 11, 2) := by decide +kernel
theorem dL_law_580 : decode cL_law 580 = .ok (.iload 8, 2) := by decide +kernel
theorem dL_law_582 : decode cL_law 582 = .ok (.if_icmp .ge 61, 3) := by decide +kernel
theorem dL_law_585 : decode cL_law 585 = .ok (.iload 7, 2) := by decide +kernel
theorem dL_law_587 : decode cL_law 587 = .ok (.ifCond .eq 47, 3) := by decide +kernel
theorem dL_law_590 : decode cL_law 590 = .ok (.aload_n 1, 1) := by decide +kernel
theorem dL_law_591 : decode cL_law 591 = .ok (.iload 11, 2) := by decide +kernel
theorem dL_law_593 : decode cL_law 593 = .ok (.iconst 2, 1) := by decide +kernel
theorem dL_law_594 : decode cL_law 594 = .ok (.invokevirtual 55, 3) := by decide +kernel
theorem dL_law_597 : decode cL_law 597 = .ok (.aload 4, 2) := by decide +kernel
theorem dL_law_599 : decode cL_law 599 = .ok (.iload 11, 2) := by decide +kernel
theorem dL_law_601 : decode cL_law 601 = .ok (.iaload, 1) := by decide +kernel
theorem dL_law_602 : decode cL_law 602 = .ok (.if_icmp .ne 32, 3) := by decide +kernel
theorem dL_law_605 : decode cL_law 605 = .ok (.aload_n 1, 1) := by decide +kernel
theorem dL_law_606 : decode cL_law 606 = .ok (.iload 11, 2) := by decide +kernel
theorem dL_law_608 : decode cL_law 608 = .ok (.iconst 3, 1) := by decide +kernel
theorem dL_law_609 : decode cL_law 609 = .ok (.invokevirtual 55, 3) := by decide +kernel
theorem dL_law_612 : decode cL_law 612 = .ok (.aload 5, 2) := by decide +kernel
theorem dL_law_614 : decode cL_law 614 = .ok (.iload 11, 2) := by decide +kernel
theorem dL_law_616 : decode cL_law 616 = .ok (.iaload, 1) := by decide +kernel
theorem dL_law_617 : decode cL_law 617 = .ok (.if_icmp .ne 17, 3) := by decide +kernel
theorem dL_law_620 : decode cL_law 620 = .ok (.aload_n 1, 1) := by decide +kernel
theorem dL_law_621 : decode cL_law 621 = .ok (.iload 11, 2) := by decide +kernel
theorem dL_law_623 : decode cL_law 623 = .ok (.iconst 1, 1) := by decide +kernel
theorem dL_law_624 : decode cL_law 624 = .ok (.invokevirtual 55, 3) := by decide +kernel
theorem dL_law_627 : decode cL_law 627 = .ok (.ifCond .ne 7, 3) := by decide +kernel
theorem dL_law_630 : decode cL_law 630 = .ok (.iconst 1, 1) := by decide +kernel
theorem dL_law_631 : decode cL_law 631 = .ok (.goto 4, 3) := by decide +kernel
theorem dL_law_634 : decode cL_law 634 = .ok (.iconst 0, 1) := by decide +kernel
theorem dL_law_635 : decode cL_law 635 = .ok (.istore 7, 2) := by decide +kernel
theorem dL_law_637 : decode cL_law 637 = .ok (.iinc 11 1, 3) := by decide +kernel
theorem dL_law_640 : decode cL_law 640 = .ok (.goto (-62), 3) := by decide +kernel
theorem dL_law_643 : decode cL_law 643 = .ok (.iconst 0, 1) := by decide +kernel
theorem dL_law_644 : decode cL_law 644 = .ok (.istore 11, 2) := by decide +kernel
theorem dL_law_646 : decode cL_law 646 = .ok (.iload 11, 2) := by decide +kernel
theorem dL_law_648 : decode cL_law 648 = .ok (.bipush 13, 2) := by decide +kernel
theorem dL_law_650 : decode cL_law 650 = .ok (.if_icmp .ge 46, 3) := by decide +kernel
theorem dL_law_653 : decode cL_law 653 = .ok (.iload 7, 2) := by decide +kernel
theorem dL_law_655 : decode cL_law 655 = .ok (.ifCond .eq 32, 3) := by decide +kernel
theorem dL_law_658 : decode cL_law 658 = .ok (.aload_n 1, 1) := by decide +kernel
theorem dL_law_659 : decode cL_law 659 = .ok (.iconst 0, 1) := by decide +kernel
theorem dL_law_660 : decode cL_law 660 = .ok (.iload 11, 2) := by decide +kernel
theorem dL_law_662 : decode cL_law 662 = .ok (.invokevirtual 58, 3) := by decide +kernel
theorem dL_law_665 : decode cL_law 665 = .ok (.iload 11, 2) := by decide +kernel
theorem dL_law_667 : decode cL_law 667 = .ok (.iload 6, 2) := by decide +kernel
theorem dL_law_669 : decode cL_law 669 = .ok (.if_icmp .ge 10, 3) := by decide +kernel
theorem dL_law_672 : decode cL_law 672 = .ok (.aload_n 2, 1) := by decide +kernel
theorem dL_law_673 : decode cL_law 673 = .ok (.iload 11, 2) := by decide +kernel
theorem dL_law_675 : decode cL_law 675 = .ok (.iaload, 1) := by decide +kernel
theorem dL_law_676 : decode cL_law 676 = .ok (.goto 4, 3) := by decide +kernel
theorem dL_law_679 : decode cL_law 679 = .ok (.iconst (-1), 1) := by decide +kernel
theorem dL_law_680 : decode cL_law 680 = .ok (.if_icmp .ne 7, 3) := by decide +kernel
theorem dL_law_683 : decode cL_law 683 = .ok (.iconst 1, 1) := by decide +kernel
theorem dL_law_684 : decode cL_law 684 = .ok (.goto 4, 3) := by decide +kernel
theorem dL_law_687 : decode cL_law 687 = .ok (.iconst 0, 1) := by decide +kernel
theorem dL_law_688 : decode cL_law 688 = .ok (.istore 7, 2) := by decide +kernel
theorem dL_law_690 : decode cL_law 690 = .ok (.iinc 11 1, 3) := by decide +kernel
theorem dL_law_693 : decode cL_law 693 = .ok (.goto (-47), 3) := by decide +kernel
theorem dL_law_696 : decode cL_law 696 = .ok (.iinc 9 1, 3) := by decide +kernel
theorem dL_law_699 : decode cL_law 699 = .ok (.goto (-582), 3) := by decide +kernel
theorem dL_law_702 : decode cL_law 702 = .ok (.iload 7, 2) := by decide +kernel
theorem dL_law_704 : decode cL_law 704 = .ok (.ireturn, 1) := by decide +kernel
end
section
/-! THE WALK'S ROWS over a world that a state S draws (S.1: int fields by number, S.2: rows of ints by number); the mirror of a method is an option program over whole numbers -/
def WS : List Cond := lw_tbl.filter goodWord
theorem WS_in {w : Cond} (i : Nat) (h : lw_tbl[i]? = some w) (g : goodWord w = true) : w ∈ WS := List.mem_filter.mpr ⟨List.mem_of_getElem? h, g⟩
theorem WS_tbl : ∀ w ∈ WS, w ∈ lw_tbl := fun w h => (List.mem_filter.mp h).1
theorem WS_good {w : Cond} (h : w ∈ WS) : goodWord w = true := (List.mem_filter.mp h).2
theorem WS_sub {big ws : List Cond} (hb : ∀ w ∈ WS, w ∈ big) (h : ∀ w ∈ ws, w ∈ WS) : GoodIn big ws := fun w hw => ⟨hb w (h w hw), good_of_word (WS_good (h w hw))⟩
def zI (x : Int) : Int32 := Int32.ofInt x
abbrev inR (x : Int) : Prop := -2147483648 ≤ x ∧ x < 2147483648
abbrev zSt : Type := (Nat → Int) × (Nat → Int → Int)
abbrev zRes : Type := Int × zSt
def zA (a : Int → Int) : Nat → Int32 := fun j => zI (a (j : Int))
def zset (S : zSt) (j : Nat) (v : Int) : zSt := (fun q => if q = j then v else S.1 q, S.2)
def zput (S : zSt) (j : Nat) (i v : Int) : zSt := (S.1, fun q => if q = j then (fun t => if t = i then v else S.2 j t) else S.2 q)
def zfil (S : zSt) (j : Nat) (v : Int) : zSt := (S.1, fun q => if q = j then (fun _ => v) else S.2 q)
def RG (bs : List Nat) (S : zSt) : Prop := (∀ k, inR (S.1 k)) ∧ (∀ k j, inR (S.2 k j)) ∧ ∀ k ∈ bs, ∀ j, S.2 k j = 0 ∨ S.2 k j = 1
theorem RG_set {bs : List Nat} {S : zSt} (h : RG bs S) {j : Nat} {v : Int} (hv : inR v) : RG bs (zset S j v) := by
  refine ⟨fun k => ?_, h.2⟩
  show inR (if k = j then v else S.1 k)
  by_cases e : k = j
  · rw [if_pos e]; exact hv
  · rw [if_neg e]; exact h.1 k
theorem RG_put {bs : List Nat} {S : zSt} (h : RG bs S) {j : Nat} {i v : Int} (hv : inR v) (hb : j ∈ bs → v = 0 ∨ v = 1) : RG bs (zput S j i v) := by
  have e1 : ∀ k t, (zput S j i v).2 k t = if k = j then (if t = i then v else S.2 j t) else S.2 k t := by
    intro k t
    show (if k = j then (fun t => if t = i then v else S.2 j t) else S.2 k) t = _
    by_cases e : k = j
    · rw [if_pos e, if_pos e]
    · rw [if_neg e, if_neg e]
  refine ⟨h.1, fun k t => ?_, fun k hk t => ?_⟩
  · rw [e1]
    by_cases e : k = j
    · rw [if_pos e]
      by_cases e2 : t = i
      · rw [if_pos e2]; exact hv
      · rw [if_neg e2]; exact h.2.1 j t
    · rw [if_neg e]; exact h.2.1 k t
  · rw [e1]
    by_cases e : k = j
    · rw [if_pos e]
      by_cases e2 : t = i
      · rw [if_pos e2]; exact hb (e ▸ hk)
      · rw [if_neg e2]; exact h.2.2 j (e ▸ hk) t
    · rw [if_neg e]; exact h.2.2 k hk t
theorem RG_fil {bs : List Nat} {S : zSt} (h : RG bs S) {j : Nat} {v : Int} (hv : inR v) (hb : j ∉ bs) : RG bs (zfil S j v) := by
  have e1 : ∀ k t, (zfil S j v).2 k t = if k = j then v else S.2 k t := by
    intro k t
    show (if k = j then (fun _ => v) else S.2 k) t = _
    by_cases e : k = j
    · rw [if_pos e, if_pos e]
    · rw [if_neg e, if_neg e]
  refine ⟨h.1, fun k t => ?_, fun k hk t => ?_⟩
  · rw [e1]
    by_cases e : k = j
    · rw [if_pos e]; exact hv
    · rw [if_neg e]; exact h.2.1 k t
  · rw [e1]
    by_cases e : k = j
    · exact absurd (e ▸ hk) hb
    · rw [if_neg e]; exact h.2.2 k hk t
-- the numbers
theorem zI_toInt {x : Int} (h : inR x) : (zI x).toInt = x := Int32.toInt_ofInt_of_le (by have := h.1; omega) (by have := h.2; omega)
theorem zI_of (x : Int32) : zI x.toInt = x := Int32.ofInt_toInt x
theorem inR_of (x : Int32) : inR x.toInt := ⟨by have := Int32.le_toInt x; omega, by have := Int32.toInt_lt x; omega⟩
theorem zI_lt {a b : Int} (ha : inR a) (hb : inR b) : zI a < zI b ↔ a < b := by rw [Int32.lt_iff_toInt_lt, zI_toInt ha, zI_toInt hb]
theorem zI_le {a b : Int} (ha : inR a) (hb : inR b) : zI a ≤ zI b ↔ a ≤ b := by rw [Int32.le_iff_toInt_le, zI_toInt ha, zI_toInt hb]
theorem zI_eq {a b : Int} (ha : inR a) (hb : inR b) : zI a = zI b ↔ a = b := ⟨fun h => by rw [← zI_toInt ha, h, zI_toInt hb], fun h => by rw [h]⟩
theorem zI_zero : (0 : Int32) = zI 0 := by decide
theorem inR_0 : inR 0 := by decide
theorem zI_add (a b : Int) : zI a + zI b = zI (a + b) := (Int32.ofInt_add a b).symm
theorem zI_sub (a b : Int) : zI a - zI b = zI (a - b) := (Int32.ofInt_sub a b).symm
theorem zI_mul (a b : Int) : zI a * zI b = zI (a * b) := (Int32.ofInt_mul a b).symm
theorem inR_div {a b : Int} (ha : inR a) (h0 : 0 ≤ a) (hb : 0 < b) : inR (a / b) := by
  have h1 : 0 ≤ a / b := Int.ediv_nonneg h0 (Int.le_of_lt hb)
  have h2 : a / b ≤ a := Int.ediv_le_self b h0
  have := ha.2
  exact ⟨by omega, by omega⟩
theorem inR_mod {a b : Int} (hb' : inR b) (hb : 0 < b) : inR (a % b) := by
  have h1 : 0 ≤ a % b := Int.emod_nonneg a (by omega)
  have h2 : a % b < b := Int.emod_lt_of_pos a hb
  have := hb'.2
  exact ⟨by omega, by omega⟩
theorem zI_div {a b : Int} (ha : inR a) (hb : inR b) (h0 : 0 ≤ a) (h1 : 0 < b) : zI a / zI b = zI (a / b) := by
  apply Int32.toInt_inj.mp
  have hne : zI b ≠ -1 := by
    intro h
    have : zI b = zI (-1) := h
    rw [zI_eq hb (by decide)] at this
    omega
  rw [Int32.toInt_div_of_ne_right _ _ hne, zI_toInt ha, zI_toInt hb, zI_toInt (inR_div ha h0 h1), Int.tdiv_eq_ediv_of_nonneg h0]
theorem zI_rem {a b : Int} (ha : inR a) (hb : inR b) (h0 : 0 ≤ a) (h1 : 0 < b) : zI a - zI a / zI b * zI b = zI (a % b) := by
  rw [zI_div ha hb h0 h1, zI_mul, zI_sub]
  congr 1
  have := Int.emod_add_mul_ediv a b
  have h2 : a / b * b = b * (a / b) := Int.mul_comm _ _
  omega
theorem zI_clamp {i : Int} (h : inR i) : (zI i).toNatClampNeg = i.toNat := by
  show (zI i).toInt.toNat = _
  rw [zI_toInt h]
theorem zvp_in {i : Int} {n : Nat} (hi : inR i) (h : 0 ≤ i ∧ i < (n : Int)) : vp_in (zI i) n := vp_in_iff.mpr (by rw [zI_toInt hi]; exact h)
theorem zA_at {a : Int → Int} {i : Int} (h0 : 0 ≤ i) : zA a i.toNat = zI (a i) := by
  show zI (a ((i.toNat : Nat) : Int)) = _
  rw [Int.toNat_of_nonneg h0]
theorem zA_put {a : Int → Int} {i v : Int} (h0 : 0 ≤ i) : upd (zA a) i.toNat (zI v) = zA (fun t => if t = i then v else a t) := by
  funext j
  show (if j = i.toNat then zI v else zI (a j)) = zI (if (j : Int) = i then v else a j)
  by_cases e : j = i.toNat
  · rw [if_pos e, if_pos (by omega)]
  · rw [if_neg e, if_neg (by omega)]
theorem zA_fil {v : Int} : (fun _ : Nat => zI v) = zA (fun _ => v) := rfl
theorem z01_nar {x : Int} (h : x = 0 ∨ x = 1) : vp_nar .boolean (zI x) = zI x := by
  rcases h with rfl | rfl <;> decide
theorem z01_narrow {x : Int} (h : x = 0 ∨ x = 1) : narrow .boolean (.int (zI x)) = .int (zI x) := by
  rcases h with rfl | rfl <;> decide
-- the mirror's words
section Words
variable {R : Type}
def zlt {α : Type} (e : α) (k : α → Option R) : Option R := k e
def zar (e : Int) (k : Int → Option R) : Option R := if inR e then k e else none
def zld (a : Int → Int) (n i : Int) (k : Int → Option R) : Option R := if 0 ≤ i ∧ i < n then k (a i) else none
def zst (S : zSt) (j : Nat) (n i v : Int) (k : zSt → Option R) : Option R := if 0 ≤ i ∧ i < n then k (zput S j i v) else none
def zbd (x : Option zRes) (k : Int → zSt → Option R) : Option R := match x with
  | none => none
  | some q => k q.1 q.2
def zdv (a b : Int) (k : Int → Option R) : Option R := if 0 ≤ a ∧ 0 < b then k (a / b) else none
def zrm (a b : Int) (k : Int → Option R) : Option R := if 0 ≤ a ∧ 0 < b then k (a % b) else none
def zc01 (x : Int) (k : Option R) : Option R := if x = 0 ∨ x = 1 then k else none
theorem zar_e {e : Int} {k : Int → Option R} {r : R} (h : zar e k = some r) : inR e ∧ k e = some r := by
  unfold zar at h
  by_cases c : inR e
  · rw [if_pos c] at h; exact ⟨c, h⟩
  · rw [if_neg c] at h; cases h
theorem zld_e {a : Int → Int} {n i : Int} {k : Int → Option R} {r : R} (h : zld a n i k = some r) : (0 ≤ i ∧ i < n) ∧ k (a i) = some r := by
  unfold zld at h
  by_cases c : 0 ≤ i ∧ i < n
  · rw [if_pos c] at h; exact ⟨c, h⟩
  · rw [if_neg c] at h; cases h
theorem zst_e {S : zSt} {j : Nat} {n i v : Int} {k : zSt → Option R} {r : R} (h : zst S j n i v k = some r) : (0 ≤ i ∧ i < n) ∧ k (zput S j i v) = some r := by
  unfold zst at h
  by_cases c : 0 ≤ i ∧ i < n
  · rw [if_pos c] at h; exact ⟨c, h⟩
  · rw [if_neg c] at h; cases h
theorem zdv_e {a b : Int} {k : Int → Option R} {r : R} (h : zdv a b k = some r) : (0 ≤ a ∧ 0 < b) ∧ k (a / b) = some r := by
  unfold zdv at h
  by_cases c : 0 ≤ a ∧ 0 < b
  · rw [if_pos c] at h; exact ⟨c, h⟩
  · rw [if_neg c] at h; cases h
theorem zrm_e {a b : Int} {k : Int → Option R} {r : R} (h : zrm a b k = some r) : (0 ≤ a ∧ 0 < b) ∧ k (a % b) = some r := by
  unfold zrm at h
  by_cases c : 0 ≤ a ∧ 0 < b
  · rw [if_pos c] at h; exact ⟨c, h⟩
  · rw [if_neg c] at h; cases h
theorem zc01_e {x : Int} {k : Option R} {r : R} (h : zc01 x k = some r) : (x = 0 ∨ x = 1) ∧ k = some r := by
  unfold zc01 at h
  by_cases c : x = 0 ∨ x = 1
  · rw [if_pos c] at h; exact ⟨c, h⟩
  · rw [if_neg c] at h; cases h
theorem zbd_e {x : Option zRes} {k : Int → zSt → Option R} {r : R} (h : zbd x k = some r) : ∃ (v : Int) (S : zSt), x = some (v, S) ∧ k v S = some r := by
  cases x with
  | none => cases h
  | some q => exact ⟨q.1, q.2, rfl, h⟩
theorem zif_e {c : Prop} [Decidable c] {A B : Option R} {r : R} (h : (if c then A else B) = some r) : (c → A = some r) ∧ (¬ c → B = some r) := ⟨fun q => by rw [if_pos q] at h; exact h, fun q => by rw [if_neg q] at h; exact h⟩

def zj0 (K : zSt → Option R) (body : (zSt → Option R) → Option R) : Option R := body K
theorem zj0_e {K : zSt → Option R} {body : (zSt → Option R) → Option R} {r : R} {PJ : zSt → Prop} {G : Prop} (h : zj0 K body = some r) (hK : ∀ (S : zSt), K  S = some r → PJ  S) (hb : ∀ K' : zSt → Option R, (∀ (S : zSt), K'  S = some r → PJ  S) → body K' = some r → G) : G := hb K hK h
noncomputable def zl0 (n : Nat) (F : (zSt → Option R) → zSt → Option R) : zSt → Option R := Nat.rec (motive := fun _ => zSt → Option R) (fun _ => none) (fun _ ih => F ih) n
theorem zl0_e {F : (zSt → Option R) → zSt → Option R} {r : R} (PJ : zSt → Prop) (hs : ∀ (rec : zSt → Option R) (S : zSt), (∀ (S : zSt), rec  S = some r → PJ  S) → F rec  S = some r → PJ  S) : ∀ (n : Nat) (S : zSt), zl0 n F  S = some r → PJ  S := by
  intro n
  induction n with
  | zero => intro  S h; cases h
  | succ n ih => intro  S h; exact hs (zl0 n F)  S ih h
def zj1 (K : Int → zSt → Option R) (body : (Int → zSt → Option R) → Option R) : Option R := body K
theorem zj1_e {K : Int → zSt → Option R} {body : (Int → zSt → Option R) → Option R} {r : R} {PJ : Int → zSt → Prop} {G : Prop} (h : zj1 K body = some r) (hK : ∀ (a0 : Int) (S : zSt), K a0 S = some r → PJ a0 S) (hb : ∀ K' : Int → zSt → Option R, (∀ (a0 : Int) (S : zSt), K' a0 S = some r → PJ a0 S) → body K' = some r → G) : G := hb K hK h
noncomputable def zl1 (n : Nat) (F : (Int → zSt → Option R) → Int → zSt → Option R) : Int → zSt → Option R := Nat.rec (motive := fun _ => Int → zSt → Option R) (fun _ _ => none) (fun _ ih => F ih) n
theorem zl1_e {F : (Int → zSt → Option R) → Int → zSt → Option R} {r : R} (PJ : Int → zSt → Prop) (hs : ∀ (rec : Int → zSt → Option R) (a0 : Int) (S : zSt), (∀ (a0 : Int) (S : zSt), rec a0 S = some r → PJ a0 S) → F rec a0 S = some r → PJ a0 S) : ∀ (n : Nat) (a0 : Int) (S : zSt), zl1 n F a0 S = some r → PJ a0 S := by
  intro n
  induction n with
  | zero => intro a0 S h; cases h
  | succ n ih => intro a0 S h; exact hs (zl1 n F) a0 S ih h
def zj2 (K : Int → Int → zSt → Option R) (body : (Int → Int → zSt → Option R) → Option R) : Option R := body K
theorem zj2_e {K : Int → Int → zSt → Option R} {body : (Int → Int → zSt → Option R) → Option R} {r : R} {PJ : Int → Int → zSt → Prop} {G : Prop} (h : zj2 K body = some r) (hK : ∀ (a0 a1 : Int) (S : zSt), K a0 a1 S = some r → PJ a0 a1 S) (hb : ∀ K' : Int → Int → zSt → Option R, (∀ (a0 a1 : Int) (S : zSt), K' a0 a1 S = some r → PJ a0 a1 S) → body K' = some r → G) : G := hb K hK h
noncomputable def zl2 (n : Nat) (F : (Int → Int → zSt → Option R) → Int → Int → zSt → Option R) : Int → Int → zSt → Option R := Nat.rec (motive := fun _ => Int → Int → zSt → Option R) (fun _ _ _ => none) (fun _ ih => F ih) n
theorem zl2_e {F : (Int → Int → zSt → Option R) → Int → Int → zSt → Option R} {r : R} (PJ : Int → Int → zSt → Prop) (hs : ∀ (rec : Int → Int → zSt → Option R) (a0 a1 : Int) (S : zSt), (∀ (a0 a1 : Int) (S : zSt), rec a0 a1 S = some r → PJ a0 a1 S) → F rec a0 a1 S = some r → PJ a0 a1 S) : ∀ (n : Nat) (a0 a1 : Int) (S : zSt), zl2 n F a0 a1 S = some r → PJ a0 a1 S := by
  intro n
  induction n with
  | zero => intro a0 a1 S h; cases h
  | succ n ih => intro a0 a1 S h; exact hs (zl2 n F) a0 a1 S ih h
def zj3 (K : Int → Int → Int → zSt → Option R) (body : (Int → Int → Int → zSt → Option R) → Option R) : Option R := body K
theorem zj3_e {K : Int → Int → Int → zSt → Option R} {body : (Int → Int → Int → zSt → Option R) → Option R} {r : R} {PJ : Int → Int → Int → zSt → Prop} {G : Prop} (h : zj3 K body = some r) (hK : ∀ (a0 a1 a2 : Int) (S : zSt), K a0 a1 a2 S = some r → PJ a0 a1 a2 S) (hb : ∀ K' : Int → Int → Int → zSt → Option R, (∀ (a0 a1 a2 : Int) (S : zSt), K' a0 a1 a2 S = some r → PJ a0 a1 a2 S) → body K' = some r → G) : G := hb K hK h
noncomputable def zl3 (n : Nat) (F : (Int → Int → Int → zSt → Option R) → Int → Int → Int → zSt → Option R) : Int → Int → Int → zSt → Option R := Nat.rec (motive := fun _ => Int → Int → Int → zSt → Option R) (fun _ _ _ _ => none) (fun _ ih => F ih) n
theorem zl3_e {F : (Int → Int → Int → zSt → Option R) → Int → Int → Int → zSt → Option R} {r : R} (PJ : Int → Int → Int → zSt → Prop) (hs : ∀ (rec : Int → Int → Int → zSt → Option R) (a0 a1 a2 : Int) (S : zSt), (∀ (a0 a1 a2 : Int) (S : zSt), rec a0 a1 a2 S = some r → PJ a0 a1 a2 S) → F rec a0 a1 a2 S = some r → PJ a0 a1 a2 S) : ∀ (n : Nat) (a0 a1 a2 : Int) (S : zSt), zl3 n F a0 a1 a2 S = some r → PJ a0 a1 a2 S := by
  intro n
  induction n with
  | zero => intro a0 a1 a2 S h; cases h
  | succ n ih => intro a0 a1 a2 S h; exact hs (zl3 n F) a0 a1 a2 S ih h
def zj4 (K : Int → Int → Int → Int → zSt → Option R) (body : (Int → Int → Int → Int → zSt → Option R) → Option R) : Option R := body K
theorem zj4_e {K : Int → Int → Int → Int → zSt → Option R} {body : (Int → Int → Int → Int → zSt → Option R) → Option R} {r : R} {PJ : Int → Int → Int → Int → zSt → Prop} {G : Prop} (h : zj4 K body = some r) (hK : ∀ (a0 a1 a2 a3 : Int) (S : zSt), K a0 a1 a2 a3 S = some r → PJ a0 a1 a2 a3 S) (hb : ∀ K' : Int → Int → Int → Int → zSt → Option R, (∀ (a0 a1 a2 a3 : Int) (S : zSt), K' a0 a1 a2 a3 S = some r → PJ a0 a1 a2 a3 S) → body K' = some r → G) : G := hb K hK h
noncomputable def zl4 (n : Nat) (F : (Int → Int → Int → Int → zSt → Option R) → Int → Int → Int → Int → zSt → Option R) : Int → Int → Int → Int → zSt → Option R := Nat.rec (motive := fun _ => Int → Int → Int → Int → zSt → Option R) (fun _ _ _ _ _ => none) (fun _ ih => F ih) n
theorem zl4_e {F : (Int → Int → Int → Int → zSt → Option R) → Int → Int → Int → Int → zSt → Option R} {r : R} (PJ : Int → Int → Int → Int → zSt → Prop) (hs : ∀ (rec : Int → Int → Int → Int → zSt → Option R) (a0 a1 a2 a3 : Int) (S : zSt), (∀ (a0 a1 a2 a3 : Int) (S : zSt), rec a0 a1 a2 a3 S = some r → PJ a0 a1 a2 a3 S) → F rec a0 a1 a2 a3 S = some r → PJ a0 a1 a2 a3 S) : ∀ (n : Nat) (a0 a1 a2 a3 : Int) (S : zSt), zl4 n F a0 a1 a2 a3 S = some r → PJ a0 a1 a2 a3 S := by
  intro n
  induction n with
  | zero => intro a0 a1 a2 a3 S h; cases h
  | succ n ih => intro a0 a1 a2 a3 S h; exact hs (zl4 n F) a0 a1 a2 a3 S ih h
def zj5 (K : Int → Int → Int → Int → Int → zSt → Option R) (body : (Int → Int → Int → Int → Int → zSt → Option R) → Option R) : Option R := body K
theorem zj5_e {K : Int → Int → Int → Int → Int → zSt → Option R} {body : (Int → Int → Int → Int → Int → zSt → Option R) → Option R} {r : R} {PJ : Int → Int → Int → Int → Int → zSt → Prop} {G : Prop} (h : zj5 K body = some r) (hK : ∀ (a0 a1 a2 a3 a4 : Int) (S : zSt), K a0 a1 a2 a3 a4 S = some r → PJ a0 a1 a2 a3 a4 S) (hb : ∀ K' : Int → Int → Int → Int → Int → zSt → Option R, (∀ (a0 a1 a2 a3 a4 : Int) (S : zSt), K' a0 a1 a2 a3 a4 S = some r → PJ a0 a1 a2 a3 a4 S) → body K' = some r → G) : G := hb K hK h
noncomputable def zl5 (n : Nat) (F : (Int → Int → Int → Int → Int → zSt → Option R) → Int → Int → Int → Int → Int → zSt → Option R) : Int → Int → Int → Int → Int → zSt → Option R := Nat.rec (motive := fun _ => Int → Int → Int → Int → Int → zSt → Option R) (fun _ _ _ _ _ _ => none) (fun _ ih => F ih) n
theorem zl5_e {F : (Int → Int → Int → Int → Int → zSt → Option R) → Int → Int → Int → Int → Int → zSt → Option R} {r : R} (PJ : Int → Int → Int → Int → Int → zSt → Prop) (hs : ∀ (rec : Int → Int → Int → Int → Int → zSt → Option R) (a0 a1 a2 a3 a4 : Int) (S : zSt), (∀ (a0 a1 a2 a3 a4 : Int) (S : zSt), rec a0 a1 a2 a3 a4 S = some r → PJ a0 a1 a2 a3 a4 S) → F rec a0 a1 a2 a3 a4 S = some r → PJ a0 a1 a2 a3 a4 S) : ∀ (n : Nat) (a0 a1 a2 a3 a4 : Int) (S : zSt), zl5 n F a0 a1 a2 a3 a4 S = some r → PJ a0 a1 a2 a3 a4 S := by
  intro n
  induction n with
  | zero => intro a0 a1 a2 a3 a4 S h; cases h
  | succ n ih => intro a0 a1 a2 a3 a4 S h; exact hs (zl5 n F) a0 a1 a2 a3 a4 S ih h
def zj6 (K : Int → Int → Int → Int → Int → Int → zSt → Option R) (body : (Int → Int → Int → Int → Int → Int → zSt → Option R) → Option R) : Option R := body K
theorem zj6_e {K : Int → Int → Int → Int → Int → Int → zSt → Option R} {body : (Int → Int → Int → Int → Int → Int → zSt → Option R) → Option R} {r : R} {PJ : Int → Int → Int → Int → Int → Int → zSt → Prop} {G : Prop} (h : zj6 K body = some r) (hK : ∀ (a0 a1 a2 a3 a4 a5 : Int) (S : zSt), K a0 a1 a2 a3 a4 a5 S = some r → PJ a0 a1 a2 a3 a4 a5 S) (hb : ∀ K' : Int → Int → Int → Int → Int → Int → zSt → Option R, (∀ (a0 a1 a2 a3 a4 a5 : Int) (S : zSt), K' a0 a1 a2 a3 a4 a5 S = some r → PJ a0 a1 a2 a3 a4 a5 S) → body K' = some r → G) : G := hb K hK h
noncomputable def zl6 (n : Nat) (F : (Int → Int → Int → Int → Int → Int → zSt → Option R) → Int → Int → Int → Int → Int → Int → zSt → Option R) : Int → Int → Int → Int → Int → Int → zSt → Option R := Nat.rec (motive := fun _ => Int → Int → Int → Int → Int → Int → zSt → Option R) (fun _ _ _ _ _ _ _ => none) (fun _ ih => F ih) n
theorem zl6_e {F : (Int → Int → Int → Int → Int → Int → zSt → Option R) → Int → Int → Int → Int → Int → Int → zSt → Option R} {r : R} (PJ : Int → Int → Int → Int → Int → Int → zSt → Prop) (hs : ∀ (rec : Int → Int → Int → Int → Int → Int → zSt → Option R) (a0 a1 a2 a3 a4 a5 : Int) (S : zSt), (∀ (a0 a1 a2 a3 a4 a5 : Int) (S : zSt), rec a0 a1 a2 a3 a4 a5 S = some r → PJ a0 a1 a2 a3 a4 a5 S) → F rec a0 a1 a2 a3 a4 a5 S = some r → PJ a0 a1 a2 a3 a4 a5 S) : ∀ (n : Nat) (a0 a1 a2 a3 a4 a5 : Int) (S : zSt), zl6 n F a0 a1 a2 a3 a4 a5 S = some r → PJ a0 a1 a2 a3 a4 a5 S := by
  intro n
  induction n with
  | zero => intro a0 a1 a2 a3 a4 a5 S h; cases h
  | succ n ih => intro a0 a1 a2 a3 a4 a5 S h; exact hs (zl6 n F) a0 a1 a2 a3 a4 a5 S ih h
def zj7 (K : Int → Int → Int → Int → Int → Int → Int → zSt → Option R) (body : (Int → Int → Int → Int → Int → Int → Int → zSt → Option R) → Option R) : Option R := body K
theorem zj7_e {K : Int → Int → Int → Int → Int → Int → Int → zSt → Option R} {body : (Int → Int → Int → Int → Int → Int → Int → zSt → Option R) → Option R} {r : R} {PJ : Int → Int → Int → Int → Int → Int → Int → zSt → Prop} {G : Prop} (h : zj7 K body = some r) (hK : ∀ (a0 a1 a2 a3 a4 a5 a6 : Int) (S : zSt), K a0 a1 a2 a3 a4 a5 a6 S = some r → PJ a0 a1 a2 a3 a4 a5 a6 S) (hb : ∀ K' : Int → Int → Int → Int → Int → Int → Int → zSt → Option R, (∀ (a0 a1 a2 a3 a4 a5 a6 : Int) (S : zSt), K' a0 a1 a2 a3 a4 a5 a6 S = some r → PJ a0 a1 a2 a3 a4 a5 a6 S) → body K' = some r → G) : G := hb K hK h
noncomputable def zl7 (n : Nat) (F : (Int → Int → Int → Int → Int → Int → Int → zSt → Option R) → Int → Int → Int → Int → Int → Int → Int → zSt → Option R) : Int → Int → Int → Int → Int → Int → Int → zSt → Option R := Nat.rec (motive := fun _ => Int → Int → Int → Int → Int → Int → Int → zSt → Option R) (fun _ _ _ _ _ _ _ _ => none) (fun _ ih => F ih) n
theorem zl7_e {F : (Int → Int → Int → Int → Int → Int → Int → zSt → Option R) → Int → Int → Int → Int → Int → Int → Int → zSt → Option R} {r : R} (PJ : Int → Int → Int → Int → Int → Int → Int → zSt → Prop) (hs : ∀ (rec : Int → Int → Int → Int → Int → Int → Int → zSt → Option R) (a0 a1 a2 a3 a4 a5 a6 : Int) (S : zSt), (∀ (a0 a1 a2 a3 a4 a5 a6 : Int) (S : zSt), rec a0 a1 a2 a3 a4 a5 a6 S = some r → PJ a0 a1 a2 a3 a4 a5 a6 S) → F rec a0 a1 a2 a3 a4 a5 a6 S = some r → PJ a0 a1 a2 a3 a4 a5 a6 S) : ∀ (n : Nat) (a0 a1 a2 a3 a4 a5 a6 : Int) (S : zSt), zl7 n F a0 a1 a2 a3 a4 a5 a6 S = some r → PJ a0 a1 a2 a3 a4 a5 a6 S := by
  intro n
  induction n with
  | zero => intro a0 a1 a2 a3 a4 a5 a6 S h; cases h
  | succ n ih => intro a0 a1 a2 a3 a4 a5 a6 S h; exact hs (zl7 n F) a0 a1 a2 a3 a4 a5 a6 S ih h
def zj8 (K : Int → Int → Int → Int → Int → Int → Int → Int → zSt → Option R) (body : (Int → Int → Int → Int → Int → Int → Int → Int → zSt → Option R) → Option R) : Option R := body K
theorem zj8_e {K : Int → Int → Int → Int → Int → Int → Int → Int → zSt → Option R} {body : (Int → Int → Int → Int → Int → Int → Int → Int → zSt → Option R) → Option R} {r : R} {PJ : Int → Int → Int → Int → Int → Int → Int → Int → zSt → Prop} {G : Prop} (h : zj8 K body = some r) (hK : ∀ (a0 a1 a2 a3 a4 a5 a6 a7 : Int) (S : zSt), K a0 a1 a2 a3 a4 a5 a6 a7 S = some r → PJ a0 a1 a2 a3 a4 a5 a6 a7 S) (hb : ∀ K' : Int → Int → Int → Int → Int → Int → Int → Int → zSt → Option R, (∀ (a0 a1 a2 a3 a4 a5 a6 a7 : Int) (S : zSt), K' a0 a1 a2 a3 a4 a5 a6 a7 S = some r → PJ a0 a1 a2 a3 a4 a5 a6 a7 S) → body K' = some r → G) : G := hb K hK h
noncomputable def zl8 (n : Nat) (F : (Int → Int → Int → Int → Int → Int → Int → Int → zSt → Option R) → Int → Int → Int → Int → Int → Int → Int → Int → zSt → Option R) : Int → Int → Int → Int → Int → Int → Int → Int → zSt → Option R := Nat.rec (motive := fun _ => Int → Int → Int → Int → Int → Int → Int → Int → zSt → Option R) (fun _ _ _ _ _ _ _ _ _ => none) (fun _ ih => F ih) n
theorem zl8_e {F : (Int → Int → Int → Int → Int → Int → Int → Int → zSt → Option R) → Int → Int → Int → Int → Int → Int → Int → Int → zSt → Option R} {r : R} (PJ : Int → Int → Int → Int → Int → Int → Int → Int → zSt → Prop) (hs : ∀ (rec : Int → Int → Int → Int → Int → Int → Int → Int → zSt → Option R) (a0 a1 a2 a3 a4 a5 a6 a7 : Int) (S : zSt), (∀ (a0 a1 a2 a3 a4 a5 a6 a7 : Int) (S : zSt), rec a0 a1 a2 a3 a4 a5 a6 a7 S = some r → PJ a0 a1 a2 a3 a4 a5 a6 a7 S) → F rec a0 a1 a2 a3 a4 a5 a6 a7 S = some r → PJ a0 a1 a2 a3 a4 a5 a6 a7 S) : ∀ (n : Nat) (a0 a1 a2 a3 a4 a5 a6 a7 : Int) (S : zSt), zl8 n F a0 a1 a2 a3 a4 a5 a6 a7 S = some r → PJ a0 a1 a2 a3 a4 a5 a6 a7 S := by
  intro n
  induction n with
  | zero => intro a0 a1 a2 a3 a4 a5 a6 a7 S h; cases h
  | succ n ih => intro a0 a1 a2 a3 a4 a5 a6 a7 S h; exact hs (zl8 n F) a0 a1 a2 a3 a4 a5 a6 a7 S ih h
end Words
-- the machine's place
abbrev zG : Type := Program × Launch × Env × Room × State × MethodId × Array Value × List Frame × Method × Code × (State → Prop) × va_G × (Nat → Prop) × Nat × Nat × Nat
def gl (Γ : zG) : Launch := Γ.2.1
def gD (Γ : zG) : va_G := Γ.2.2.2.2.2.2.2.2.2.2.2.1
def gA (Γ : zG) : Nat → Prop := Γ.2.2.2.2.2.2.2.2.2.2.2.2.1
def tyL (cI cZ : ClassId) : List (ClassId × FieldType) := [(cI, .int), (cZ, .boolean)]
/-- the links between nest mates: no words that a list may hold -/
def NWt : List (String × Nat × MethodName × String) := [(RX8, 11, yX4_init, "GlossedPage"), (RX8, 18, yX7_init, "GlossedPage"), (RX8, 25, yX0_init, "GlossedPage"), (RX8, 32, yX1_init, "GlossedPage"), (RX8, 39, yX5_init, "GlossedPage"), (RX8, 46, yX6_init, "GlossedPage"), (RX6, 11, yX3_init, "GlossedPage"), (RX8, 53, yX2_init, "GlossedPage"), (RX4, 23, yX8_at, "GlossedPage"), (RX1, 58, yX8_at, "GlossedPage")]
def zN (U : State) : Prop := ∀ q ∈ NWt, va_Nw (.methodLinkNest q.1 q.2.1 q.2.2.1 q.2.2.2) U
def zK (D : va_G) (cI cZ : ClassId) (U : State) : Prop := va_K D vwCl (tyL cI cZ) U ∧ zN U
theorem zK.same {D : va_G} {cI cZ : ClassId} {u U : State} (h : u.vm = U.vm) (k : zK D cI cZ u) : zK D cI cZ U := ⟨va_K.moved (by rw [h]; exact Vm.Alike.refl U.vm) k.1, fun q hq => va_Nw.same rfl h (k.2 q hq)⟩
theorem zK.warm {D : va_G} {cI cZ : ClassId} {s U : State} (hW : s.WarmedH U.vm) (k : zK D cI cZ s) : zK D cI cZ U := ⟨va_K.moved hW.alike k.1, fun q hq => va_Nw.warmM hW (k.2 q hq)⟩
/-- what a method's place has for good -/
def zF (Γ : zG) (w : zSt → va_W) (cI cZ : ClassId) (cc : ByteArray) (rm : Room) (nL' : Nat) (own : String) : Prop :=
  match Γ with
  | (p, _, _, R, s, m, args, _, _, c, _, D, A, k, n, nL) => p.tables.exec = Jvm.exec ∧ c.code = cc ∧ c.maxLocals = nL ∧ s.vm.findClass own = some m.cls ∧ (∀ w ∈ WS, w.before args s = true) ∧ zK D cI cZ s ∧ (∀ S, va_D A (w S)) ∧ R = rm ∧ k ≤ rm.cells ∧ n ≤ rm.slots ∧ nL = nL'
/-- from here (the world, the locals, the place, the stack) the machine comes to its end -/
def zk (Γ : zG) (w : zSt → va_W) (G : zSt → Prop) (S : zSt) (lv : List (Nat × Value)) (pc : Nat) (st : List Value) : Prop :=
  match Γ with
  | (p, l, e, R, s, m, args, below, meth, c, Q, D, A, k, n, nL) => G S → ∀ (H : Heap) (locs : List Loc) (ls : Array Slot), va_P D vwCl (w S) H → va_S A s.heap H locs → lv_has ls nL lv → W p l e R s m args below meth c H locs k n Q (F0 m pc ls st)
section Rows
variable {Γ : zG} {w : zSt → va_W} {cI cZ : ClassId} {cc : ByteArray} {rm : Room} {nL' : Nat} {own : String} {G : zSt → Prop} {S : zSt} {lv : List (Nat × Value)} {pc : Nat} {st : List Value}
theorem k_sub (ks : List Nat) {lv' : List (Nat × Value)} (hl : lv_pick lv ks = lv') (kk : zk Γ w G S lv' pc st) : zk Γ w G S lv pc st := by
  obtain ⟨p, l, e, R, s, m, args, below, meth, c, Q, D, A, k0, n0, nL⟩ := Γ
  intro hG H locs ls hP hS hh
  exact kk hG H locs ls hP hS (lv_sub hh ks hl)
theorem k_at {pc' : Nat} (e : pc = pc') (kk : zk Γ w G S lv pc' st) : zk Γ w G S lv pc st := e ▸ kk
theorem k_iconst (F : zF Γ w cI cZ cc rm nL' own) {n : Int} (hd : decode cc pc = .ok (.iconst n, 1)) (kk : zk Γ w G S lv (pc + 1) (.int (zI n) :: st)) : zk Γ w G S lv (pc) (st) := by
  obtain ⟨p, l, e, R, s, m, args, below, meth, c, Q, D, A, k0, n0, nL⟩ := Γ
  obtain ⟨hx, hb, hml, hown, hts, ⟨hK, hN⟩, hD, rfl, hk0, hn0, rfl⟩ := F
  intro hG H locs ls hP hS hh
  exact lv_iconst hx hb hd rfl (kk hG H locs ls hP hS hh)
theorem k_bipush (F : zF Γ w cI cZ cc rm nL' own) {n : Int} (hd : decode cc pc = .ok (.bipush n, 2)) (hv : (Int8.ofInt n).toInt32 = zI n) (kk : zk Γ w G S lv (pc + 2) (.int (zI n) :: st)) : zk Γ w G S lv (pc) (st) := by
  obtain ⟨p, l, e, R, s, m, args, below, meth, c, Q, D, A, k0, n0, nL⟩ := Γ
  obtain ⟨hx, hb, hml, hown, hts, ⟨hK, hN⟩, hD, rfl, hk0, hn0, rfl⟩ := F
  intro hG H locs ls hP hS hh
  exact lv_bipush hx hb hd hv (kk hG H locs ls hP hS hh)
theorem k_sipush (F : zF Γ w cI cZ cc rm nL' own) {n : Int} (hd : decode cc pc = .ok (.sipush n, 3)) (hv : (Int16.ofInt n).toInt32 = zI n) (kk : zk Γ w G S lv (pc + 3) (.int (zI n) :: st)) : zk Γ w G S lv (pc) (st) := by
  obtain ⟨p, l, e, R, s, m, args, below, meth, c, Q, D, A, k0, n0, nL⟩ := Γ
  obtain ⟨hx, hb, hml, hown, hts, ⟨hK, hN⟩, hD, rfl, hk0, hn0, rfl⟩ := F
  intro hG H locs ls hP hS hh
  exact lv_sipush hx hb hd hv (kk hG H locs ls hP hS hh)
theorem k_ldc (F : zF Γ w cI cZ cc rm nL' own) {n : Int} {idx : Nat} {v : Int32} (hc : Cond.constant own idx v ∈ WS) (hv : v = zI n) (hd : decode cc pc = .ok (.ldc idx, 2)) (kk : zk Γ w G S lv (pc + 2) (.int (zI n) :: st)) : zk Γ w G S lv (pc) (st) := by
  obtain ⟨p, l, e, R, s, m, args, below, meth, c, Q, D, A, k0, n0, nL⟩ := Γ
  obtain ⟨hx, hb, hml, hown, hts, ⟨hK, hN⟩, hD, rfl, hk0, hn0, rfl⟩ := F
  intro hG H locs ls hP hS hh
  subst hv
  exact lv_ldc hx hb hown (hts _ hc) hd (kk hG H locs ls hP hS hh)
theorem k_iload_n (F : zF Γ w cI cZ cc rm nL' own) {k : Fin 4} {i : Nat} {x : Int32} (hd : decode cc pc = .ok (.iload_n k, 1)) (hi : (k : Nat) = i) (j : Nat) (hl : lv[j]? = some (i, .int x)) (kk : zk Γ w G S lv (pc + 1) (.int x :: st)) : zk Γ w G S lv (pc) (st) := by
  obtain ⟨p, l, e, R, s, m, args, below, meth, c, Q, D, A, k0, n0, nL⟩ := Γ
  obtain ⟨hx, hb, hml, hown, hts, ⟨hK, hN⟩, hD, rfl, hk0, hn0, rfl⟩ := F
  intro hG H locs ls hP hS hh
  exact lv_iload_n hx hb hd hi (lv_at hh j hl) (kk hG H locs ls hP hS hh)
theorem k_iload (F : zF Γ w cI cZ cc rm nL' own) {i : Nat} {x : Int32} (hd : decode cc pc = .ok (.iload i, 2)) (j : Nat) (hl : lv[j]? = some (i, .int x)) (kk : zk Γ w G S lv (pc + 2) (.int x :: st)) : zk Γ w G S lv (pc) (st) := by
  obtain ⟨p, l, e, R, s, m, args, below, meth, c, Q, D, A, k0, n0, nL⟩ := Γ
  obtain ⟨hx, hb, hml, hown, hts, ⟨hK, hN⟩, hD, rfl, hk0, hn0, rfl⟩ := F
  intro hG H locs ls hP hS hh
  exact lv_iload hx hb hd (lv_at hh j hl) (kk hG H locs ls hP hS hh)
theorem k_aload_n (F : zF Γ w cI cZ cc rm nL' own) {k : Fin 4} {i : Nat} {x : Nat} (hd : decode cc pc = .ok (.aload_n k, 1)) (hi : (k : Nat) = i) (j : Nat) (hl : lv[j]? = some (i, .ref x)) (kk : zk Γ w G S lv (pc + 1) (.ref x :: st)) : zk Γ w G S lv (pc) (st) := by
  obtain ⟨p, l, e, R, s, m, args, below, meth, c, Q, D, A, k0, n0, nL⟩ := Γ
  obtain ⟨hx, hb, hml, hown, hts, ⟨hK, hN⟩, hD, rfl, hk0, hn0, rfl⟩ := F
  intro hG H locs ls hP hS hh
  exact lv_aload_n hx hb hd hi (lv_at hh j hl) (kk hG H locs ls hP hS hh)
theorem k_aload (F : zF Γ w cI cZ cc rm nL' own) {i : Nat} {x : Nat} (hd : decode cc pc = .ok (.aload i, 2)) (j : Nat) (hl : lv[j]? = some (i, .ref x)) (kk : zk Γ w G S lv (pc + 2) (.ref x :: st)) : zk Γ w G S lv (pc) (st) := by
  obtain ⟨p, l, e, R, s, m, args, below, meth, c, Q, D, A, k0, n0, nL⟩ := Γ
  obtain ⟨hx, hb, hml, hown, hts, ⟨hK, hN⟩, hD, rfl, hk0, hn0, rfl⟩ := F
  intro hG H locs ls hP hS hh
  exact lv_aload hx hb hd (lv_at hh j hl) (kk hG H locs ls hP hS hh)
theorem k_istore_n (F : zF Γ w cI cZ cc rm nL' own) {k : Fin 4} {i : Nat} {x : Int32} {lv' : List (Nat × Value)} (hd : decode cc pc = .ok (.istore_n k, 1)) (hi : (k : Nat) = i) (hn : i < nL') (hl : (i, Value.int x) :: lv.filter (fun q => !(q.1 == i) && !(q.1 + 1 == i && q.2.category == 2)) = lv') (kk : zk Γ w G S lv' (pc + 1) (st)) : zk Γ w G S lv (pc) (.int x :: st) := by
  obtain ⟨p, l, e, R, s, m, args, below, meth, c, Q, D, A, k0, n0, nL⟩ := Γ
  obtain ⟨hx, hb, hml, hown, hts, ⟨hK, hN⟩, hD, rfl, hk0, hn0, rfl⟩ := F
  intro hG H locs ls hP hS hh
  exact lv_istore_n hx hb hd hi hh hn hl (fun ls hl => kk hG H locs ls hP hS hl)
theorem k_istore (F : zF Γ w cI cZ cc rm nL' own) {i : Nat} {x : Int32} {lv' : List (Nat × Value)} (hd : decode cc pc = .ok (.istore i, 2)) (hn : i < nL') (hl : (i, Value.int x) :: lv.filter (fun q => !(q.1 == i) && !(q.1 + 1 == i && q.2.category == 2)) = lv') (kk : zk Γ w G S lv' (pc + 2) (st)) : zk Γ w G S lv (pc) (.int x :: st) := by
  obtain ⟨p, l, e, R, s, m, args, below, meth, c, Q, D, A, k0, n0, nL⟩ := Γ
  obtain ⟨hx, hb, hml, hown, hts, ⟨hK, hN⟩, hD, rfl, hk0, hn0, rfl⟩ := F
  intro hG H locs ls hP hS hh
  exact lv_istore hx hb hd hh hn hl (fun ls hl => kk hG H locs ls hP hS hl)
theorem k_astore_n (F : zF Γ w cI cZ cc rm nL' own) {k : Fin 4} {i : Nat} {x : Nat} {lv' : List (Nat × Value)} (hd : decode cc pc = .ok (.astore_n k, 1)) (hi : (k : Nat) = i) (hn : i < nL') (hl : (i, Value.ref x) :: lv.filter (fun q => !(q.1 == i) && !(q.1 + 1 == i && q.2.category == 2)) = lv') (kk : zk Γ w G S lv' (pc + 1) (st)) : zk Γ w G S lv (pc) (.ref x :: st) := by
  obtain ⟨p, l, e, R, s, m, args, below, meth, c, Q, D, A, k0, n0, nL⟩ := Γ
  obtain ⟨hx, hb, hml, hown, hts, ⟨hK, hN⟩, hD, rfl, hk0, hn0, rfl⟩ := F
  intro hG H locs ls hP hS hh
  exact lv_astore_n hx hb hd hi hh hn hl (fun ls hl => kk hG H locs ls hP hS hl)
theorem k_astore (F : zF Γ w cI cZ cc rm nL' own) {i : Nat} {x : Nat} {lv' : List (Nat × Value)} (hd : decode cc pc = .ok (.astore i, 2)) (hn : i < nL') (hl : (i, Value.ref x) :: lv.filter (fun q => !(q.1 == i) && !(q.1 + 1 == i && q.2.category == 2)) = lv') (kk : zk Γ w G S lv' (pc + 2) (st)) : zk Γ w G S lv (pc) (.ref x :: st) := by
  obtain ⟨p, l, e, R, s, m, args, below, meth, c, Q, D, A, k0, n0, nL⟩ := Γ
  obtain ⟨hx, hb, hml, hown, hts, ⟨hK, hN⟩, hD, rfl, hk0, hn0, rfl⟩ := F
  intro hG H locs ls hP hS hh
  exact lv_astore hx hb hd hh hn hl (fun ls hl => kk hG H locs ls hP hS hl)
theorem k_iinc (F : zF Γ w cI cZ cc rm nL' own) {R : Type} {r : R} {i k : Nat} {n x : Int} {K : Int → Option R} {lv' : Int → List (Nat × Value)} (hd : decode cc pc = .ok (.iinc i n, 3)) (hk : lv[k]? = some (i, .int (zI x))) (hn : i < nL') (hl : ∀ y, (i, Value.int (zI y)) :: lv.filter (fun q => !(q.1 == i) && !(q.1 + 1 == i && q.2.category == 2)) = lv' y) (h : zar (x + n) K = some r) (kk : ∀ y, inR y → K y = some r → zk Γ w G S (lv' y) (pc + 3) (st)) : zk Γ w G S lv (pc) (st) := by
  obtain ⟨p, l, e, R, s, m, args, below, meth, c, Q, D, A, k0, n0, nL⟩ := Γ
  obtain ⟨hx, hb, hml, hown, hts, ⟨hK, hN⟩, hD, rfl, hk0, hn0, rfl⟩ := F
  intro hG H locs ls hP hS hh
  obtain ⟨h1, h2⟩ := zar_e h
  exact lv_iinc hx hb hd hh hk (zI_add x n) hn (hl (x + n)) (fun ls hl => kk _ h1 h2 hG H locs ls hP hS hl)
theorem k_dup (F : zF Γ w cI cZ cc rm nL' own) {v : Value} (hd : decode cc pc = .ok (.dup, 1)) (hv : v.category = 1) (kk : zk Γ w G S lv (pc + 1) (v :: v :: st)) : zk Γ w G S lv (pc) (v :: st) := by
  obtain ⟨p, l, e, R, s, m, args, below, meth, c, Q, D, A, k0, n0, nL⟩ := Γ
  obtain ⟨hx, hb, hml, hown, hts, ⟨hK, hN⟩, hD, rfl, hk0, hn0, rfl⟩ := F
  intro hG H locs ls hP hS hh
  exact lv_dup hx hb hd hv (kk hG H locs ls hP hS hh)
theorem k_dup2 (F : zF Γ w cI cZ cc rm nL' own) {v u : Value} (hd : decode cc pc = .ok (.dup2, 1)) (hv : v.category = 1) (hu : u.category = 1) (kk : zk Γ w G S lv (pc + 1) (v :: u :: v :: u :: st)) : zk Γ w G S lv (pc) (v :: u :: st) := by
  obtain ⟨p, l, e, R, s, m, args, below, meth, c, Q, D, A, k0, n0, nL⟩ := Γ
  obtain ⟨hx, hb, hml, hown, hts, ⟨hK, hN⟩, hD, rfl, hk0, hn0, rfl⟩ := F
  intro hG H locs ls hP hS hh
  exact lv_dup2_11 hx hb hd hv hu (kk hG H locs ls hP hS hh)
theorem k_dup_x1 (F : zF Γ w cI cZ cc rm nL' own) {v u : Value} (hd : decode cc pc = .ok (.dup_x1, 1)) (hv : v.category = 1) (hu : u.category = 1) (kk : zk Γ w G S lv (pc + 1) (v :: u :: v :: st)) : zk Γ w G S lv (pc) (v :: u :: st) := by
  obtain ⟨p, l, e, R, s, m, args, below, meth, c, Q, D, A, k0, n0, nL⟩ := Γ
  obtain ⟨hx, hb, hml, hown, hts, ⟨hK, hN⟩, hD, rfl, hk0, hn0, rfl⟩ := F
  intro hG H locs ls hP hS hh
  exact lv_dup_x1 hx hb hd hv hu (kk hG H locs ls hP hS hh)
theorem k_goto (F : zF Γ w cI cZ cc rm nL' own) {off : Int} {tgt : Nat} (hd : decode cc pc = .ok (.goto off, 3)) (ht : (pc : Int) + off = (tgt : Int)) (kk : zk Γ w G S lv (tgt) (st)) : zk Γ w G S lv (pc) (st) := by
  obtain ⟨p, l, e, R, s, m, args, below, meth, c, Q, D, A, k0, n0, nL⟩ := Γ
  obtain ⟨hx, hb, hml, hown, hts, ⟨hK, hN⟩, hD, rfl, hk0, hn0, rfl⟩ := F
  intro hG H locs ls hP hS hh
  exact lv_goto hx hb hd ht (kk hG H locs ls hP hS hh)
theorem k_iadd (F : zF Γ w cI cZ cc rm nL' own) {R : Type} {r : R} {a b : Int} {K : Int → Option R} (hd : decode cc pc = .ok (.iadd, 1)) (h : zar (a + b) K = some r) (kk : ∀ x, inR x → K x = some r → zk Γ w G S lv (pc + 1) (.int (zI x) :: st)) : zk Γ w G S lv (pc) (.int (zI b) :: .int (zI a) :: st) := by
  obtain ⟨p, l, e, R, s, m, args, below, meth, c, Q, D, A, k0, n0, nL⟩ := Γ
  obtain ⟨hx, hb, hml, hown, hts, ⟨hK, hN⟩, hD, rfl, hk0, hn0, rfl⟩ := F
  intro hG H locs ls hP hS hh
  obtain ⟨h1, h2⟩ := zar_e h
  refine lv_iadd hx hb hd ?_
  rw [zI_add a b]
  exact kk _ h1 h2 hG H locs ls hP hS hh
theorem k_isub (F : zF Γ w cI cZ cc rm nL' own) {R : Type} {r : R} {a b : Int} {K : Int → Option R} (hd : decode cc pc = .ok (.isub, 1)) (h : zar (a - b) K = some r) (kk : ∀ x, inR x → K x = some r → zk Γ w G S lv (pc + 1) (.int (zI x) :: st)) : zk Γ w G S lv (pc) (.int (zI b) :: .int (zI a) :: st) := by
  obtain ⟨p, l, e, R, s, m, args, below, meth, c, Q, D, A, k0, n0, nL⟩ := Γ
  obtain ⟨hx, hb, hml, hown, hts, ⟨hK, hN⟩, hD, rfl, hk0, hn0, rfl⟩ := F
  intro hG H locs ls hP hS hh
  obtain ⟨h1, h2⟩ := zar_e h
  refine lv_isub hx hb hd ?_
  rw [zI_sub a b]
  exact kk _ h1 h2 hG H locs ls hP hS hh
theorem k_imul (F : zF Γ w cI cZ cc rm nL' own) {R : Type} {r : R} {a b : Int} {K : Int → Option R} (hd : decode cc pc = .ok (.imul, 1)) (h : zar (a * b) K = some r) (kk : ∀ x, inR x → K x = some r → zk Γ w G S lv (pc + 1) (.int (zI x) :: st)) : zk Γ w G S lv (pc) (.int (zI b) :: .int (zI a) :: st) := by
  obtain ⟨p, l, e, R, s, m, args, below, meth, c, Q, D, A, k0, n0, nL⟩ := Γ
  obtain ⟨hx, hb, hml, hown, hts, ⟨hK, hN⟩, hD, rfl, hk0, hn0, rfl⟩ := F
  intro hG H locs ls hP hS hh
  obtain ⟨h1, h2⟩ := zar_e h
  refine lv_imul hx hb hd ?_
  rw [zI_mul a b]
  exact kk _ h1 h2 hG H locs ls hP hS hh
theorem k_idiv (F : zF Γ w cI cZ cc rm nL' own) {R : Type} {r : R} {a b : Int} {K : Int → Option R} (ha : inR a) (hb9 : inR b) (hd : decode cc pc = .ok (.idiv, 1)) (h : zdv a b K = some r) (kk : ∀ x, inR x → K x = some r → zk Γ w G S lv (pc + 1) (.int (zI x) :: st)) : zk Γ w G S lv (pc) (.int (zI b) :: .int (zI a) :: st) := by
  obtain ⟨p, l, e, R, s, m, args, below, meth, c, Q, D, A, k0, n0, nL⟩ := Γ
  obtain ⟨hx, hb, hml, hown, hts, ⟨hK, hN⟩, hD, rfl, hk0, hn0, rfl⟩ := F
  intro hG H locs ls hP hS hh
  obtain ⟨⟨h0, h1⟩, h2⟩ := zdv_e h
  refine lv_idiv hx hb hd (fun q => ?_) ?_
  · rw [zI_zero, zI_eq hb9 inR_0] at q; omega
  rw [zI_div ha hb9 h0 h1]
  exact kk _ (inR_div ha h0 h1) h2 hG H locs ls hP hS hh
theorem k_irem (F : zF Γ w cI cZ cc rm nL' own) {R : Type} {r : R} {a b : Int} {K : Int → Option R} (ha : inR a) (hb9 : inR b) (hd : decode cc pc = .ok (.irem, 1)) (h : zrm a b K = some r) (kk : ∀ x, inR x → K x = some r → zk Γ w G S lv (pc + 1) (.int (zI x) :: st)) : zk Γ w G S lv (pc) (.int (zI b) :: .int (zI a) :: st) := by
  obtain ⟨p, l, e, R, s, m, args, below, meth, c, Q, D, A, k0, n0, nL⟩ := Γ
  obtain ⟨hx, hb, hml, hown, hts, ⟨hK, hN⟩, hD, rfl, hk0, hn0, rfl⟩ := F
  intro hG H locs ls hP hS hh
  obtain ⟨⟨h0, h1⟩, h2⟩ := zrm_e h
  refine lv_irem hx hb hd (fun q => ?_) ?_
  · rw [zI_zero, zI_eq hb9 inR_0] at q; omega
  rw [zI_rem ha hb9 h0 h1]
  exact kk _ (inR_mod hb9 h1) h2 hG H locs ls hP hS hh
theorem k_icmp_lt (F : zF Γ w cI cZ cc rm nL' own) {R : Type} {r : R} {a b : Int} {A B : Option R} {off : Int} {tgt : Nat} (ha : inR a) (hb9 : inR b) (hd : decode cc pc = .ok (.if_icmp .lt off, 3)) (ht : (pc : Int) + off = (tgt : Int)) (h : (if a < b then A else B) = some r) (kt : A = some r → zk Γ w G S lv (tgt) (st)) (kf : B = some r → zk Γ w G S lv (pc + 3) (st)) : zk Γ w G S lv (pc) (.int (zI b) :: .int (zI a) :: st) := by
  obtain ⟨p, l, e, R, s, m, args, below, meth, c, Q, D, A, k0, n0, nL⟩ := Γ
  obtain ⟨hx, hb, hml, hown, hts, ⟨hK, hN⟩, hD, rfl, hk0, hn0, rfl⟩ := F
  intro hG H locs ls hP hS hh
  obtain ⟨h1, h2⟩ := zif_e h
  exact lv_icmp_lt hx hb hd ht (fun q => kt (h1 ((zI_lt ha hb9).mp q)) hG H locs ls hP hS hh) (fun q => kf (h2 (fun z => q ((zI_lt ha hb9).mpr z))) hG H locs ls hP hS hh)
theorem k_if_lt (F : zF Γ w cI cZ cc rm nL' own) {R : Type} {r : R} {a : Int} {A B : Option R} {off : Int} {tgt : Nat} (ha : inR a) (hd : decode cc pc = .ok (.ifCond .lt off, 3)) (ht : (pc : Int) + off = (tgt : Int)) (h : (if a < 0 then A else B) = some r) (kt : A = some r → zk Γ w G S lv (tgt) (st)) (kf : B = some r → zk Γ w G S lv (pc + 3) (st)) : zk Γ w G S lv (pc) (.int (zI a) :: st) := by
  obtain ⟨p, l, e, R, s, m, args, below, meth, c, Q, D, A, k0, n0, nL⟩ := Γ
  obtain ⟨hx, hb, hml, hown, hts, ⟨hK, hN⟩, hD, rfl, hk0, hn0, rfl⟩ := F
  intro hG H locs ls hP hS hh
  obtain ⟨h1, h2⟩ := zif_e h
  have e := zI_lt ha inR_0
  rw [← zI_zero] at e
  exact lv_if_lt hx hb hd ht (fun q => kt (h1 (e.mp q)) hG H locs ls hP hS hh) (fun q => kf (h2 (fun z => q (e.mpr z))) hG H locs ls hP hS hh)
theorem k_icmp_ge (F : zF Γ w cI cZ cc rm nL' own) {R : Type} {r : R} {a b : Int} {A B : Option R} {off : Int} {tgt : Nat} (ha : inR a) (hb9 : inR b) (hd : decode cc pc = .ok (.if_icmp .ge off, 3)) (ht : (pc : Int) + off = (tgt : Int)) (h : (if b ≤ a then A else B) = some r) (kt : A = some r → zk Γ w G S lv (tgt) (st)) (kf : B = some r → zk Γ w G S lv (pc + 3) (st)) : zk Γ w G S lv (pc) (.int (zI b) :: .int (zI a) :: st) := by
  obtain ⟨p, l, e, R, s, m, args, below, meth, c, Q, D, A, k0, n0, nL⟩ := Γ
  obtain ⟨hx, hb, hml, hown, hts, ⟨hK, hN⟩, hD, rfl, hk0, hn0, rfl⟩ := F
  intro hG H locs ls hP hS hh
  obtain ⟨h1, h2⟩ := zif_e h
  exact lv_icmp_ge hx hb hd ht (fun q => kt (h1 ((zI_le hb9 ha).mp q)) hG H locs ls hP hS hh) (fun q => kf (h2 (fun z => q ((zI_le hb9 ha).mpr z))) hG H locs ls hP hS hh)
theorem k_if_ge (F : zF Γ w cI cZ cc rm nL' own) {R : Type} {r : R} {a : Int} {A B : Option R} {off : Int} {tgt : Nat} (ha : inR a) (hd : decode cc pc = .ok (.ifCond .ge off, 3)) (ht : (pc : Int) + off = (tgt : Int)) (h : (if 0 ≤ a then A else B) = some r) (kt : A = some r → zk Γ w G S lv (tgt) (st)) (kf : B = some r → zk Γ w G S lv (pc + 3) (st)) : zk Γ w G S lv (pc) (.int (zI a) :: st) := by
  obtain ⟨p, l, e, R, s, m, args, below, meth, c, Q, D, A, k0, n0, nL⟩ := Γ
  obtain ⟨hx, hb, hml, hown, hts, ⟨hK, hN⟩, hD, rfl, hk0, hn0, rfl⟩ := F
  intro hG H locs ls hP hS hh
  obtain ⟨h1, h2⟩ := zif_e h
  have e := zI_le inR_0 ha
  rw [← zI_zero] at e
  exact lv_if_ge hx hb hd ht (fun q => kt (h1 (e.mp q)) hG H locs ls hP hS hh) (fun q => kf (h2 (fun z => q (e.mpr z))) hG H locs ls hP hS hh)
theorem k_icmp_gt (F : zF Γ w cI cZ cc rm nL' own) {R : Type} {r : R} {a b : Int} {A B : Option R} {off : Int} {tgt : Nat} (ha : inR a) (hb9 : inR b) (hd : decode cc pc = .ok (.if_icmp .gt off, 3)) (ht : (pc : Int) + off = (tgt : Int)) (h : (if b < a then A else B) = some r) (kt : A = some r → zk Γ w G S lv (tgt) (st)) (kf : B = some r → zk Γ w G S lv (pc + 3) (st)) : zk Γ w G S lv (pc) (.int (zI b) :: .int (zI a) :: st) := by
  obtain ⟨p, l, e, R, s, m, args, below, meth, c, Q, D, A, k0, n0, nL⟩ := Γ
  obtain ⟨hx, hb, hml, hown, hts, ⟨hK, hN⟩, hD, rfl, hk0, hn0, rfl⟩ := F
  intro hG H locs ls hP hS hh
  obtain ⟨h1, h2⟩ := zif_e h
  exact lv_icmp_gt hx hb hd ht (fun q => kt (h1 ((zI_lt hb9 ha).mp q)) hG H locs ls hP hS hh) (fun q => kf (h2 (fun z => q ((zI_lt hb9 ha).mpr z))) hG H locs ls hP hS hh)
theorem k_if_gt (F : zF Γ w cI cZ cc rm nL' own) {R : Type} {r : R} {a : Int} {A B : Option R} {off : Int} {tgt : Nat} (ha : inR a) (hd : decode cc pc = .ok (.ifCond .gt off, 3)) (ht : (pc : Int) + off = (tgt : Int)) (h : (if 0 < a then A else B) = some r) (kt : A = some r → zk Γ w G S lv (tgt) (st)) (kf : B = some r → zk Γ w G S lv (pc + 3) (st)) : zk Γ w G S lv (pc) (.int (zI a) :: st) := by
  obtain ⟨p, l, e, R, s, m, args, below, meth, c, Q, D, A, k0, n0, nL⟩ := Γ
  obtain ⟨hx, hb, hml, hown, hts, ⟨hK, hN⟩, hD, rfl, hk0, hn0, rfl⟩ := F
  intro hG H locs ls hP hS hh
  obtain ⟨h1, h2⟩ := zif_e h
  have e := zI_lt inR_0 ha
  rw [← zI_zero] at e
  exact lv_if_gt hx hb hd ht (fun q => kt (h1 (e.mp q)) hG H locs ls hP hS hh) (fun q => kf (h2 (fun z => q (e.mpr z))) hG H locs ls hP hS hh)
theorem k_icmp_le (F : zF Γ w cI cZ cc rm nL' own) {R : Type} {r : R} {a b : Int} {A B : Option R} {off : Int} {tgt : Nat} (ha : inR a) (hb9 : inR b) (hd : decode cc pc = .ok (.if_icmp .le off, 3)) (ht : (pc : Int) + off = (tgt : Int)) (h : (if a ≤ b then A else B) = some r) (kt : A = some r → zk Γ w G S lv (tgt) (st)) (kf : B = some r → zk Γ w G S lv (pc + 3) (st)) : zk Γ w G S lv (pc) (.int (zI b) :: .int (zI a) :: st) := by
  obtain ⟨p, l, e, R, s, m, args, below, meth, c, Q, D, A, k0, n0, nL⟩ := Γ
  obtain ⟨hx, hb, hml, hown, hts, ⟨hK, hN⟩, hD, rfl, hk0, hn0, rfl⟩ := F
  intro hG H locs ls hP hS hh
  obtain ⟨h1, h2⟩ := zif_e h
  exact lv_icmp_le hx hb hd ht (fun q => kt (h1 ((zI_le ha hb9).mp q)) hG H locs ls hP hS hh) (fun q => kf (h2 (fun z => q ((zI_le ha hb9).mpr z))) hG H locs ls hP hS hh)
theorem k_if_le (F : zF Γ w cI cZ cc rm nL' own) {R : Type} {r : R} {a : Int} {A B : Option R} {off : Int} {tgt : Nat} (ha : inR a) (hd : decode cc pc = .ok (.ifCond .le off, 3)) (ht : (pc : Int) + off = (tgt : Int)) (h : (if a ≤ 0 then A else B) = some r) (kt : A = some r → zk Γ w G S lv (tgt) (st)) (kf : B = some r → zk Γ w G S lv (pc + 3) (st)) : zk Γ w G S lv (pc) (.int (zI a) :: st) := by
  obtain ⟨p, l, e, R, s, m, args, below, meth, c, Q, D, A, k0, n0, nL⟩ := Γ
  obtain ⟨hx, hb, hml, hown, hts, ⟨hK, hN⟩, hD, rfl, hk0, hn0, rfl⟩ := F
  intro hG H locs ls hP hS hh
  obtain ⟨h1, h2⟩ := zif_e h
  have e := zI_le ha inR_0
  rw [← zI_zero] at e
  exact lv_if_le hx hb hd ht (fun q => kt (h1 (e.mp q)) hG H locs ls hP hS hh) (fun q => kf (h2 (fun z => q (e.mpr z))) hG H locs ls hP hS hh)
theorem k_icmp_eq (F : zF Γ w cI cZ cc rm nL' own) {R : Type} {r : R} {a b : Int} {A B : Option R} {off : Int} {tgt : Nat} (ha : inR a) (hb9 : inR b) (hd : decode cc pc = .ok (.if_icmp .eq off, 3)) (ht : (pc : Int) + off = (tgt : Int)) (h : (if a = b then A else B) = some r) (kt : A = some r → zk Γ w G S lv (tgt) (st)) (kf : B = some r → zk Γ w G S lv (pc + 3) (st)) : zk Γ w G S lv (pc) (.int (zI b) :: .int (zI a) :: st) := by
  obtain ⟨p, l, e, R, s, m, args, below, meth, c, Q, D, A, k0, n0, nL⟩ := Γ
  obtain ⟨hx, hb, hml, hown, hts, ⟨hK, hN⟩, hD, rfl, hk0, hn0, rfl⟩ := F
  intro hG H locs ls hP hS hh
  obtain ⟨h1, h2⟩ := zif_e h
  exact lv_icmp_eq hx hb hd ht (fun q => kt (h1 ((zI_eq ha hb9).mp q)) hG H locs ls hP hS hh) (fun q => kf (h2 (fun z => q ((zI_eq ha hb9).mpr z))) hG H locs ls hP hS hh)
theorem k_if_eq (F : zF Γ w cI cZ cc rm nL' own) {R : Type} {r : R} {a : Int} {A B : Option R} {off : Int} {tgt : Nat} (ha : inR a) (hd : decode cc pc = .ok (.ifCond .eq off, 3)) (ht : (pc : Int) + off = (tgt : Int)) (h : (if a = 0 then A else B) = some r) (kt : A = some r → zk Γ w G S lv (tgt) (st)) (kf : B = some r → zk Γ w G S lv (pc + 3) (st)) : zk Γ w G S lv (pc) (.int (zI a) :: st) := by
  obtain ⟨p, l, e, R, s, m, args, below, meth, c, Q, D, A, k0, n0, nL⟩ := Γ
  obtain ⟨hx, hb, hml, hown, hts, ⟨hK, hN⟩, hD, rfl, hk0, hn0, rfl⟩ := F
  intro hG H locs ls hP hS hh
  obtain ⟨h1, h2⟩ := zif_e h
  have e := zI_eq ha inR_0
  rw [← zI_zero] at e
  exact lv_if_eq hx hb hd ht (fun q => kt (h1 (e.mp q)) hG H locs ls hP hS hh) (fun q => kf (h2 (fun z => q (e.mpr z))) hG H locs ls hP hS hh)
theorem k_icmp_ne (F : zF Γ w cI cZ cc rm nL' own) {R : Type} {r : R} {a b : Int} {A B : Option R} {off : Int} {tgt : Nat} (ha : inR a) (hb9 : inR b) (hd : decode cc pc = .ok (.if_icmp .ne off, 3)) (ht : (pc : Int) + off = (tgt : Int)) (h : (if a = b then B else A) = some r) (kt : A = some r → zk Γ w G S lv (tgt) (st)) (kf : B = some r → zk Γ w G S lv (pc + 3) (st)) : zk Γ w G S lv (pc) (.int (zI b) :: .int (zI a) :: st) := by
  obtain ⟨p, l, e, R, s, m, args, below, meth, c, Q, D, A, k0, n0, nL⟩ := Γ
  obtain ⟨hx, hb, hml, hown, hts, ⟨hK, hN⟩, hD, rfl, hk0, hn0, rfl⟩ := F
  intro hG H locs ls hP hS hh
  obtain ⟨h1, h2⟩ := zif_e h
  exact lv_icmp_ne hx hb hd ht (fun q => kt (h2 (fun z => q ((zI_eq ha hb9).mpr z))) hG H locs ls hP hS hh) (fun q => kf (h1 ((zI_eq ha hb9).mp q)) hG H locs ls hP hS hh)
theorem k_if_ne (F : zF Γ w cI cZ cc rm nL' own) {R : Type} {r : R} {a : Int} {A B : Option R} {off : Int} {tgt : Nat} (ha : inR a) (hd : decode cc pc = .ok (.ifCond .ne off, 3)) (ht : (pc : Int) + off = (tgt : Int)) (h : (if a = 0 then B else A) = some r) (kt : A = some r → zk Γ w G S lv (tgt) (st)) (kf : B = some r → zk Γ w G S lv (pc + 3) (st)) : zk Γ w G S lv (pc) (.int (zI a) :: st) := by
  obtain ⟨p, l, e, R, s, m, args, below, meth, c, Q, D, A, k0, n0, nL⟩ := Γ
  obtain ⟨hx, hb, hml, hown, hts, ⟨hK, hN⟩, hD, rfl, hk0, hn0, rfl⟩ := F
  intro hG H locs ls hP hS hh
  obtain ⟨h1, h2⟩ := zif_e h
  exact lv_if_ne hx hb hd ht (fun q => kt (h2 (fun z => q (by rw [z]; exact zI_zero.symm))) hG H locs ls hP hS hh) (fun q => kf (h1 ((zI_eq ha inR_0).mp (by rw [q]; exact zI_zero))) hG H locs ls hP hS hh)
theorem k_getR (F : zF Γ w cI cZ cc rm nL' own) {C : String} {T : u_T} {N ci idx : Nat} {a : Nat} (q0 : Nat) {fs : zSt → List Value} (k : Nat) (hin : ∀ w ∈ u_ws C T N, w ∈ WS) (he : ∀ S, (w S)[q0]? = some (a, .inr (ci, fs S))) (hc : vwCl[ci]? = some (C, T, N)) (hk : k < N) (hlink : (Cond.fieldLink own idx (T k).1 (T k).2.1 (T k).2.2.1) ∈ WS) {x : Nat} (hv : ∀ S, (fs S)[k]? = some (.ref x)) (hd : decode cc pc = .ok (.getfield idx, 3)) (kk : zk Γ w G S lv (pc + 3) (.ref x :: st)) : zk Γ w G S lv (pc) (.ref a :: st) := by
  obtain ⟨p, l, e, R, s, m, args, below, meth, c, Q, D, A, k0, n0, nL⟩ := Γ
  obtain ⟨hx, hb, hml, hown, hts, ⟨hK, hN⟩, hD, rfl, hk0, hn0, rfl⟩ := F
  intro hG H locs ls hP hS hh
  exact va_get hx hb hts hin hown hK hP q0 (he S) hc k hk (hts _ hlink) (fun _ h9 => h9) (hv S) hd (kk hG H locs ls hP hS hh)
theorem k_getI (F : zF Γ w cI cZ cc rm nL' own) {R : Type} {r : R} {j : Nat} {bs : List Nat} {K : Int → Option R} (hGR : G = RG bs) {C : String} {T : u_T} {N ci idx : Nat} {a : Nat} (q0 : Nat) {fs : zSt → List Value} (k : Nat) (hin : ∀ w ∈ u_ws C T N, w ∈ WS) (he : ∀ S, (w S)[q0]? = some (a, .inr (ci, fs S))) (hc : vwCl[ci]? = some (C, T, N)) (hk : k < N) (hlink : (Cond.fieldLink own idx (T k).1 (T k).2.1 (T k).2.2.1) ∈ WS) (hv : ∀ S, (fs S)[k]? = some (.int (zI (S.1 j)))) (hd : decode cc pc = .ok (.getfield idx, 3)) (h : zlt (S.1 j) K = some r) (kk : ∀ x, inR x → K x = some r → zk Γ w G S lv (pc + 3) (.int (zI x) :: st)) : zk Γ w G S lv (pc) (.ref a :: st) := by
  obtain ⟨p, l, e, R, s, m, args, below, meth, c, Q, D, A, k0, n0, nL⟩ := Γ
  obtain ⟨hx, hb, hml, hown, hts, ⟨hK, hN⟩, hD, rfl, hk0, hn0, rfl⟩ := F
  intro hG H locs ls hP hS hh
  subst hGR
  exact va_get hx hb hts hin hown hK hP q0 (he S) hc k hk (hts _ hlink) (fun _ h9 => h9) (hv S) hd (kk _ (hG.1 j) h hG H locs ls hP hS hh)
theorem k_putI (F : zF Γ w cI cZ cc rm nL' own) {R : Type} {r : R} {j : Nat} {bs : List Nat} {v : Int} {K : zSt → Option R} (hGR : G = RG bs) {C : String} {T : u_T} {N ci idx : Nat} {a : Nat} (q0 : Nat) {fs : zSt → List Value} (k : Nat) (hin : ∀ w ∈ u_ws C T N, w ∈ WS) (he : ∀ S, (w S)[q0]? = some (a, .inr (ci, fs S))) (hc : vwCl[ci]? = some (C, T, N)) (hk : k < N) (hlink : (Cond.fieldLink own idx (T k).1 (T k).2.1 (T k).2.2.1) ∈ WS) (ty0 : Nat → FieldType) (hty : ∀ k, k < N → parseFieldDescriptor (T k).2.2.1 = some (ty0 k)) (hnm : ∀ a, a < N → ∀ b, b < N → a ≠ b → (T a).2.1 ≠ (T b).2.1) (hfin : (T k).2.2.2 = false) (hI : parseFieldDescriptor (T k).2.2.1 = some .int) (hl : ∀ S, k < (fs S).length) (hs : ∀ S v, (w S).set q0 (a, .inr (ci, (fs S).set k (.int (zI v)))) = w (zset S j v)) (hr : inR v) (hd : decode cc pc = .ok (.putfield idx, 3)) (h : zlt (zset S j v) K = some r) (kk : ∀ S, K S = some r → zk Γ w G S lv (pc + 3) (st)) : zk Γ w G S lv (pc) (.int (zI v) :: .ref a :: st) := by
  obtain ⟨p, l, e, R, s, m, args, below, meth, c, Q, D, A, k0, n0, nL⟩ := Γ
  obtain ⟨hx, hb, hml, hown, hts, ⟨hK, hN⟩, hD, rfl, hk0, hn0, rfl⟩ := F
  intro hG H locs ls hP hS hh
  subst hGR
  refine va_put hx hb hts hin ty0 hty hnm hown hK hP (hD S) hS q0 (he S) hc k hk (hts _ hlink) (fun _ h9 => h9) hfin hI rfl rfl (hl S) hd (fun H1 locs1 hP1 hD1 hS1 => ?_)
  rw [hs] at hP1
  exact kk _ h (RG_set hG hr) H1 locs1 ls hP1 hS1 hh
theorem k_iald (F : zF Γ w cI cZ cc rm nL' own) {a j n : Nat} {R : Type} {r : R} {bs : List Nat} (hGR : G = RG bs) (q0 : Nat) {i : Int} {K : Int → Option R} (ha : ∀ S, (w S)[q0]? = some (a, .inl (cI, n, .inl (zA (S.2 j))))) (hi : inR i) (hd : decode cc pc = .ok (.iaload, 1)) (h : zld (S.2 j) (n : Int) i K = some r) (kk : ∀ x, inR x → K x = some r → zk Γ w G S lv (pc + 1) (.int (zI x) :: st)) : zk Γ w G S lv (pc) (.int (zI i) :: .ref a :: st) := by
  obtain ⟨p, l, e, R, s, m, args, below, meth, c, Q, D, A, k0, n0, nL⟩ := Γ
  obtain ⟨hx, hb, hml, hown, hts, ⟨hK, hN⟩, hD, rfl, hk0, hn0, rfl⟩ := F
  intro hG H locs ls hP hS hh
  subst hGR
  obtain ⟨h1, h2⟩ := zld_e h
  refine va_iald hx hb hK hP q0 0 (ha S) rfl (zvp_in hi h1) hd ?_
  rw [zI_clamp hi, zA_at h1.1]
  exact kk _ (hG.2.1 j i) h2 hG H locs ls hP hS hh
theorem k_zald (F : zF Γ w cI cZ cc rm nL' own) {a j n : Nat} {R : Type} {r : R} {bs : List Nat} (hGR : G = RG bs) (q0 : Nat) {i : Int} {K : Int → Option R} (ha : ∀ S, (w S)[q0]? = some (a, .inl (cZ, n, .inl (zA (S.2 j))))) (hi : inR i) (hd : decode cc pc = .ok (.baload, 1)) (h : zld (S.2 j) (n : Int) i K = some r) (kk : ∀ x, inR x → K x = some r → zk Γ w G S lv (pc + 1) (.int (zI x) :: st)) : zk Γ w G S lv (pc) (.int (zI i) :: .ref a :: st) := by
  obtain ⟨p, l, e, R, s, m, args, below, meth, c, Q, D, A, k0, n0, nL⟩ := Γ
  obtain ⟨hx, hb, hml, hown, hts, ⟨hK, hN⟩, hD, rfl, hk0, hn0, rfl⟩ := F
  intro hG H locs ls hP hS hh
  subst hGR
  obtain ⟨h1, h2⟩ := zld_e h
  refine va_zald hx hb hK hP q0 1 (ha S) rfl (zvp_in hi h1) hd ?_
  rw [zI_clamp hi, zA_at h1.1]
  exact kk _ (hG.2.1 j i) h2 hG H locs ls hP hS hh
theorem k_zald01 (F : zF Γ w cI cZ cc rm nL' own) {a j n : Nat} {R : Type} {r : R} {bs : List Nat} (hGR : G = RG bs) (q0 : Nat) {i : Int} {K : Int → Option R} (hj : j ∈ bs) (ha : ∀ S, (w S)[q0]? = some (a, .inl (cZ, n, .inl (zA (S.2 j))))) (hi : inR i) (hd : decode cc pc = .ok (.baload, 1)) (h : zld (S.2 j) (n : Int) i K = some r) (kk : ∀ x, inR x → (x = 0 ∨ x = 1) → K x = some r → zk Γ w G S lv (pc + 1) (.int (zI x) :: st)) : zk Γ w G S lv (pc) (.int (zI i) :: .ref a :: st) := by
  obtain ⟨p, l, e, R, s, m, args, below, meth, c, Q, D, A, k0, n0, nL⟩ := Γ
  obtain ⟨hx, hb, hml, hown, hts, ⟨hK, hN⟩, hD, rfl, hk0, hn0, rfl⟩ := F
  intro hG H locs ls hP hS hh
  subst hGR
  obtain ⟨h1, h2⟩ := zld_e h
  refine va_zald hx hb hK hP q0 1 (ha S) rfl (zvp_in hi h1) hd ?_
  rw [zI_clamp hi, zA_at h1.1]
  exact kk _ (hG.2.1 j i) (hG.2.2 j hj i) h2 hG H locs ls hP hS hh
theorem k_iast (F : zF Γ w cI cZ cc rm nL' own) {a j n : Nat} {R : Type} {r : R} {bs : List Nat} (hGR : G = RG bs) (q0 : Nat) {i v : Int} {K : zSt → Option R} (ha : ∀ S, (w S)[q0]? = some (a, .inl (cI, n, .inl (zA (S.2 j))))) (hs : ∀ S i v, 0 ≤ i → (w S).set q0 (a, .inl (cI, n, .inl (upd (zA (S.2 j)) i.toNat (zI v)))) = w (zput S j i v)) (hj : j ∉ bs) (hi : inR i) (hv : inR v) (hd : decode cc pc = .ok (.iastore, 1)) (h : zst S j (n : Int) i v K = some r) (kk : ∀ S, K S = some r → zk Γ w G S lv (pc + 1) (st)) : zk Γ w G S lv (pc) (.int (zI v) :: .int (zI i) :: .ref a :: st) := by
  obtain ⟨p, l, e, R, s, m, args, below, meth, c, Q, D, A, k0, n0, nL⟩ := Γ
  obtain ⟨hx, hb, hml, hown, hts, ⟨hK, hN⟩, hD, rfl, hk0, hn0, rfl⟩ := F
  intro hG H locs ls hP hS hh
  subst hGR
  obtain ⟨h1, h2⟩ := zst_e h
  refine va_iast hx hb hK hP (hD S) hS q0 0 (ha S) rfl (zvp_in hi h1) hd (fun H1 locs1 hP1 hD1 hS1 => ?_)
  rw [zI_clamp hi, hs S i v h1.1] at hP1
  exact kk _ h2 (RG_put hG hv (fun q => absurd q hj)) H1 locs1 ls hP1 hS1 hh
theorem k_zast (F : zF Γ w cI cZ cc rm nL' own) {a j n : Nat} {R : Type} {r : R} {bs : List Nat} (hGR : G = RG bs) (q0 : Nat) {i v : Int} {K : zSt → Option R} (ha : ∀ S, (w S)[q0]? = some (a, .inl (cZ, n, .inl (zA (S.2 j))))) (hs : ∀ S i v, 0 ≤ i → (w S).set q0 (a, .inl (cZ, n, .inl (upd (zA (S.2 j)) i.toNat (zI v)))) = w (zput S j i v)) (hi : inR i) (hv : v = 0 ∨ v = 1) (hd : decode cc pc = .ok (.bastore, 1)) (h : zst S j (n : Int) i v K = some r) (kk : ∀ S, K S = some r → zk Γ w G S lv (pc + 1) (st)) : zk Γ w G S lv (pc) (.int (zI v) :: .int (zI i) :: .ref a :: st) := by
  obtain ⟨p, l, e, R, s, m, args, below, meth, c, Q, D, A, k0, n0, nL⟩ := Γ
  obtain ⟨hx, hb, hml, hown, hts, ⟨hK, hN⟩, hD, rfl, hk0, hn0, rfl⟩ := F
  intro hG H locs ls hP hS hh
  subst hGR
  obtain ⟨h1, h2⟩ := zst_e h
  refine va_zast hx hb hK hP (hD S) hS q0 1 (ha S) rfl (zvp_in hi h1) hd (fun H1 locs1 hP1 hD1 hS1 => ?_)
  rw [zI_clamp hi, z01_nar hv, hs S i v h1.1] at hP1
  exact kk _ h2 (RG_put hG (by rcases hv with rfl | rfl <;> decide) (fun _ => hv)) H1 locs1 ls hP1 hS1 hh
theorem k_alen (F : zF Γ w cI cZ cc rm nL' own) {a j n : Nat} (q0 : Nat) (ha : ∀ S, (w S)[q0]? = some (a, .inl (cI, n, .inl (zA (S.2 j))))) (hn : Int32.ofNat n = zI (n : Int)) (hd : decode cc pc = .ok (.arraylength, 1)) (kk : zk Γ w G S lv (pc + 1) (.int (zI (n : Int)) :: st)) : zk Γ w G S lv (pc) (.ref a :: st) := by
  obtain ⟨p, l, e, R, s, m, args, below, meth, c, Q, D, A, k0, n0, nL⟩ := Γ
  obtain ⟨hx, hb, hml, hown, hts, ⟨hK, hN⟩, hD, rfl, hk0, hn0, rfl⟩ := F
  intro hG H locs ls hP hS hh
  exact va_alen hx hb hK hP q0 0 (ha S) rfl hn hd (kk hG H locs ls hP hS hh)
end Rows
end
section
/-! CONTRACTS, CALLS, ENDS -/
def zMi (l : Launch) (y : MethodName) (cy : ByteArray) (mL : Nat) (ty : FieldType) (rm : Room) (D : va_G) (cI cZ : ClassId) (A : Nat → Prop) (w : zSt → va_W) (G : zSt → Prop) (av : List Value) (S : zSt) (x : Int) (S' : zSt) : Prop :=
  Met l y (.code y cy mL (some ty) :: WS) rm (va_Pc av (fun U => va_P D vwCl (w S) U.heap ∧ zK D cI cZ U)) (va_Qi (S := Unit) (fun r _ => r = zI x ∧ inR x ∧ G S' ∧ (ty = .boolean → x = 0 ∨ x = 1)) (fun _ t => va_P D vwCl (w S') t.heap) A) 0 0 A
def zMv (l : Launch) (y : MethodName) (cy : ByteArray) (mL : Nat) (rm : Room) (D : va_G) (cI cZ : ClassId) (A : Nat → Prop) (w : zSt → va_W) (G : zSt → Prop) (av : List Value) (S : zSt) (S' : zSt) : Prop :=
  Met l y (.code y cy mL none :: WS) rm (va_Pc av (fun U => va_P D vwCl (w S) U.heap ∧ zK D cI cZ U)) (va_Qv (S := Unit) (fun _ => G S') (fun _ t => va_P D vwCl (w S') t.heap) A) 0 0 A
/-- how the place ends: with an int, with nothing -/
def zQi (Γ : zG) (w : zSt → va_W) (G : zSt → Prop) (ty : FieldType) (x : Int) (S' : zSt) : Prop :=
  match Γ with
  | (_, _, _, _, s, _, args, below, meth, _, Q, D, A, k, n, _) => k = 0 ∧ n = 0 ∧ Q = MQ below (va_Qi (S := Unit) (fun r _ => r = zI x ∧ inR x ∧ G S' ∧ (ty = .boolean → x = 0 ∨ x = 1)) (fun _ t => va_P D vwCl (w S') t.heap) A) args s 0 0 A ∧ meth.sig.returnType = some ty ∧ meth.locks = false
def zQv (Γ : zG) (w : zSt → va_W) (G : zSt → Prop) (S' : zSt) : Prop :=
  match Γ with
  | (_, _, _, _, s, _, args, below, meth, _, Q, D, A, k, n, _) => k = 0 ∧ n = 0 ∧ Q = MQ below (va_Qv (S := Unit) (fun _ => G S') (fun _ t => va_P D vwCl (w S') t.heap) A) args s 0 0 A ∧ meth.sig.returnType = none ∧ meth.locks = false
section Ends
variable {Γ : zG} {w : zSt → va_W} {cI cZ : ClassId} {cc : ByteArray} {rm : Room} {nL' : Nat} {own : String} {G : zSt → Prop} {S : zSt} {lv : List (Nat × Value)} {pc : Nat} {st : List Value}
theorem k_iret (F : zF Γ w cI cZ cc rm nL' own) {x v : Int} {S' : zSt} (hQ : zQi Γ w G .int x S') (hv : inR v) (hd : decode cc pc = .ok (.ireturn, 1)) (h : some (v, S) = some (x, S')) : zk Γ w G S lv pc [.int (zI v)] := by
  obtain ⟨p, l, e, R, s, m, args, below, meth, c, Q, D, A, k0, n0, nL⟩ := Γ
  obtain ⟨hx, hb, hml, hown, hts, ⟨hK, hN⟩, hD, rfl, hk0, hn0, rfl⟩ := F
  obtain ⟨rfl, rfl, rfl, hr, hlk⟩ := hQ
  cases h
  intro hG H locs ls hP hS hh
  exact W.iret hx hb hr (fun t ht hW => ⟨⟨_, (), rfl, ⟨rfl, hv, hG, fun q => by cases q⟩, by show va_P D vwCl (w S) t.heap; rw [ht]; exact hP⟩, hS.F ht⟩) hS.2.2 hd hlk
theorem k_zret (F : zF Γ w cI cZ cc rm nL' own) {x v : Int} {S' : zSt} (hQ : zQi Γ w G .boolean x S') (hv : v = 0 ∨ v = 1) (hd : decode cc pc = .ok (.ireturn, 1)) (h : some (v, S) = some (x, S')) : zk Γ w G S lv pc [.int (zI v)] := by
  obtain ⟨p, l, e, R, s, m, args, below, meth, c, Q, D, A, k0, n0, nL⟩ := Γ
  obtain ⟨hx, hb, hml, hown, hts, ⟨hK, hN⟩, hD, rfl, hk0, hn0, rfl⟩ := F
  obtain ⟨rfl, rfl, rfl, hr, hlk⟩ := hQ
  cases h
  intro hG H locs ls hP hS hh
  exact W.zret hx hb hr (z01_narrow hv) (fun t ht hW => ⟨⟨_, (), rfl, ⟨rfl, by rcases hv with rfl | rfl <;> decide, hG, fun _ => hv⟩, by show va_P D vwCl (w S) t.heap; rw [ht]; exact hP⟩, hS.F ht⟩) hS.2.2 hd hlk
theorem k_vret (F : zF Γ w cI cZ cc rm nL' own) {x : Int} {S' : zSt} (hQ : zQv Γ w G S') (hd : decode cc pc = .ok (.return_, 1)) (h : some ((0 : Int), S) = some (x, S')) : zk Γ w G S lv pc [] := by
  obtain ⟨p, l, e, R, s, m, args, below, meth, c, Q, D, A, k0, n0, nL⟩ := Γ
  obtain ⟨hx, hb, hml, hown, hts, ⟨hK, hN⟩, hD, rfl, hk0, hn0, rfl⟩ := F
  obtain ⟨rfl, rfl, rfl, hr, hlk⟩ := hQ
  cases h
  intro hG H locs ls hP hS hh
  exact W.vret hx hb hr (fun t ht hW => ⟨⟨(), rfl, hG, by show va_P D vwCl (w S) t.heap; rw [ht]; exact hP⟩, hS.F ht⟩) hS.2.2 hd hlk
end Ends

theorem k_start_i {l : Launch} {y : MethodName} {cc : ByteArray} {maxL : Nat} {ty : FieldType} {rm : Room} {D : va_G} {cI cZ : ClassId} {A : Nat → Prop} {w : zSt → va_W} {G : zSt → Prop} {av : List Value} {S : zSt} {x : Int} {S' : zSt} (hy : plainName y.cls = true) (hD : ∀ S, va_D A (w S)) (hG : G S) (hlen : (lg_sl av).length ≤ maxL)
    (body : ∀ Γ : zG, zF Γ w cI cZ cc rm maxL y.cls → zQi Γ w G ty x S' → zk Γ w G S (lv_args 0 av) 0 []) : zMi l y cc maxL ty rm D cI cZ A w G av S x S' := by
  refine Met.ofW (cc := cc) (maxL := maxL) (ret := (some ty)) hy rfl ?_
  intro p e s m args below meth c s₁ B hml hv
  obtain ⟨rfl, hP, hK⟩ := hv
  have hts := atoms_spec (ws := .code y cc maxL (some ty) :: WS) B.pre
  have hown : s.vm.findClass y.cls = some m.cls := findClass_of_methodNamed B.named
  have hl := lv_entry av (n := maxL) hlen
  rw [lg_entry_eq]
  exact body (p, l, e, _, s, m, _, below, meth, c, _, D, A, 0, 0, maxL) ⟨B.exec, B.bytes, hml, hown, fun w hw => hts w (List.mem_cons_of_mem _ hw), hK, hD, rfl, Nat.zero_le _, Nat.zero_le _, rfl⟩ ⟨rfl, rfl, rfl, B.returns, B.notSynchronized⟩ hG s.heap [] _ hP va_S.rf hl
theorem k_start_v {l : Launch} {y : MethodName} {cc : ByteArray} {maxL : Nat} {rm : Room} {D : va_G} {cI cZ : ClassId} {A : Nat → Prop} {w : zSt → va_W} {G : zSt → Prop} {av : List Value} {S : zSt} {S' : zSt} (hy : plainName y.cls = true) (hD : ∀ S, va_D A (w S)) (hG : G S) (hlen : (lg_sl av).length ≤ maxL)
    (body : ∀ Γ : zG, zF Γ w cI cZ cc rm maxL y.cls → zQv Γ w G S' → zk Γ w G S (lv_args 0 av) 0 []) : zMv l y cc maxL rm D cI cZ A w G av S S' := by
  refine Met.ofW (cc := cc) (maxL := maxL) (ret := none) hy rfl ?_
  intro p e s m args below meth c s₁ B hml hv
  obtain ⟨rfl, hP, hK⟩ := hv
  have hts := atoms_spec (ws := .code y cc maxL none :: WS) B.pre
  have hown : s.vm.findClass y.cls = some m.cls := findClass_of_methodNamed B.named
  have hl := lv_entry av (n := maxL) hlen
  rw [lg_entry_eq]
  exact body (p, l, e, _, s, m, _, below, meth, c, _, D, A, 0, 0, maxL) ⟨B.exec, B.bytes, hml, hown, fun w hw => hts w (List.mem_cons_of_mem _ hw), hK, hD, rfl, Nat.zero_le _, Nat.zero_le _, rfl⟩ ⟨rfl, rfl, rfl, B.returns, B.notSynchronized⟩ hG s.heap [] _ hP va_S.rf hl
/-- a callee's own words -/
def zCal (C : String) (y : MethodName) (cy : ByteArray) (mL : Nat) (ret : Option FieldType) (n : Nat) : Prop :=
  Cond.instanceMethod y ∈ WS ∧ Cond.selects C y y ∈ WS ∧ Cond.initialized C ∈ WS ∧ Cond.code y cy mL ret ∈ WS ∧ y.cls = C ∧ (y.cls ≠ "java/lang/invoke/MethodHandle" ∧ y.cls ≠ "java/lang/invoke/VarHandle") ∧ (parseMethodDescriptor y.desc).map (fun d => d.parameters.length) = some n
def zCas (C : String) (y : MethodName) (cy : ByteArray) (mL : Nat) (ret : Option FieldType) (n : Nat) : Prop :=
  Cond.static y ∈ WS ∧ Cond.initialized C ∈ WS ∧ Cond.code y cy mL ret ∈ WS ∧ y.cls = C ∧ (y.cls ≠ "java/lang/invoke/MethodHandle" ∧ y.cls ≠ "java/lang/invoke/VarHandle") ∧ (parseMethodDescriptor y.desc).map (fun d => d.parameters.length) = some n
/-- an object of the world: its place, its class -/
def zOb (w : zSt → va_W) (a : Nat) (C : String) : Prop := ∃ (q0 ci : Nat) (q : vw_C) (fs : zSt → List Value), (∀ S, (w S)[q0]? = some (a, .inr (ci, fs S))) ∧ vwCl[ci]? = some q ∧ q.1 = C
theorem zOb.recv {w : zSt → va_W} {a : Nat} {C : String} (h : zOb w a C) {D : va_G} {tys : List (ClassId × FieldType)} {s : State} {H : Heap} {S : zSt} (hK : va_K D vwCl tys s) (hP : va_P D vwCl (w S) H) : ∃ cell : Cell, H[a]? = some cell ∧ cell.vm.isStatics = false ∧ s.vm.findClass C = some cell.cls := by
  obtain ⟨q0, ci, q, fs, h1, h2, rfl⟩ := h
  exact va_recv hK hP h2 (h1 S)
theorem zblind {av : List Value} {D : va_G} {cI cZ : ClassId} {ws : va_W} : FrameBlind (va_Pc av (fun U => va_P D vwCl ws U.heap ∧ zK D cI cZ U)) := fun a U g mk q => ⟨q.1, q.2.1, zK.same (u := U) (U := U.calling g mk a) rfl q.2.2⟩
section Calls
variable {Γ : zG} {w : zSt → va_W} {cI cZ : ClassId} {cc : ByteArray} {rm : Room} {nL' : Nat} {own : String} {G : zSt → Prop} {S : zSt} {lv : List (Nat × Value)} {pc : Nat} {st : List Value}
theorem k_callVi (F : zF Γ w cI cZ cc rm nL' own) {R : Type} {r : R} {y : MethodName} {cy : ByteArray} {mL n idx : Nat} {rm2 : Room} {As : List Value} {K : Int → zSt → Option R} {x0 : Option zRes} {ty : FieldType} {C : String} {a : Nat} (hc : zCal C y cy mL (some ty) n) (hl : Cond.methodLink own idx y ∈ WS) (ho : zOb w a C)
    (hM : ∀ (l : Launch) (D : va_G) (A : Nat → Prop), (∀ S, va_D A (w S)) → G S → ∀ x S', x0 = some (x, S') → zMi l y cy mL ty rm2 D cI cZ A w G (.ref a :: As) S x S')
    (hR : rm2.cells = 0 ∧ rm2.slots = 0 ∧ rm2.frames + 1 ≤ rm.frames ∧ 8 + (mL + 11) + rm2.locals ≤ rm.locals) (hn : As.length = n) {st0 : List Value} (hst : st0 = As.reverse ++ .ref a :: st) (hW : (st.map fun v => v.category).sum ≤ 8) (hd : decode cc pc = .ok (.invokevirtual idx, 3)) (h : zbd x0 K = some r) (kk : ∀ x S, inR x → (ty = .boolean → x = 0 ∨ x = 1) → K x S = some r → zk Γ w G S lv (pc + 3) (.int (zI x) :: st)) : zk Γ w G S lv pc st0 := by
  obtain ⟨p, l, e, R, s, m, args, below, meth, c, Q, D, A, k0, n0, nL⟩ := Γ
  obtain ⟨hx, hb, hml, hown, hts, ⟨hK, hN⟩, hD, rfl, hk0, hn0, rfl⟩ := F
  intro hG H locs ls hP hS hh
  obtain ⟨x, S', h1, h2⟩ := zbd_e h
  obtain ⟨c1, c2, c3, c4, c5, c6, c7⟩ := hc
  have hg : GoodIn WS (wsV own idx C y (Cond.code y cy mL (some ty) :: WS)) := WS_sub (fun _ h => h) (fun w hw => by
    simp only [wsV, List.mem_append, List.mem_cons, List.not_mem_nil, or_false] at hw
    rcases hw with (rfl | rfl | rfl | rfl) | rfl | hw
    · exact hl
    · exact c1
    · exact c2
    · exact c3
    · exact c4
    · exact hw)
  subst hst
  refine va_calli (va_runV (As := As) (rest := st) ⟨hx, hb, hml, hown, hts⟩ (hM l D A hD hG x S' h1) (cwV n hts hg rfl hR.1 hR.2.1 ⟨c5, c6.1, c6.2, c7⟩ ⟨hR.2.2.1, hR.2.2.2⟩) ⟨zblind, ho.recv hK hP, fun U hU hW => ⟨rfl, by rw [hU]; exact hP, zK.warm hW ⟨hK, hN⟩⟩⟩ rfl hn hh.1 rfl (lv_room hW) hd ⟨hk0, hn0⟩) hS (fun q _ h => h) (fun q h => h) (fun r0 u t H1 locs1 ht hvm hw hB hz1 hk1 hS1 => ?_)
  obtain ⟨rfl, hx1, hG1, h01⟩ := hw
  rw [ht] at hB
  exact kk x S' hx1 h01 h2 hG1 H1 locs1 ls hB hS1 hh
theorem k_callSi (F : zF Γ w cI cZ cc rm nL' own) {R : Type} {r : R} {y : MethodName} {cy : ByteArray} {mL n idx : Nat} {rm2 : Room} {As : List Value} {K : Int → zSt → Option R} {x0 : Option zRes} {ty : FieldType} {C : String} (hc : zCas C y cy mL (some ty) n) (hl : Cond.methodLink own idx y ∈ WS)
    (hM : ∀ (l : Launch) (D : va_G) (A : Nat → Prop), (∀ S, va_D A (w S)) → G S → ∀ x S', x0 = some (x, S') → zMi l y cy mL ty rm2 D cI cZ A w G As S x S')
    (hR : rm2.cells = 0 ∧ rm2.slots = 0 ∧ rm2.frames + 1 ≤ rm.frames ∧ 8 + (mL + 11) + rm2.locals ≤ rm.locals) (hn : As.length = n) {st0 : List Value} (hst : st0 = As.reverse ++ st) (hW : (st.map fun v => v.category).sum ≤ 8) (hd : decode cc pc = .ok (.invokestatic idx, 3)) (h : zbd x0 K = some r) (kk : ∀ x S, inR x → (ty = .boolean → x = 0 ∨ x = 1) → K x S = some r → zk Γ w G S lv (pc + 3) (.int (zI x) :: st)) : zk Γ w G S lv pc st0 := by
  obtain ⟨p, l, e, R, s, m, args, below, meth, c, Q, D, A, k0, n0, nL⟩ := Γ
  obtain ⟨hx, hb, hml, hown, hts, ⟨hK, hN⟩, hD, rfl, hk0, hn0, rfl⟩ := F
  intro hG H locs ls hP hS hh
  obtain ⟨x, S', h1, h2⟩ := zbd_e h
  obtain ⟨c1, c3, c4, c5, c6, c7⟩ := hc
  have hg : GoodIn WS (Cond.code y cy mL (some ty) :: WS) := WS_sub (fun _ h => h) (fun w hw => by
    simp only [List.mem_cons] at hw
    rcases hw with rfl | hw
    · exact c4
    · exact hw)
  subst hst
  refine va_calli (va_runS (As := As) (rest := st) ⟨hx, hb, hml, hown, hts⟩ (hM l D A hD hG x S' h1) ⟨callB_of n hts hg rfl hR.1 hR.2.1 (by rw [c5]; exact hts _ c3) (hts _ hl) ⟨c6.1, c6.2, c7⟩ ⟨hR.2.2.1, hR.2.2.2⟩, hts _ c1⟩ ⟨zblind, fun U hU hW => ⟨rfl, by rw [hU]; exact hP, zK.warm hW ⟨hK, hN⟩⟩⟩ rfl hn hh.1 rfl (lv_room hW) hd ⟨hk0, hn0⟩) hS (fun q _ h => h) (fun q h => h) (fun r0 u t H1 locs1 ht hvm hw hB hz1 hk1 hS1 => ?_)
  obtain ⟨rfl, hx1, hG1, h01⟩ := hw
  rw [ht] at hB
  exact kk x S' hx1 h01 h2 hG1 H1 locs1 ls hB hS1 hh
theorem k_callNi (F : zF Γ w cI cZ cc rm nL' own) {R : Type} {r : R} {y : MethodName} {cy : ByteArray} {mL n idx : Nat} {rm2 : Room} {As : List Value} {K : Int → zSt → Option R} {x0 : Option zRes} {ty : FieldType} {C host : String} (hc : zCas C y cy mL (some ty) n) (hl : (own, idx, y, host) ∈ NWt)
    (hM : ∀ (l : Launch) (D : va_G) (A : Nat → Prop), (∀ S, va_D A (w S)) → G S → ∀ x S', x0 = some (x, S') → zMi l y cy mL ty rm2 D cI cZ A w G As S x S')
    (hR : rm2.cells = 0 ∧ rm2.slots = 0 ∧ rm2.frames + 1 ≤ rm.frames ∧ 8 + (mL + 11) + rm2.locals ≤ rm.locals) (hn : As.length = n) {st0 : List Value} (hst : st0 = As.reverse ++ st) (hW : (st.map fun v => v.category).sum ≤ 8) (hd : decode cc pc = .ok (.invokestatic idx, 3)) (h : zbd x0 K = some r) (kk : ∀ x S, inR x → (ty = .boolean → x = 0 ∨ x = 1) → K x S = some r → zk Γ w G S lv (pc + 3) (.int (zI x) :: st)) : zk Γ w G S lv pc st0 := by
  obtain ⟨p, l, e, R, s, m, args, below, meth, c, Q, D, A, k0, n0, nL⟩ := Γ
  obtain ⟨hx, hb, hml, hown, hts, ⟨hK, hN⟩, hD, rfl, hk0, hn0, rfl⟩ := F
  intro hG H locs ls hP hS hh
  obtain ⟨x, S', h1, h2⟩ := zbd_e h
  obtain ⟨c1, c3, c4, c5, c6, c7⟩ := hc
  have hg : GoodIn WS (Cond.code y cy mL (some ty) :: WS) := WS_sub (fun _ h => h) (fun w hw => by
    simp only [List.mem_cons] at hw
    rcases hw with rfl | hw
    · exact c4
    · exact hw)
  have hlN : va_Nw (.methodLinkNest own idx y host) s := hN _ hl
  subst hst
  refine va_calli (va_runSN (As := As) (rest := st) ⟨hx, hb, hml, hown, hts⟩ (hM l D A hD hG x S' h1) ⟨va_cnB n hts hg rfl hR.1 hR.2.1 hlN (by rw [c5]; exact hts _ c3) ⟨c6.1, c6.2, c7⟩ ⟨hR.2.2.1, hR.2.2.2⟩, hts _ c1, trivial⟩ ⟨zblind, fun U hU hW => ⟨rfl, by rw [hU]; exact hP, zK.warm hW ⟨hK, hN⟩⟩⟩ rfl hn hh.1 rfl (lv_room hW) hd ⟨hk0, hn0⟩) hS (fun q _ h => h) (fun q h => h) (fun r0 u t H1 locs1 ht hvm hw hB hz1 hk1 hS1 => ?_)
  obtain ⟨rfl, hx1, hG1, h01⟩ := hw
  rw [ht] at hB
  exact kk x S' hx1 h01 h2 hG1 H1 locs1 ls hB hS1 hh
theorem k_callVv (F : zF Γ w cI cZ cc rm nL' own) {R : Type} {r : R} {y : MethodName} {cy : ByteArray} {mL n idx : Nat} {rm2 : Room} {As : List Value} {K : Int → zSt → Option R} {x0 : Option zRes} {C : String} {a : Nat} (hc : zCal C y cy mL none n) (hl : Cond.methodLink own idx y ∈ WS) (ho : zOb w a C)
    (hM : ∀ (l : Launch) (D : va_G) (A : Nat → Prop), (∀ S, va_D A (w S)) → G S → ∀ x S', x0 = some (x, S') → zMv l y cy mL rm2 D cI cZ A w G (.ref a :: As) S S')
    (hR : rm2.cells = 0 ∧ rm2.slots = 0 ∧ rm2.frames + 1 ≤ rm.frames ∧ 8 + (mL + 11) + rm2.locals ≤ rm.locals) (hn : As.length = n) {st0 : List Value} (hst : st0 = As.reverse ++ .ref a :: st) (hW : (st.map fun v => v.category).sum ≤ 8) (hd : decode cc pc = .ok (.invokevirtual idx, 3)) (h : zbd x0 K = some r) (kk : ∀ x S, K x S = some r → zk Γ w G S lv (pc + 3) (st)) : zk Γ w G S lv pc st0 := by
  obtain ⟨p, l, e, R, s, m, args, below, meth, c, Q, D, A, k0, n0, nL⟩ := Γ
  obtain ⟨hx, hb, hml, hown, hts, ⟨hK, hN⟩, hD, rfl, hk0, hn0, rfl⟩ := F
  intro hG H locs ls hP hS hh
  obtain ⟨x, S', h1, h2⟩ := zbd_e h
  obtain ⟨c1, c2, c3, c4, c5, c6, c7⟩ := hc
  have hg : GoodIn WS (wsV own idx C y (Cond.code y cy mL none :: WS)) := WS_sub (fun _ h => h) (fun w hw => by
    simp only [wsV, List.mem_append, List.mem_cons, List.not_mem_nil, or_false] at hw
    rcases hw with (rfl | rfl | rfl | rfl) | rfl | hw
    · exact hl
    · exact c1
    · exact c2
    · exact c3
    · exact c4
    · exact hw)
  subst hst
  refine va_callv (va_runV (As := As) (rest := st) ⟨hx, hb, hml, hown, hts⟩ (hM l D A hD hG x S' h1) (cwV n hts hg rfl hR.1 hR.2.1 ⟨c5, c6.1, c6.2, c7⟩ ⟨hR.2.2.1, hR.2.2.2⟩) ⟨zblind, ho.recv hK hP, fun U hU hW => ⟨rfl, by rw [hU]; exact hP, zK.warm hW ⟨hK, hN⟩⟩⟩ rfl hn hh.1 rfl (lv_room hW) hd ⟨hk0, hn0⟩) hS (fun q _ h => h) (fun q h => h) (fun u t H1 locs1 ht hvm hw hB hz1 hk1 hS1 => ?_)
  rw [ht] at hB
  exact kk x S' h2 hw H1 locs1 ls hB hS1 hh
theorem k_callSv (F : zF Γ w cI cZ cc rm nL' own) {R : Type} {r : R} {y : MethodName} {cy : ByteArray} {mL n idx : Nat} {rm2 : Room} {As : List Value} {K : Int → zSt → Option R} {x0 : Option zRes} {C : String} (hc : zCas C y cy mL none n) (hl : Cond.methodLink own idx y ∈ WS)
    (hM : ∀ (l : Launch) (D : va_G) (A : Nat → Prop), (∀ S, va_D A (w S)) → G S → ∀ x S', x0 = some (x, S') → zMv l y cy mL rm2 D cI cZ A w G As S S')
    (hR : rm2.cells = 0 ∧ rm2.slots = 0 ∧ rm2.frames + 1 ≤ rm.frames ∧ 8 + (mL + 11) + rm2.locals ≤ rm.locals) (hn : As.length = n) {st0 : List Value} (hst : st0 = As.reverse ++ st) (hW : (st.map fun v => v.category).sum ≤ 8) (hd : decode cc pc = .ok (.invokestatic idx, 3)) (h : zbd x0 K = some r) (kk : ∀ x S, K x S = some r → zk Γ w G S lv (pc + 3) (st)) : zk Γ w G S lv pc st0 := by
  obtain ⟨p, l, e, R, s, m, args, below, meth, c, Q, D, A, k0, n0, nL⟩ := Γ
  obtain ⟨hx, hb, hml, hown, hts, ⟨hK, hN⟩, hD, rfl, hk0, hn0, rfl⟩ := F
  intro hG H locs ls hP hS hh
  obtain ⟨x, S', h1, h2⟩ := zbd_e h
  obtain ⟨c1, c3, c4, c5, c6, c7⟩ := hc
  have hg : GoodIn WS (Cond.code y cy mL none :: WS) := WS_sub (fun _ h => h) (fun w hw => by
    simp only [List.mem_cons] at hw
    rcases hw with rfl | hw
    · exact c4
    · exact hw)
  subst hst
  refine va_callv (va_runS (As := As) (rest := st) ⟨hx, hb, hml, hown, hts⟩ (hM l D A hD hG x S' h1) ⟨callB_of n hts hg rfl hR.1 hR.2.1 (by rw [c5]; exact hts _ c3) (hts _ hl) ⟨c6.1, c6.2, c7⟩ ⟨hR.2.2.1, hR.2.2.2⟩, hts _ c1⟩ ⟨zblind, fun U hU hW => ⟨rfl, by rw [hU]; exact hP, zK.warm hW ⟨hK, hN⟩⟩⟩ rfl hn hh.1 rfl (lv_room hW) hd ⟨hk0, hn0⟩) hS (fun q _ h => h) (fun q h => h) (fun u t H1 locs1 ht hvm hw hB hz1 hk1 hS1 => ?_)
  rw [ht] at hB
  exact kk x S' h2 hw H1 locs1 ls hB hS1 hh
theorem k_callNv (F : zF Γ w cI cZ cc rm nL' own) {R : Type} {r : R} {y : MethodName} {cy : ByteArray} {mL n idx : Nat} {rm2 : Room} {As : List Value} {K : Int → zSt → Option R} {x0 : Option zRes} {C host : String} (hc : zCas C y cy mL none n) (hl : (own, idx, y, host) ∈ NWt)
    (hM : ∀ (l : Launch) (D : va_G) (A : Nat → Prop), (∀ S, va_D A (w S)) → G S → ∀ x S', x0 = some (x, S') → zMv l y cy mL rm2 D cI cZ A w G As S S')
    (hR : rm2.cells = 0 ∧ rm2.slots = 0 ∧ rm2.frames + 1 ≤ rm.frames ∧ 8 + (mL + 11) + rm2.locals ≤ rm.locals) (hn : As.length = n) {st0 : List Value} (hst : st0 = As.reverse ++ st) (hW : (st.map fun v => v.category).sum ≤ 8) (hd : decode cc pc = .ok (.invokestatic idx, 3)) (h : zbd x0 K = some r) (kk : ∀ x S, K x S = some r → zk Γ w G S lv (pc + 3) (st)) : zk Γ w G S lv pc st0 := by
  obtain ⟨p, l, e, R, s, m, args, below, meth, c, Q, D, A, k0, n0, nL⟩ := Γ
  obtain ⟨hx, hb, hml, hown, hts, ⟨hK, hN⟩, hD, rfl, hk0, hn0, rfl⟩ := F
  intro hG H locs ls hP hS hh
  obtain ⟨x, S', h1, h2⟩ := zbd_e h
  obtain ⟨c1, c3, c4, c5, c6, c7⟩ := hc
  have hg : GoodIn WS (Cond.code y cy mL none :: WS) := WS_sub (fun _ h => h) (fun w hw => by
    simp only [List.mem_cons] at hw
    rcases hw with rfl | hw
    · exact c4
    · exact hw)
  have hlN : va_Nw (.methodLinkNest own idx y host) s := hN _ hl
  subst hst
  refine va_callv (va_runSN (As := As) (rest := st) ⟨hx, hb, hml, hown, hts⟩ (hM l D A hD hG x S' h1) ⟨va_cnB n hts hg rfl hR.1 hR.2.1 hlN (by rw [c5]; exact hts _ c3) ⟨c6.1, c6.2, c7⟩ ⟨hR.2.2.1, hR.2.2.2⟩, hts _ c1, trivial⟩ ⟨zblind, fun U hU hW => ⟨rfl, by rw [hU]; exact hP, zK.warm hW ⟨hK, hN⟩⟩⟩ rfl hn hh.1 rfl (lv_room hW) hd ⟨hk0, hn0⟩) hS (fun q _ h => h) (fun q h => h) (fun u t H1 locs1 ht hvm hw hB hz1 hk1 hS1 => ?_)
  rw [ht] at hB
  exact kk x S' h2 hw H1 locs1 ls hB hS1 hh
end Calls
end
section
/-! THE WORDS that the methods need, each by its place in the tables -/
theorem wm_0 : Cond.static yJ9_min_7cf53 ∈ WS := WS_in 564 (by decide +kernel) (by decide +kernel)
theorem wm_1 : Cond.initialized "java/lang/Math" ∈ WS := WS_in 23 (by decide +kernel) (by decide +kernel)
theorem wm_2 : Cond.code yJ9_min_7cf53 cJ9_min_7cf53 2 (some .int) ∈ WS := WS_in 565 (by decide +kernel) (by decide +kernel)
theorem wm_3 : Cond.static yJ9_abs_0f7a4 ∈ WS := WS_in 551 (by decide +kernel) (by decide +kernel)
theorem wm_4 : Cond.code yJ9_abs_0f7a4 cJ9_abs_0f7a4 1 (some .int) ∈ WS := WS_in 552 (by decide +kernel) (by decide +kernel)
theorem wm_5 : Cond.static yJ7_fill_53178 ∈ WS := WS_in 463 (by decide +kernel) (by decide +kernel)
theorem wm_6 : Cond.initialized "java/util/Arrays" ∈ WS := WS_in 24 (by decide +kernel) (by decide +kernel)
theorem wm_7 : Cond.code yJ7_fill_53178 cJ7_fill_53178 4 none ∈ WS := WS_in 464 (by decide +kernel) (by decide +kernel)
theorem wm_8 : Cond.classLink RX8 283 "java/lang/IllegalArgumentException" ∈ WS := WS_in 231 (by decide +kernel) (by decide +kernel)
theorem wm_9 : Cond.initialized "java/lang/IllegalArgumentException" ∈ WS := WS_in 20 (by decide +kernel) (by decide +kernel)
theorem wm_10 : Cond.classLink RX8 66 "java/lang/IllegalStateException" ∈ WS := WS_in 303 (by decide +kernel) (by decide +kernel)
theorem wm_11 : Cond.initialized "java/lang/IllegalStateException" ∈ WS := WS_in 21 (by decide +kernel) (by decide +kernel)
theorem wm_12 : Cond.classLink RX8 99 "java/lang/IndexOutOfBoundsException" ∈ WS := WS_in 384 (by decide +kernel) (by decide +kernel)
theorem wm_13 : Cond.initialized "java/lang/IndexOutOfBoundsException" ∈ WS := WS_in 22 (by decide +kernel) (by decide +kernel)
theorem wm_14 : Cond.methodLink RX0 3 objectInit ∈ WS := WS_in 71 (by decide +kernel) (by decide +kernel)
theorem wm_15 : Cond.instanceMethod objectInit ∈ WS := WS_in 31 (by decide +kernel) (by decide +kernel)
theorem wm_16 : Cond.code objectInit ⟨#[0xb1]⟩ 1 none ∈ WS := WS_in 32 (by decide +kernel) (by decide +kernel)
theorem wm_17 : Cond.arrayClass .int ∈ WS := WS_in 46 (by decide +kernel) (by decide +kernel)
theorem wm_18 : Cond.arrayClass .boolean ∈ WS := WS_in 128 (by decide +kernel) (by decide +kernel)
theorem wm_19 : Cond.methodLink RX4 3 objectInit ∈ WS := WS_in 38 (by decide +kernel) (by decide +kernel)
theorem wm_20 : Cond.fieldLink RX4 9 (TX4 0).1 (TX4 0).2.1 (TX4 0).2.2.1 ∈ WS := WS_in 39 (by decide +kernel) (by decide +kernel)
theorem wm_21 : Cond.methodLink RX7 3 objectInit ∈ WS := WS_in 52 (by decide +kernel) (by decide +kernel)
theorem wm_22 : Cond.fieldLink RX7 9 (TX7 0).1 (TX7 0).2.1 (TX7 0).2.2.1 ∈ WS := WS_in 53 (by decide +kernel) (by decide +kernel)
theorem wm_23 : Cond.fieldLink RX7 15 (TX7 1).1 (TX7 1).2.1 (TX7 1).2.2.1 ∈ WS := WS_in 54 (by decide +kernel) (by decide +kernel)
theorem wm_24 : Cond.fieldLink RX7 18 (TX7 2).1 (TX7 2).2.1 (TX7 2).2.2.1 ∈ WS := WS_in 55 (by decide +kernel) (by decide +kernel)
theorem wm_25 : Cond.fieldLink RX0 9 (TX0 0).1 (TX0 0).2.1 (TX0 0).2.2.1 ∈ WS := WS_in 72 (by decide +kernel) (by decide +kernel)
theorem wm_26 : Cond.fieldLink RX0 15 (TX0 1).1 (TX0 1).2.1 (TX0 1).2.2.1 ∈ WS := WS_in 73 (by decide +kernel) (by decide +kernel)
theorem wm_27 : Cond.fieldLink RX0 18 (TX0 2).1 (TX0 2).2.1 (TX0 2).2.2.1 ∈ WS := WS_in 74 (by decide +kernel) (by decide +kernel)
theorem wm_28 : Cond.methodLink RX1 3 objectInit ∈ WS := WS_in 90 (by decide +kernel) (by decide +kernel)
theorem wm_29 : Cond.fieldLink RX1 9 (TX1 0).1 (TX1 0).2.1 (TX1 0).2.2.1 ∈ WS := WS_in 91 (by decide +kernel) (by decide +kernel)
theorem wm_30 : Cond.fieldLink RX1 15 (TX1 1).1 (TX1 1).2.1 (TX1 1).2.2.1 ∈ WS := WS_in 92 (by decide +kernel) (by decide +kernel)
theorem wm_31 : Cond.fieldLink RX1 18 (TX1 2).1 (TX1 2).2.1 (TX1 2).2.2.1 ∈ WS := WS_in 93 (by decide +kernel) (by decide +kernel)
theorem wm_32 : Cond.fieldLink RX1 21 (TX1 3).1 (TX1 3).2.1 (TX1 3).2.2.1 ∈ WS := WS_in 94 (by decide +kernel) (by decide +kernel)
theorem wm_33 : Cond.fieldLink RX1 24 (TX1 4).1 (TX1 4).2.1 (TX1 4).2.2.1 ∈ WS := WS_in 95 (by decide +kernel) (by decide +kernel)
theorem wm_34 : Cond.fieldLink RX1 27 (TX1 5).1 (TX1 5).2.1 (TX1 5).2.2.1 ∈ WS := WS_in 96 (by decide +kernel) (by decide +kernel)
theorem wm_35 : Cond.fieldLink RX1 30 (TX1 6).1 (TX1 6).2.1 (TX1 6).2.2.1 ∈ WS := WS_in 97 (by decide +kernel) (by decide +kernel)
theorem wm_36 : Cond.fieldLink RX1 33 (TX1 7).1 (TX1 7).2.1 (TX1 7).2.2.1 ∈ WS := WS_in 98 (by decide +kernel) (by decide +kernel)
theorem wm_37 : Cond.fieldLink RX1 36 (TX1 8).1 (TX1 8).2.1 (TX1 8).2.2.1 ∈ WS := WS_in 99 (by decide +kernel) (by decide +kernel)
theorem wm_38 : Cond.fieldLink RX1 39 (TX1 9).1 (TX1 9).2.1 (TX1 9).2.2.1 ∈ WS := WS_in 100 (by decide +kernel) (by decide +kernel)
theorem wm_39 : Cond.fieldLink RX1 43 (TX1 10).1 (TX1 10).2.1 (TX1 10).2.2.1 ∈ WS := WS_in 101 (by decide +kernel) (by decide +kernel)
theorem wm_40 : Cond.methodLink RX5 3 objectInit ∈ WS := WS_in 134 (by decide +kernel) (by decide +kernel)
theorem wm_41 : Cond.fieldLink RX5 9 (TX5 0).1 (TX5 0).2.1 (TX5 0).2.2.1 ∈ WS := WS_in 135 (by decide +kernel) (by decide +kernel)
theorem wm_42 : Cond.fieldLink RX5 15 (TX5 1).1 (TX5 1).2.1 (TX5 1).2.2.1 ∈ WS := WS_in 136 (by decide +kernel) (by decide +kernel)
theorem wm_43 : Cond.fieldLink RX5 18 (TX5 2).1 (TX5 2).2.1 (TX5 2).2.2.1 ∈ WS := WS_in 137 (by decide +kernel) (by decide +kernel)
theorem wm_44 : Cond.fieldLink RX5 21 (TX5 3).1 (TX5 3).2.1 (TX5 3).2.2.1 ∈ WS := WS_in 138 (by decide +kernel) (by decide +kernel)
theorem wm_45 : Cond.methodLink RX3 3 objectInit ∈ WS := WS_in 161 (by decide +kernel) (by decide +kernel)
theorem wm_46 : Cond.fieldLink RX3 9 (TX3 0).1 (TX3 0).2.1 (TX3 0).2.2.1 ∈ WS := WS_in 162 (by decide +kernel) (by decide +kernel)
theorem wm_47 : Cond.methodLink RX6 3 objectInit ∈ WS := WS_in 155 (by decide +kernel) (by decide +kernel)
theorem wm_48 : Cond.classLink RX6 9 RX3 ∈ WS := WS_in 156 (by decide +kernel) (by decide +kernel)
theorem wm_49 : Cond.instantiable RX3 2 ∈ WS := WS_in 157 (by decide +kernel) (by decide +kernel)
theorem wm_50 : Cond.initialized RX3 ∈ WS := WS_in 15 (by decide +kernel) (by decide +kernel)
theorem wm_51 : Cond.instanceMethod yX3_init ∈ WS := WS_in 159 (by decide +kernel) (by decide +kernel)
theorem wm_52 : Cond.code yX3_init cX3_init 1 none ∈ WS := WS_in 160 (by decide +kernel) (by decide +kernel)
theorem wm_53 : Cond.fieldLink RX6 12 (TX6 0).1 (TX6 0).2.1 (TX6 0).2.2.1 ∈ WS := WS_in 168 (by decide +kernel) (by decide +kernel)
theorem wm_54 : Cond.fieldLink RX6 18 (TX6 1).1 (TX6 1).2.1 (TX6 1).2.2.1 ∈ WS := WS_in 169 (by decide +kernel) (by decide +kernel)
theorem wm_55 : Cond.fieldLink RX6 21 (TX6 2).1 (TX6 2).2.1 (TX6 2).2.2.1 ∈ WS := WS_in 170 (by decide +kernel) (by decide +kernel)
theorem wm_56 : Cond.methodLink RX2 3 objectInit ∈ WS := WS_in 187 (by decide +kernel) (by decide +kernel)
theorem wm_57 : Cond.fieldLink RX2 9 (TX2 0).1 (TX2 0).2.1 (TX2 0).2.2.1 ∈ WS := WS_in 188 (by decide +kernel) (by decide +kernel)
theorem wm_58 : Cond.fieldLink RX2 15 (TX2 1).1 (TX2 1).2.1 (TX2 1).2.2.1 ∈ WS := WS_in 189 (by decide +kernel) (by decide +kernel)
theorem wm_59 : Cond.fieldLink RX2 18 (TX2 2).1 (TX2 2).2.1 (TX2 2).2.2.1 ∈ WS := WS_in 190 (by decide +kernel) (by decide +kernel)
theorem wm_60 : Cond.methodLink RX8 3 objectInit ∈ WS := WS_in 30 (by decide +kernel) (by decide +kernel)
theorem wm_61 : Cond.classLink RX8 9 RX4 ∈ WS := WS_in 33 (by decide +kernel) (by decide +kernel)
theorem wm_62 : Cond.instantiable RX4 2 ∈ WS := WS_in 34 (by decide +kernel) (by decide +kernel)
theorem wm_63 : Cond.initialized RX4 ∈ WS := WS_in 9 (by decide +kernel) (by decide +kernel)
theorem wm_64 : Cond.instanceMethod yX4_init ∈ WS := WS_in 36 (by decide +kernel) (by decide +kernel)
theorem wm_65 : Cond.code yX4_init cX4_init 1 none ∈ WS := WS_in 37 (by decide +kernel) (by decide +kernel)
theorem wm_66 : Cond.fieldLink RX8 12 (TX8 0).1 (TX8 0).2.1 (TX8 0).2.2.1 ∈ WS := WS_in 202 (by decide +kernel) (by decide +kernel)
theorem wm_67 : Cond.classLink RX8 16 RX7 ∈ WS := WS_in 47 (by decide +kernel) (by decide +kernel)
theorem wm_68 : Cond.instantiable RX7 4 ∈ WS := WS_in 48 (by decide +kernel) (by decide +kernel)
theorem wm_69 : Cond.initialized RX7 ∈ WS := WS_in 10 (by decide +kernel) (by decide +kernel)
theorem wm_70 : Cond.instanceMethod yX7_init ∈ WS := WS_in 50 (by decide +kernel) (by decide +kernel)
theorem wm_71 : Cond.code yX7_init cX7_init 1 none ∈ WS := WS_in 51 (by decide +kernel) (by decide +kernel)
theorem wm_72 : Cond.fieldLink RX8 19 (TX8 1).1 (TX8 1).2.1 (TX8 1).2.2.1 ∈ WS := WS_in 203 (by decide +kernel) (by decide +kernel)
theorem wm_73 : Cond.classLink RX8 23 RX0 ∈ WS := WS_in 66 (by decide +kernel) (by decide +kernel)
theorem wm_74 : Cond.instantiable RX0 4 ∈ WS := WS_in 67 (by decide +kernel) (by decide +kernel)
theorem wm_75 : Cond.initialized RX0 ∈ WS := WS_in 11 (by decide +kernel) (by decide +kernel)
theorem wm_76 : Cond.instanceMethod yX0_init ∈ WS := WS_in 69 (by decide +kernel) (by decide +kernel)
theorem wm_77 : Cond.code yX0_init cX0_init 1 none ∈ WS := WS_in 70 (by decide +kernel) (by decide +kernel)
theorem wm_78 : Cond.fieldLink RX8 26 (TX8 2).1 (TX8 2).2.1 (TX8 2).2.2.1 ∈ WS := WS_in 204 (by decide +kernel) (by decide +kernel)
theorem wm_79 : Cond.classLink RX8 30 RX1 ∈ WS := WS_in 85 (by decide +kernel) (by decide +kernel)
theorem wm_80 : Cond.instantiable RX1 12 ∈ WS := WS_in 86 (by decide +kernel) (by decide +kernel)
theorem wm_81 : Cond.initialized RX1 ∈ WS := WS_in 12 (by decide +kernel) (by decide +kernel)
theorem wm_82 : Cond.instanceMethod yX1_init ∈ WS := WS_in 88 (by decide +kernel) (by decide +kernel)
theorem wm_83 : Cond.code yX1_init cX1_init 1 none ∈ WS := WS_in 89 (by decide +kernel) (by decide +kernel)
theorem wm_84 : Cond.fieldLink RX8 33 (TX8 3).1 (TX8 3).2.1 (TX8 3).2.2.1 ∈ WS := WS_in 205 (by decide +kernel) (by decide +kernel)
theorem wm_85 : Cond.classLink RX8 37 RX5 ∈ WS := WS_in 129 (by decide +kernel) (by decide +kernel)
theorem wm_86 : Cond.instantiable RX5 5 ∈ WS := WS_in 130 (by decide +kernel) (by decide +kernel)
theorem wm_87 : Cond.initialized RX5 ∈ WS := WS_in 13 (by decide +kernel) (by decide +kernel)
theorem wm_88 : Cond.instanceMethod yX5_init ∈ WS := WS_in 132 (by decide +kernel) (by decide +kernel)
theorem wm_89 : Cond.code yX5_init cX5_init 1 none ∈ WS := WS_in 133 (by decide +kernel) (by decide +kernel)
theorem wm_90 : Cond.fieldLink RX8 40 (TX8 4).1 (TX8 4).2.1 (TX8 4).2.2.1 ∈ WS := WS_in 206 (by decide +kernel) (by decide +kernel)
theorem wm_91 : Cond.classLink RX8 44 RX6 ∈ WS := WS_in 150 (by decide +kernel) (by decide +kernel)
theorem wm_92 : Cond.instantiable RX6 5 ∈ WS := WS_in 151 (by decide +kernel) (by decide +kernel)
theorem wm_93 : Cond.initialized RX6 ∈ WS := WS_in 14 (by decide +kernel) (by decide +kernel)
theorem wm_94 : Cond.instanceMethod yX6_init ∈ WS := WS_in 153 (by decide +kernel) (by decide +kernel)
theorem wm_95 : Cond.code yX6_init cX6_init 1 none ∈ WS := WS_in 154 (by decide +kernel) (by decide +kernel)
theorem wm_96 : Cond.fieldLink RX8 47 (TX8 5).1 (TX8 5).2.1 (TX8 5).2.2.1 ∈ WS := WS_in 207 (by decide +kernel) (by decide +kernel)
theorem wm_97 : Cond.classLink RX8 51 RX2 ∈ WS := WS_in 182 (by decide +kernel) (by decide +kernel)
theorem wm_98 : Cond.instantiable RX2 5 ∈ WS := WS_in 183 (by decide +kernel) (by decide +kernel)
theorem wm_99 : Cond.initialized RX2 ∈ WS := WS_in 16 (by decide +kernel) (by decide +kernel)
theorem wm_100 : Cond.instanceMethod yX2_init ∈ WS := WS_in 185 (by decide +kernel) (by decide +kernel)
theorem wm_101 : Cond.code yX2_init cX2_init 1 none ∈ WS := WS_in 186 (by decide +kernel) (by decide +kernel)
theorem wm_102 : Cond.fieldLink RX8 54 (TX8 6).1 (TX8 6).2.1 (TX8 6).2.2.1 ∈ WS := WS_in 208 (by decide +kernel) (by decide +kernel)
theorem wm_103 : Cond.fieldLink RX0 21 (TX0 3).1 (TX0 3).2.1 (TX0 3).2.2.1 ∈ WS := WS_in 75 (by decide +kernel) (by decide +kernel)
theorem wm_104 : Cond.code yX0_isFull cX0_isFull 1 (some .boolean) ∈ WS := WS_in 412 (by decide +kernel) (by decide +kernel)
theorem wm_105 : Cond.instanceMethod yX0_isFull ∈ WS := WS_in 410 (by decide +kernel) (by decide +kernel)
theorem wm_106 : Cond.selects RX0 yX0_isFull yX0_isFull ∈ WS := WS_in 411 (by decide +kernel) (by decide +kernel)
theorem wm_107 : Cond.methodLink RX0 25 yX0_isFull ∈ WS := WS_in 418 (by decide +kernel) (by decide +kernel)
theorem wm_108 : Cond.fieldLink RX1 46 (TX1 11).1 (TX1 11).2.1 (TX1 11).2.2.1 ∈ WS := WS_in 102 (by decide +kernel) (by decide +kernel)
theorem wm_109 : Cond.code yX1_isFull cX1_isFull 1 (some .boolean) ∈ WS := WS_in 510 (by decide +kernel) (by decide +kernel)
theorem wm_110 : Cond.instanceMethod yX1_isFull ∈ WS := WS_in 508 (by decide +kernel) (by decide +kernel)
theorem wm_111 : Cond.selects RX1 yX1_isFull yX1_isFull ∈ WS := WS_in 509 (by decide +kernel) (by decide +kernel)
theorem wm_112 : Cond.methodLink RX1 50 yX1_isFull ∈ WS := WS_in 522 (by decide +kernel) (by decide +kernel)
theorem wm_113 : Cond.code yX1_has cX1_has 2 (some .boolean) ∈ WS := WS_in 434 (by decide +kernel) (by decide +kernel)
theorem wm_114 : Cond.instanceMethod yX1_has ∈ WS := WS_in 432 (by decide +kernel) (by decide +kernel)
theorem wm_115 : Cond.selects RX1 yX1_has yX1_has ∈ WS := WS_in 433 (by decide +kernel) (by decide +kernel)
theorem wm_116 : Cond.methodLink RX1 54 yX1_has ∈ WS := WS_in 453 (by decide +kernel) (by decide +kernel)
theorem wm_117 : Cond.initialized RX8 ∈ WS := WS_in 8 (by decide +kernel) (by decide +kernel)
theorem wm_118 : Cond.code yX8_at cX8_at 2 (some .int) ∈ WS := WS_in 350 (by decide +kernel) (by decide +kernel)
theorem wm_119 : Cond.static yX8_at ∈ WS := WS_in 349 (by decide +kernel) (by decide +kernel)
theorem wm_120 : Cond.code yX1_isHook cX1_isHook 3 (some .boolean) ∈ WS := WS_in 545 (by decide +kernel) (by decide +kernel)
theorem wm_121 : Cond.instanceMethod yX1_isHook ∈ WS := WS_in 543 (by decide +kernel) (by decide +kernel)
theorem wm_122 : Cond.selects RX1 yX1_isHook yX1_isHook ∈ WS := WS_in 544 (by decide +kernel) (by decide +kernel)
theorem wm_123 : Cond.methodLink RX1 62 yX1_isHook ∈ WS := WS_in 542 (by decide +kernel) (by decide +kernel)
theorem wm_124 : Cond.methodLink RX1 66 yJ9_min_7cf53 ∈ WS := WS_in 563 (by decide +kernel) (by decide +kernel)
theorem wm_125 : Cond.fieldLink RX7 21 (TX7 3).1 (TX7 3).2.1 (TX7 3).2.2.1 ∈ WS := WS_in 56 (by decide +kernel) (by decide +kernel)
theorem wm_126 : Cond.code yX7_has cX7_has 2 (some .boolean) ∈ WS := WS_in 366 (by decide +kernel) (by decide +kernel)
theorem wm_127 : Cond.instanceMethod yX7_has ∈ WS := WS_in 364 (by decide +kernel) (by decide +kernel)
theorem wm_128 : Cond.selects RX7 yX7_has yX7_has ∈ WS := WS_in 365 (by decide +kernel) (by decide +kernel)
theorem wm_129 : Cond.methodLink RX7 29 yX7_has ∈ WS := WS_in 363 (by decide +kernel) (by decide +kernel)
theorem wm_130 : Cond.code yX7_sizeOf cX7_sizeOf 2 (some .int) ∈ WS := WS_in 362 (by decide +kernel) (by decide +kernel)
theorem wm_131 : Cond.instanceMethod yX7_sizeOf ∈ WS := WS_in 360 (by decide +kernel) (by decide +kernel)
theorem wm_132 : Cond.selects RX7 yX7_sizeOf yX7_sizeOf ∈ WS := WS_in 361 (by decide +kernel) (by decide +kernel)
theorem wm_133 : Cond.methodLink RX7 25 yX7_sizeOf ∈ WS := WS_in 359 (by decide +kernel) (by decide +kernel)
theorem wm_134 : Cond.code yX7_hasPlace cX7_hasPlace 3 (some .boolean) ∈ WS := WS_in 358 (by decide +kernel) (by decide +kernel)
theorem wm_135 : Cond.instanceMethod yX7_hasPlace ∈ WS := WS_in 356 (by decide +kernel) (by decide +kernel)
theorem wm_136 : Cond.selects RX7 yX7_hasPlace yX7_hasPlace ∈ WS := WS_in 357 (by decide +kernel) (by decide +kernel)
theorem wm_137 : Cond.methodLink RX7 33 yX7_hasPlace ∈ WS := WS_in 355 (by decide +kernel) (by decide +kernel)
theorem wm_138 : Cond.code yX7_wordAt cX7_wordAt 3 (some .int) ∈ WS := WS_in 404 (by decide +kernel) (by decide +kernel)
theorem wm_139 : Cond.instanceMethod yX7_wordAt ∈ WS := WS_in 402 (by decide +kernel) (by decide +kernel)
theorem wm_140 : Cond.selects RX7 yX7_wordAt yX7_wordAt ∈ WS := WS_in 403 (by decide +kernel) (by decide +kernel)
theorem wm_141 : Cond.methodLink RX7 54 yX7_wordAt ∈ WS := WS_in 516 (by decide +kernel) (by decide +kernel)
theorem wm_142 : Cond.methodLink RX7 57 yJ9_abs_0f7a4 ∈ WS := WS_in 550 (by decide +kernel) (by decide +kernel)
theorem wm_143 : Cond.code yX7_nearest cX7_nearest 6 (some .int) ∈ WS := WS_in 549 (by decide +kernel) (by decide +kernel)
theorem wm_144 : Cond.instanceMethod yX7_nearest ∈ WS := WS_in 547 (by decide +kernel) (by decide +kernel)
theorem wm_145 : Cond.selects RX7 yX7_nearest yX7_nearest ∈ WS := WS_in 548 (by decide +kernel) (by decide +kernel)
theorem wm_146 : Cond.methodLink RX1 72 yX7_nearest ∈ WS := WS_in 546 (by decide +kernel) (by decide +kernel)
theorem wm_147 : Cond.methodLink RX1 84 yJ7_fill_53178 ∈ WS := WS_in 462 (by decide +kernel) (by decide +kernel)
theorem wm_148 : Cond.code yX1_isLight cX1_isLight 2 (some .boolean) ∈ WS := WS_in 468 (by decide +kernel) (by decide +kernel)
theorem wm_149 : Cond.instanceMethod yX1_isLight ∈ WS := WS_in 467 (by decide +kernel) (by decide +kernel)
theorem wm_150 : Cond.selects RX1 yX1_isLight yX1_isLight ∈ WS := WS_in 4 (by decide +kernel) (by decide +kernel)
theorem wm_151 : Cond.methodLink RX1 81 yX1_isLight ∈ WS := WS_in 465 (by decide +kernel) (by decide +kernel)
theorem wm_152 : Cond.code yX1_burdenOf cX1_burdenOf 1 (some .int) ∈ WS := WS_in 471 (by decide +kernel) (by decide +kernel)
theorem wm_153 : Cond.static yX1_burdenOf ∈ WS := WS_in 470 (by decide +kernel) (by decide +kernel)
theorem wm_154 : Cond.methodLink RX1 90 yX1_burdenOf ∈ WS := WS_in 469 (by decide +kernel) (by decide +kernel)
theorem wm_155 : Cond.code yX1_weigh cX1_weigh 3 none ∈ WS := WS_in 461 (by decide +kernel) (by decide +kernel)
theorem wm_156 : Cond.instanceMethod yX1_weigh ∈ WS := WS_in 460 (by decide +kernel) (by decide +kernel)
theorem wm_157 : Cond.selects RX1 yX1_weigh yX1_weigh ∈ WS := WS_in 3 (by decide +kernel) (by decide +kernel)
theorem wm_158 : Cond.methodLink RX1 78 yX1_weigh ∈ WS := WS_in 458 (by decide +kernel) (by decide +kernel)
theorem wm_159 : Cond.fieldLink RX4 15 (TX4 1).1 (TX4 1).2.1 (TX4 1).2.2.1 ∈ WS := WS_in 40 (by decide +kernel) (by decide +kernel)
theorem wm_160 : Cond.code yX4_isFull cX4_isFull 1 (some .boolean) ∈ WS := WS_in 302 (by decide +kernel) (by decide +kernel)
theorem wm_161 : Cond.instanceMethod yX4_isFull ∈ WS := WS_in 300 (by decide +kernel) (by decide +kernel)
theorem wm_162 : Cond.selects RX4 yX4_isFull yX4_isFull ∈ WS := WS_in 301 (by decide +kernel) (by decide +kernel)
theorem wm_163 : Cond.methodLink RX4 19 yX4_isFull ∈ WS := WS_in 323 (by decide +kernel) (by decide +kernel)
theorem wm_164 : Cond.code yX7_isFull cX7_isFull 1 (some .boolean) ∈ WS := WS_in 336 (by decide +kernel) (by decide +kernel)
theorem wm_165 : Cond.instanceMethod yX7_isFull ∈ WS := WS_in 334 (by decide +kernel) (by decide +kernel)
theorem wm_166 : Cond.selects RX7 yX7_isFull yX7_isFull ∈ WS := WS_in 335 (by decide +kernel) (by decide +kernel)
theorem wm_167 : Cond.methodLink RX7 37 yX7_isFull ∈ WS := WS_in 342 (by decide +kernel) (by decide +kernel)
theorem wm_168 : Cond.code yX4_size cX4_size 1 (some .int) ∈ WS := WS_in 327 (by decide +kernel) (by decide +kernel)
theorem wm_169 : Cond.instanceMethod yX4_size ∈ WS := WS_in 325 (by decide +kernel) (by decide +kernel)
theorem wm_170 : Cond.selects RX4 yX4_size yX4_size ∈ WS := WS_in 326 (by decide +kernel) (by decide +kernel)
theorem wm_171 : Cond.methodLink RX7 41 yX4_size ∈ WS := WS_in 343 (by decide +kernel) (by decide +kernel)
theorem wm_172 : Cond.code yX4_wordAt cX4_wordAt 2 (some .int) ∈ WS := WS_in 347 (by decide +kernel) (by decide +kernel)
theorem wm_173 : Cond.instanceMethod yX4_wordAt ∈ WS := WS_in 345 (by decide +kernel) (by decide +kernel)
theorem wm_174 : Cond.selects RX4 yX4_wordAt yX4_wordAt ∈ WS := WS_in 346 (by decide +kernel) (by decide +kernel)
theorem wm_175 : Cond.methodLink RX7 47 yX4_wordAt ∈ WS := WS_in 344 (by decide +kernel) (by decide +kernel)
theorem wm_176 : Cond.code yX7_put cX7_put 4 none ∈ WS := WS_in 354 (by decide +kernel) (by decide +kernel)
theorem wm_177 : Cond.instanceMethod yX7_put ∈ WS := WS_in 352 (by decide +kernel) (by decide +kernel)
theorem wm_178 : Cond.selects RX7 yX7_put yX7_put ∈ WS := WS_in 353 (by decide +kernel) (by decide +kernel)
theorem wm_179 : Cond.methodLink RX7 50 yX7_put ∈ WS := WS_in 351 (by decide +kernel) (by decide +kernel)
theorem wm_180 : Cond.methodLink RX8 288 yX7_has ∈ WS := WS_in 383 (by decide +kernel) (by decide +kernel)
theorem wm_181 : Cond.code yX0_has cX0_has 2 (some .boolean) ∈ WS := WS_in 501 (by decide +kernel) (by decide +kernel)
theorem wm_182 : Cond.instanceMethod yX0_has ∈ WS := WS_in 499 (by decide +kernel) (by decide +kernel)
theorem wm_183 : Cond.selects RX0 yX0_has yX0_has ∈ WS := WS_in 500 (by decide +kernel) (by decide +kernel)
theorem wm_184 : Cond.methodLink RX8 292 yX0_has ∈ WS := WS_in 498 (by decide +kernel) (by decide +kernel)
theorem wm_185 : Cond.methodLink RX8 295 yX1_has ∈ WS := WS_in 431 (by decide +kernel) (by decide +kernel)
theorem wm_186 : Cond.methodLink RX8 298 yX1_isFull ∈ WS := WS_in 507 (by decide +kernel) (by decide +kernel)
theorem wm_187 : Cond.code yX8_needArgument cX8_needArgument 3 none ∈ WS := WS_in 230 (by decide +kernel) (by decide +kernel)
theorem wm_188 : Cond.static yX8_needArgument ∈ WS := WS_in 229 (by decide +kernel) (by decide +kernel)
theorem wm_189 : Cond.methodLink RX8 58 yX8_needArgument ∈ WS := WS_in 228 (by decide +kernel) (by decide +kernel)
theorem wm_190 : Cond.methodLink RX8 62 yX4_isFull ∈ WS := WS_in 299 (by decide +kernel) (by decide +kernel)
theorem wm_191 : Cond.code yX4_add cX4_add 2 none ∈ WS := WS_in 322 (by decide +kernel) (by decide +kernel)
theorem wm_192 : Cond.instanceMethod yX4_add ∈ WS := WS_in 320 (by decide +kernel) (by decide +kernel)
theorem wm_193 : Cond.selects RX4 yX4_add yX4_add ∈ WS := WS_in 321 (by decide +kernel) (by decide +kernel)
theorem wm_194 : Cond.methodLink RX8 73 yX4_add ∈ WS := WS_in 319 (by decide +kernel) (by decide +kernel)
theorem wm_195 : Cond.methodLink RX8 77 yX4_size ∈ WS := WS_in 324 (by decide +kernel) (by decide +kernel)
theorem wm_196 : Cond.methodLink RX8 86 yX7_isFull ∈ WS := WS_in 333 (by decide +kernel) (by decide +kernel)
theorem wm_197 : Cond.code yX7_add cX7_add 4 none ∈ WS := WS_in 341 (by decide +kernel) (by decide +kernel)
theorem wm_198 : Cond.instanceMethod yX7_add ∈ WS := WS_in 339 (by decide +kernel) (by decide +kernel)
theorem wm_199 : Cond.selects RX7 yX7_add yX7_add ∈ WS := WS_in 340 (by decide +kernel) (by decide +kernel)
theorem wm_200 : Cond.methodLink RX8 89 yX7_add ∈ WS := WS_in 338 (by decide +kernel) (by decide +kernel)
theorem wm_201 : Cond.code yX4_clear cX4_clear 1 none ∈ WS := WS_in 370 (by decide +kernel) (by decide +kernel)
theorem wm_202 : Cond.instanceMethod yX4_clear ∈ WS := WS_in 368 (by decide +kernel) (by decide +kernel)
theorem wm_203 : Cond.selects RX4 yX4_clear yX4_clear ∈ WS := WS_in 369 (by decide +kernel) (by decide +kernel)
theorem wm_204 : Cond.methodLink RX8 81 yX4_clear ∈ WS := WS_in 367 (by decide +kernel) (by decide +kernel)
theorem wm_205 : Cond.code yX7_count cX7_count 1 (some .int) ∈ WS := WS_in 374 (by decide +kernel) (by decide +kernel)
theorem wm_206 : Cond.instanceMethod yX7_count ∈ WS := WS_in 372 (by decide +kernel) (by decide +kernel)
theorem wm_207 : Cond.selects RX7 yX7_count yX7_count ∈ WS := WS_in 373 (by decide +kernel) (by decide +kernel)
theorem wm_208 : Cond.methodLink RX8 92 yX7_count ∈ WS := WS_in 371 (by decide +kernel) (by decide +kernel)
theorem wm_209 : Cond.methodLink RX8 95 yX7_hasPlace ∈ WS := WS_in 535 (by decide +kernel) (by decide +kernel)
theorem wm_210 : Cond.methodLink RX8 111 yX7_sizeOf ∈ WS := WS_in 553 (by decide +kernel) (by decide +kernel)
theorem wm_211 : Cond.code yX7_takeOut cX7_takeOut 4 none ∈ WS := WS_in 558 (by decide +kernel) (by decide +kernel)
theorem wm_212 : Cond.instanceMethod yX7_takeOut ∈ WS := WS_in 556 (by decide +kernel) (by decide +kernel)
theorem wm_213 : Cond.selects RX7 yX7_takeOut yX7_takeOut ∈ WS := WS_in 557 (by decide +kernel) (by decide +kernel)
theorem wm_214 : Cond.methodLink RX8 117 yX7_takeOut ∈ WS := WS_in 555 (by decide +kernel) (by decide +kernel)
theorem wm_215 : Cond.code yX1_closeGap cX1_closeGap 6 none ∈ WS := WS_in 562 (by decide +kernel) (by decide +kernel)
theorem wm_216 : Cond.instanceMethod yX1_closeGap ∈ WS := WS_in 560 (by decide +kernel) (by decide +kernel)
theorem wm_217 : Cond.selects RX1 yX1_closeGap yX1_closeGap ∈ WS := WS_in 561 (by decide +kernel) (by decide +kernel)
theorem wm_218 : Cond.methodLink RX8 121 yX1_closeGap ∈ WS := WS_in 559 (by decide +kernel) (by decide +kernel)
theorem wm_219 : Cond.code yX1_hookAnew cX1_hookAnew 7 (some .int) ∈ WS := WS_in 541 (by decide +kernel) (by decide +kernel)
theorem wm_220 : Cond.instanceMethod yX1_hookAnew ∈ WS := WS_in 539 (by decide +kernel) (by decide +kernel)
theorem wm_221 : Cond.selects RX1 yX1_hookAnew yX1_hookAnew ∈ WS := WS_in 540 (by decide +kernel) (by decide +kernel)
theorem wm_222 : Cond.methodLink RX8 107 yX1_hookAnew ∈ WS := WS_in 538 (by decide +kernel) (by decide +kernel)
theorem wm_223 : Cond.methodLink RX8 104 yX7_put ∈ WS := WS_in 537 (by decide +kernel) (by decide +kernel)
theorem wm_224 : Cond.code yX8_needUnit cX8_needUnit 2 none ∈ WS := WS_in 382 (by decide +kernel) (by decide +kernel)
theorem wm_225 : Cond.instanceMethod yX8_needUnit ∈ WS := WS_in 381 (by decide +kernel) (by decide +kernel)
theorem wm_226 : Cond.selects RX8 yX8_needUnit yX8_needUnit ∈ WS := WS_in 1 (by decide +kernel) (by decide +kernel)
theorem wm_227 : Cond.methodLink RX8 124 yX8_needUnit ∈ WS := WS_in 379 (by decide +kernel) (by decide +kernel)
theorem wm_228 : Cond.methodLink RX8 129 yX7_wordAt ∈ WS := WS_in 401 (by decide +kernel) (by decide +kernel)
theorem wm_229 : Cond.methodLink RX8 133 yX0_isFull ∈ WS := WS_in 409 (by decide +kernel) (by decide +kernel)
theorem wm_230 : Cond.code yX0_add cX0_add 4 none ∈ WS := WS_in 417 (by decide +kernel) (by decide +kernel)
theorem wm_231 : Cond.instanceMethod yX0_add ∈ WS := WS_in 415 (by decide +kernel) (by decide +kernel)
theorem wm_232 : Cond.selects RX0 yX0_add yX0_add ∈ WS := WS_in 416 (by decide +kernel) (by decide +kernel)
theorem wm_233 : Cond.methodLink RX8 136 yX0_add ∈ WS := WS_in 414 (by decide +kernel) (by decide +kernel)
theorem wm_234 : Cond.code yX0_count cX0_count 1 (some .int) ∈ WS := WS_in 422 (by decide +kernel) (by decide +kernel)
theorem wm_235 : Cond.instanceMethod yX0_count ∈ WS := WS_in 420 (by decide +kernel) (by decide +kernel)
theorem wm_236 : Cond.selects RX0 yX0_count yX0_count ∈ WS := WS_in 421 (by decide +kernel) (by decide +kernel)
theorem wm_237 : Cond.methodLink RX8 138 yX0_count ∈ WS := WS_in 419 (by decide +kernel) (by decide +kernel)
theorem wm_238 : Cond.code yX8_needAuthor cX8_needAuthor 2 none ∈ WS := WS_in 497 (by decide +kernel) (by decide +kernel)
theorem wm_239 : Cond.instanceMethod yX8_needAuthor ∈ WS := WS_in 496 (by decide +kernel) (by decide +kernel)
theorem wm_240 : Cond.selects RX8 yX8_needAuthor yX8_needAuthor ∈ WS := WS_in 5 (by decide +kernel) (by decide +kernel)
theorem wm_241 : Cond.methodLink RX8 142 yX8_needAuthor ∈ WS := WS_in 494 (by decide +kernel) (by decide +kernel)
theorem wm_242 : Cond.code yX8_needRoomForComment cX8_needRoomForComment 1 none ∈ WS := WS_in 506 (by decide +kernel) (by decide +kernel)
theorem wm_243 : Cond.instanceMethod yX8_needRoomForComment ∈ WS := WS_in 505 (by decide +kernel) (by decide +kernel)
theorem wm_244 : Cond.selects RX8 yX8_needRoomForComment yX8_needRoomForComment ∈ WS := WS_in 6 (by decide +kernel) (by decide +kernel)
theorem wm_245 : Cond.methodLink RX8 145 yX8_needRoomForComment ∈ WS := WS_in 503 (by decide +kernel) (by decide +kernel)
theorem wm_246 : Cond.code yX7_placeOf cX7_placeOf 6 (some .int) ∈ WS := WS_in 515 (by decide +kernel) (by decide +kernel)
theorem wm_247 : Cond.instanceMethod yX7_placeOf ∈ WS := WS_in 513 (by decide +kernel) (by decide +kernel)
theorem wm_248 : Cond.selects RX7 yX7_placeOf yX7_placeOf ∈ WS := WS_in 514 (by decide +kernel) (by decide +kernel)
theorem wm_249 : Cond.methodLink RX8 148 yX7_placeOf ∈ WS := WS_in 512 (by decide +kernel) (by decide +kernel)
theorem wm_250 : Cond.code yX1_add cX1_add 5 (some .int) ∈ WS := WS_in 521 (by decide +kernel) (by decide +kernel)
theorem wm_251 : Cond.instanceMethod yX1_add ∈ WS := WS_in 519 (by decide +kernel) (by decide +kernel)
theorem wm_252 : Cond.selects RX1 yX1_add yX1_add ∈ WS := WS_in 520 (by decide +kernel) (by decide +kernel)
theorem wm_253 : Cond.methodLink RX8 154 yX1_add ∈ WS := WS_in 518 (by decide +kernel) (by decide +kernel)
theorem wm_254 : Cond.code yX1_hookTo cX1_hookTo 5 none ∈ WS := WS_in 526 (by decide +kernel) (by decide +kernel)
theorem wm_255 : Cond.instanceMethod yX1_hookTo ∈ WS := WS_in 524 (by decide +kernel) (by decide +kernel)
theorem wm_256 : Cond.selects RX1 yX1_hookTo yX1_hookTo ∈ WS := WS_in 525 (by decide +kernel) (by decide +kernel)
theorem wm_257 : Cond.methodLink RX8 157 yX1_hookTo ∈ WS := WS_in 523 (by decide +kernel) (by decide +kernel)
theorem wm_258 : Cond.code yX8_needComment cX8_needComment 2 none ∈ WS := WS_in 430 (by decide +kernel) (by decide +kernel)
theorem wm_259 : Cond.instanceMethod yX8_needComment ∈ WS := WS_in 429 (by decide +kernel) (by decide +kernel)
theorem wm_260 : Cond.selects RX8 yX8_needComment yX8_needComment ∈ WS := WS_in 2 (by decide +kernel) (by decide +kernel)
theorem wm_261 : Cond.methodLink RX8 161 yX8_needComment ∈ WS := WS_in 427 (by decide +kernel) (by decide +kernel)
theorem wm_262 : Cond.code yX1_authorOf cX1_authorOf 2 (some .int) ∈ WS := WS_in 439 (by decide +kernel) (by decide +kernel)
theorem wm_263 : Cond.instanceMethod yX1_authorOf ∈ WS := WS_in 437 (by decide +kernel) (by decide +kernel)
theorem wm_264 : Cond.selects RX1 yX1_authorOf yX1_authorOf ∈ WS := WS_in 438 (by decide +kernel) (by decide +kernel)
theorem wm_265 : Cond.methodLink RX8 164 yX1_authorOf ∈ WS := WS_in 436 (by decide +kernel) (by decide +kernel)
theorem wm_266 : Cond.code yX1_unitOf cX1_unitOf 2 (some .int) ∈ WS := WS_in 444 (by decide +kernel) (by decide +kernel)
theorem wm_267 : Cond.instanceMethod yX1_unitOf ∈ WS := WS_in 442 (by decide +kernel) (by decide +kernel)
theorem wm_268 : Cond.selects RX1 yX1_unitOf yX1_unitOf ∈ WS := WS_in 443 (by decide +kernel) (by decide +kernel)
theorem wm_269 : Cond.methodLink RX8 175 yX1_unitOf ∈ WS := WS_in 441 (by decide +kernel) (by decide +kernel)
theorem wm_270 : Cond.code yX1_placeOf cX1_placeOf 2 (some .int) ∈ WS := WS_in 448 (by decide +kernel) (by decide +kernel)
theorem wm_271 : Cond.instanceMethod yX1_placeOf ∈ WS := WS_in 446 (by decide +kernel) (by decide +kernel)
theorem wm_272 : Cond.selects RX1 yX1_placeOf yX1_placeOf ∈ WS := WS_in 447 (by decide +kernel) (by decide +kernel)
theorem wm_273 : Cond.methodLink RX8 178 yX1_placeOf ∈ WS := WS_in 445 (by decide +kernel) (by decide +kernel)
theorem wm_274 : Cond.code yX1_isLost cX1_isLost 3 (some .boolean) ∈ WS := WS_in 452 (by decide +kernel) (by decide +kernel)
theorem wm_275 : Cond.instanceMethod yX1_isLost ∈ WS := WS_in 450 (by decide +kernel) (by decide +kernel)
theorem wm_276 : Cond.selects RX1 yX1_isLost yX1_isLost ∈ WS := WS_in 451 (by decide +kernel) (by decide +kernel)
theorem wm_277 : Cond.methodLink RX8 180 yX1_isLost ∈ WS := WS_in 449 (by decide +kernel) (by decide +kernel)
theorem wm_278 : Cond.code yX1_stands cX1_stands 2 (some .boolean) ∈ WS := WS_in 457 (by decide +kernel) (by decide +kernel)
theorem wm_279 : Cond.instanceMethod yX1_stands ∈ WS := WS_in 455 (by decide +kernel) (by decide +kernel)
theorem wm_280 : Cond.selects RX1 yX1_stands yX1_stands ∈ WS := WS_in 456 (by decide +kernel) (by decide +kernel)
theorem wm_281 : Cond.methodLink RX8 184 yX1_stands ∈ WS := WS_in 454 (by decide +kernel) (by decide +kernel)
theorem wm_282 : Cond.code yX1_parentOf cX1_parentOf 2 (some .int) ∈ WS := WS_in 475 (by decide +kernel) (by decide +kernel)
theorem wm_283 : Cond.instanceMethod yX1_parentOf ∈ WS := WS_in 473 (by decide +kernel) (by decide +kernel)
theorem wm_284 : Cond.selects RX1 yX1_parentOf yX1_parentOf ∈ WS := WS_in 474 (by decide +kernel) (by decide +kernel)
theorem wm_285 : Cond.methodLink RX8 187 yX1_parentOf ∈ WS := WS_in 472 (by decide +kernel) (by decide +kernel)
theorem wm_286 : Cond.code yX1_kindOf cX1_kindOf 2 (some .int) ∈ WS := WS_in 479 (by decide +kernel) (by decide +kernel)
theorem wm_287 : Cond.instanceMethod yX1_kindOf ∈ WS := WS_in 477 (by decide +kernel) (by decide +kernel)
theorem wm_288 : Cond.selects RX1 yX1_kindOf yX1_kindOf ∈ WS := WS_in 478 (by decide +kernel) (by decide +kernel)
theorem wm_289 : Cond.methodLink RX8 190 yX1_kindOf ∈ WS := WS_in 476 (by decide +kernel) (by decide +kernel)
theorem wm_290 : Cond.classLink RL 13 "java/lang/IllegalStateException" ∈ WS := WS_in 489 (by decide +kernel) (by decide +kernel)
theorem wm_291 : Cond.classLink RL 19 "java/lang/IndexOutOfBoundsException" ∈ WS := WS_in 530 (by decide +kernel) (by decide +kernel)
theorem wm_292 : Cond.methodLink RL 9 yX8_comment ∈ WS := WS_in 490 (by decide +kernel) (by decide +kernel)
theorem wm_293 : Cond.code yX8_comment cX8_comment 10 (some .int) ∈ WS := WS_in 493 (by decide +kernel) (by decide +kernel)
theorem wm_294 : Cond.instanceMethod yX8_comment ∈ WS := WS_in 491 (by decide +kernel) (by decide +kernel)
theorem wm_295 : Cond.selects RX8 yX8_comment yX8_comment ∈ WS := WS_in 492 (by decide +kernel) (by decide +kernel)
theorem wm_296 : Cond.static yL_comment ∈ WS := WS_in 487 (by decide +kernel) (by decide +kernel)
theorem wm_297 : Cond.initialized RL ∈ WS := WS_in 7 (by decide +kernel) (by decide +kernel)
theorem wm_298 : Cond.codeWith yL_comment cL_comment 4 (some .int) [(0, 13, 14, 13)] ∈ WS := WS_in 488 (by decide +kernel) (by decide +kernel)
theorem wm_299 : Cond.methodLink RL 15 yX8_emend ∈ WS := WS_in 531 (by decide +kernel) (by decide +kernel)
theorem wm_300 : Cond.code yX8_emend cX8_emend 4 (some .int) ∈ WS := WS_in 534 (by decide +kernel) (by decide +kernel)
theorem wm_301 : Cond.instanceMethod yX8_emend ∈ WS := WS_in 532 (by decide +kernel) (by decide +kernel)
theorem wm_302 : Cond.selects RX8 yX8_emend yX8_emend ∈ WS := WS_in 533 (by decide +kernel) (by decide +kernel)
theorem wm_303 : Cond.static yL_emend ∈ WS := WS_in 528 (by decide +kernel) (by decide +kernel)
theorem wm_304 : Cond.codeWith yL_emend cL_emend 4 (some .int) [(0, 7, 8, 19), (0, 7, 13, 13)] ∈ WS := WS_in 529 (by decide +kernel) (by decide +kernel)
theorem wm_305 : Cond.code yL_cell cL_cell 2 (some .int) ∈ WS := WS_in 485 (by decide +kernel) (by decide +kernel)
theorem wm_306 : Cond.static yL_cell ∈ WS := WS_in 484 (by decide +kernel) (by decide +kernel)
theorem wm_307 : Cond.code yL_up cL_up 2 (some .int) ∈ WS := WS_in 482 (by decide +kernel) (by decide +kernel)
theorem wm_308 : Cond.static yL_up ∈ WS := WS_in 481 (by decide +kernel) (by decide +kernel)
theorem wm_309 : Cond.methodLink RL 22 yL_cell ∈ WS := WS_in 483 (by decide +kernel) (by decide +kernel)
theorem wm_310 : Cond.methodLink RL 28 yL_up ∈ WS := WS_in 480 (by decide +kernel) (by decide +kernel)
theorem wm_311 : Cond.code yX8_unit cX8_unit 1 (some .int) ∈ WS := WS_in 331 (by decide +kernel) (by decide +kernel)
theorem wm_312 : Cond.instanceMethod yX8_unit ∈ WS := WS_in 329 (by decide +kernel) (by decide +kernel)
theorem wm_313 : Cond.selects RX8 yX8_unit yX8_unit ∈ WS := WS_in 330 (by decide +kernel) (by decide +kernel)
theorem wm_314 : Cond.methodLink RL 36 yX8_unit ∈ WS := WS_in 328 (by decide +kernel) (by decide +kernel)
theorem wm_315 : Cond.code yX8_author cX8_author 4 (some .int) ∈ WS := WS_in 408 (by decide +kernel) (by decide +kernel)
theorem wm_316 : Cond.instanceMethod yX8_author ∈ WS := WS_in 406 (by decide +kernel) (by decide +kernel)
theorem wm_317 : Cond.selects RX8 yX8_author yX8_author ∈ WS := WS_in 407 (by decide +kernel) (by decide +kernel)
theorem wm_318 : Cond.methodLink RL 40 yX8_author ∈ WS := WS_in 405 (by decide +kernel) (by decide +kernel)
theorem wm_319 : Cond.code yX8_word cX8_word 2 (some .int) ∈ WS := WS_in 227 (by decide +kernel) (by decide +kernel)
theorem wm_320 : Cond.instanceMethod yX8_word ∈ WS := WS_in 225 (by decide +kernel) (by decide +kernel)
theorem wm_321 : Cond.selects RX8 yX8_word yX8_word ∈ WS := WS_in 226 (by decide +kernel) (by decide +kernel)
theorem wm_322 : Cond.methodLink RL 32 yX8_word ∈ WS := WS_in 224 (by decide +kernel) (by decide +kernel)
theorem wm_323 : Cond.code yX8_textOf cX8_textOf 3 (some .int) ∈ WS := WS_in 378 (by decide +kernel) (by decide +kernel)
theorem wm_324 : Cond.instanceMethod yX8_textOf ∈ WS := WS_in 376 (by decide +kernel) (by decide +kernel)
theorem wm_325 : Cond.selects RX8 yX8_textOf yX8_textOf ∈ WS := WS_in 377 (by decide +kernel) (by decide +kernel)
theorem wm_326 : Cond.methodLink RL 58 yX8_textOf ∈ WS := WS_in 375 (by decide +kernel) (by decide +kernel)
theorem wm_327 : Cond.code yX8_told cX8_told 3 (some .int) ∈ WS := WS_in 426 (by decide +kernel) (by decide +kernel)
theorem wm_328 : Cond.instanceMethod yX8_told ∈ WS := WS_in 424 (by decide +kernel) (by decide +kernel)
theorem wm_329 : Cond.selects RX8 yX8_told yX8_told ∈ WS := WS_in 425 (by decide +kernel) (by decide +kernel)
theorem wm_330 : Cond.methodLink RL 55 yX8_told ∈ WS := WS_in 423 (by decide +kernel) (by decide +kernel)
theorem wm_331 : Cond.methodLink RL 53 yL_emend ∈ WS := WS_in 527 (by decide +kernel) (by decide +kernel)
theorem wm_332 : Cond.code yL_near cL_near 5 (some .int) ∈ WS := WS_in 571 (by decide +kernel) (by decide +kernel)
theorem wm_333 : Cond.static yL_near ∈ WS := WS_in 570 (by decide +kernel) (by decide +kernel)
theorem wm_334 : Cond.methodLink RL 50 yL_near ∈ WS := WS_in 569 (by decide +kernel) (by decide +kernel)
theorem wm_335 : Cond.code yL_nth cL_nth 7 (some .int) ∈ WS := WS_in 568 (by decide +kernel) (by decide +kernel)
theorem wm_336 : Cond.static yL_nth ∈ WS := WS_in 567 (by decide +kernel) (by decide +kernel)
theorem wm_337 : Cond.methodLink RL 43 yL_nth ∈ WS := WS_in 566 (by decide +kernel) (by decide +kernel)
theorem wm_338 : Cond.methodLink RL 47 yL_comment ∈ WS := WS_in 486 (by decide +kernel) (by decide +kernel)
theorem nw_X6_11 : (RX6, 11, yX3_init, "GlossedPage") ∈ NWt := by decide +kernel
theorem nw_X8_11 : (RX8, 11, yX4_init, "GlossedPage") ∈ NWt := by decide +kernel
theorem nw_X8_18 : (RX8, 18, yX7_init, "GlossedPage") ∈ NWt := by decide +kernel
theorem nw_X8_25 : (RX8, 25, yX0_init, "GlossedPage") ∈ NWt := by decide +kernel
theorem nw_X8_32 : (RX8, 32, yX1_init, "GlossedPage") ∈ NWt := by decide +kernel
theorem nw_X8_39 : (RX8, 39, yX5_init, "GlossedPage") ∈ NWt := by decide +kernel
theorem nw_X8_46 : (RX8, 46, yX6_init, "GlossedPage") ∈ NWt := by decide +kernel
theorem nw_X8_53 : (RX8, 53, yX2_init, "GlossedPage") ∈ NWt := by decide +kernel
theorem nw_X1_58 : (RX1, 58, yX8_at, "GlossedPage") ∈ NWt := by decide +kernel
theorem nw_X4_23 : (RX4, 23, yX8_at, "GlossedPage") ∈ NWt := by decide +kernel
theorem inWX4 : ∀ w ∈ u_ws RX4 TX4 2, w ∈ WS := by
  show ∀ w ∈ [u_lay RX4 TX4 0, u_lay RX4 TX4 1], w ∈ WS
  exact List.forall_mem_cons.mpr ⟨WS_in 41 (by decide +kernel) (by decide +kernel), List.forall_mem_cons.mpr ⟨WS_in 43 (by decide +kernel) (by decide +kernel), fun _ h => absurd h List.not_mem_nil⟩⟩
theorem inWX7 : ∀ w ∈ u_ws RX7 TX7 4, w ∈ WS := by
  show ∀ w ∈ [u_lay RX7 TX7 0, u_lay RX7 TX7 1, u_lay RX7 TX7 2, u_lay RX7 TX7 3], w ∈ WS
  exact List.forall_mem_cons.mpr ⟨WS_in 57 (by decide +kernel) (by decide +kernel), List.forall_mem_cons.mpr ⟨WS_in 59 (by decide +kernel) (by decide +kernel), List.forall_mem_cons.mpr ⟨WS_in 61 (by decide +kernel) (by decide +kernel), List.forall_mem_cons.mpr ⟨WS_in 63 (by decide +kernel) (by decide +kernel), fun _ h => absurd h List.not_mem_nil⟩⟩⟩⟩
theorem inWX0 : ∀ w ∈ u_ws RX0 TX0 4, w ∈ WS := by
  show ∀ w ∈ [u_lay RX0 TX0 0, u_lay RX0 TX0 1, u_lay RX0 TX0 2, u_lay RX0 TX0 3], w ∈ WS
  exact List.forall_mem_cons.mpr ⟨WS_in 76 (by decide +kernel) (by decide +kernel), List.forall_mem_cons.mpr ⟨WS_in 78 (by decide +kernel) (by decide +kernel), List.forall_mem_cons.mpr ⟨WS_in 80 (by decide +kernel) (by decide +kernel), List.forall_mem_cons.mpr ⟨WS_in 82 (by decide +kernel) (by decide +kernel), fun _ h => absurd h List.not_mem_nil⟩⟩⟩⟩
theorem inWX1 : ∀ w ∈ u_ws RX1 TX1 12, w ∈ WS := by
  show ∀ w ∈ [u_lay RX1 TX1 0, u_lay RX1 TX1 1, u_lay RX1 TX1 2, u_lay RX1 TX1 3, u_lay RX1 TX1 4, u_lay RX1 TX1 5, u_lay RX1 TX1 6, u_lay RX1 TX1 7, u_lay RX1 TX1 8, u_lay RX1 TX1 9, u_lay RX1 TX1 10, u_lay RX1 TX1 11], w ∈ WS
  exact List.forall_mem_cons.mpr ⟨WS_in 103 (by decide +kernel) (by decide +kernel), List.forall_mem_cons.mpr ⟨WS_in 105 (by decide +kernel) (by decide +kernel), List.forall_mem_cons.mpr ⟨WS_in 107 (by decide +kernel) (by decide +kernel), List.forall_mem_cons.mpr ⟨WS_in 109 (by decide +kernel) (by decide +kernel), List.forall_mem_cons.mpr ⟨WS_in 111 (by decide +kernel) (by decide +kernel), List.forall_mem_cons.mpr ⟨WS_in 113 (by decide +kernel) (by decide +kernel), List.forall_mem_cons.mpr ⟨WS_in 115 (by decide +kernel) (by decide +kernel), List.forall_mem_cons.mpr ⟨WS_in 117 (by decide +kernel) (by decide +kernel), List.forall_mem_cons.mpr ⟨WS_in 119 (by decide +kernel) (by decide +kernel), List.forall_mem_cons.mpr ⟨WS_in 121 (by decide +kernel) (by decide +kernel), List.forall_mem_cons.mpr ⟨WS_in 123 (by decide +kernel) (by decide +kernel), List.forall_mem_cons.mpr ⟨WS_in 125 (by decide +kernel) (by decide +kernel), fun _ h => absurd h List.not_mem_nil⟩⟩⟩⟩⟩⟩⟩⟩⟩⟩⟩⟩
theorem inWX5 : ∀ w ∈ u_ws RX5 TX5 5, w ∈ WS := by
  show ∀ w ∈ [u_lay RX5 TX5 0, u_lay RX5 TX5 1, u_lay RX5 TX5 2, u_lay RX5 TX5 3, u_lay RX5 TX5 4], w ∈ WS
  exact List.forall_mem_cons.mpr ⟨WS_in 139 (by decide +kernel) (by decide +kernel), List.forall_mem_cons.mpr ⟨WS_in 141 (by decide +kernel) (by decide +kernel), List.forall_mem_cons.mpr ⟨WS_in 143 (by decide +kernel) (by decide +kernel), List.forall_mem_cons.mpr ⟨WS_in 145 (by decide +kernel) (by decide +kernel), List.forall_mem_cons.mpr ⟨WS_in 147 (by decide +kernel) (by decide +kernel), fun _ h => absurd h List.not_mem_nil⟩⟩⟩⟩⟩
theorem inWX3 : ∀ w ∈ u_ws RX3 TX3 2, w ∈ WS := by
  show ∀ w ∈ [u_lay RX3 TX3 0, u_lay RX3 TX3 1], w ∈ WS
  exact List.forall_mem_cons.mpr ⟨WS_in 163 (by decide +kernel) (by decide +kernel), List.forall_mem_cons.mpr ⟨WS_in 165 (by decide +kernel) (by decide +kernel), fun _ h => absurd h List.not_mem_nil⟩⟩
theorem inWX6 : ∀ w ∈ u_ws RX6 TX6 5, w ∈ WS := by
  show ∀ w ∈ [u_lay RX6 TX6 0, u_lay RX6 TX6 1, u_lay RX6 TX6 2, u_lay RX6 TX6 3, u_lay RX6 TX6 4], w ∈ WS
  exact List.forall_mem_cons.mpr ⟨WS_in 171 (by decide +kernel) (by decide +kernel), List.forall_mem_cons.mpr ⟨WS_in 173 (by decide +kernel) (by decide +kernel), List.forall_mem_cons.mpr ⟨WS_in 175 (by decide +kernel) (by decide +kernel), List.forall_mem_cons.mpr ⟨WS_in 177 (by decide +kernel) (by decide +kernel), List.forall_mem_cons.mpr ⟨WS_in 179 (by decide +kernel) (by decide +kernel), fun _ h => absurd h List.not_mem_nil⟩⟩⟩⟩⟩
theorem inWX2 : ∀ w ∈ u_ws RX2 TX2 5, w ∈ WS := by
  show ∀ w ∈ [u_lay RX2 TX2 0, u_lay RX2 TX2 1, u_lay RX2 TX2 2, u_lay RX2 TX2 3, u_lay RX2 TX2 4], w ∈ WS
  exact List.forall_mem_cons.mpr ⟨WS_in 191 (by decide +kernel) (by decide +kernel), List.forall_mem_cons.mpr ⟨WS_in 193 (by decide +kernel) (by decide +kernel), List.forall_mem_cons.mpr ⟨WS_in 195 (by decide +kernel) (by decide +kernel), List.forall_mem_cons.mpr ⟨WS_in 197 (by decide +kernel) (by decide +kernel), List.forall_mem_cons.mpr ⟨WS_in 199 (by decide +kernel) (by decide +kernel), fun _ h => absurd h List.not_mem_nil⟩⟩⟩⟩⟩
theorem inWX8 : ∀ w ∈ u_ws RX8 TX8 7, w ∈ WS := by
  show ∀ w ∈ [u_lay RX8 TX8 0, u_lay RX8 TX8 1, u_lay RX8 TX8 2, u_lay RX8 TX8 3, u_lay RX8 TX8 4, u_lay RX8 TX8 5, u_lay RX8 TX8 6], w ∈ WS
  exact List.forall_mem_cons.mpr ⟨WS_in 209 (by decide +kernel) (by decide +kernel), List.forall_mem_cons.mpr ⟨WS_in 211 (by decide +kernel) (by decide +kernel), List.forall_mem_cons.mpr ⟨WS_in 213 (by decide +kernel) (by decide +kernel), List.forall_mem_cons.mpr ⟨WS_in 215 (by decide +kernel) (by decide +kernel), List.forall_mem_cons.mpr ⟨WS_in 217 (by decide +kernel) (by decide +kernel), List.forall_mem_cons.mpr ⟨WS_in 219 (by decide +kernel) (by decide +kernel), List.forall_mem_cons.mpr ⟨WS_in 221 (by decide +kernel) (by decide +kernel), fun _ h => absurd h List.not_mem_nil⟩⟩⟩⟩⟩⟩⟩
theorem iR_m1003 : inR (-1003) := by decide
theorem iR_m1001 : inR (-1001) := by decide
theorem iR_m1 : inR (-1) := by decide
theorem iR_0 : inR (0) := by decide
theorem iR_1 : inR (1) := by decide
theorem iR_2 : inR (2) := by decide
theorem iR_3 : inR (3) := by decide
theorem iR_4 : inR (4) := by decide
theorem iR_5 : inR (5) := by decide
theorem iR_6 : inR (6) := by decide
theorem iR_8 : inR (8) := by decide
theorem iR_9 : inR (9) := by decide
theorem iR_12 : inR (12) := by decide
theorem iR_13 : inR (13) := by decide
theorem iR_20 : inR (20) := by decide
theorem iR_32 : inR (32) := by decide
theorem iR_59 : inR (59) := by decide
theorem iR_60 : inR (60) := by decide
theorem iR_61 : inR (61) := by decide
theorem iR_99 : inR (99) := by decide
theorem iR_128 : inR (128) := by decide
theorem iR_1024 : inR (1024) := by decide
theorem iR_2000 : inR (2000) := by decide
theorem bp_6 : (Int8.ofInt 6).toInt32 = zI 6 := by decide
theorem bp_8 : (Int8.ofInt 8).toInt32 = zI 8 := by decide
theorem bp_9 : (Int8.ofInt 9).toInt32 = zI 9 := by decide
theorem bp_10 : (Int8.ofInt 10).toInt32 = zI 10 := by decide
theorem bp_12 : (Int8.ofInt 12).toInt32 = zI 12 := by decide
theorem bp_13 : (Int8.ofInt 13).toInt32 = zI 13 := by decide
theorem bp_20 : (Int8.ofInt 20).toInt32 = zI 20 := by decide
theorem bp_31 : (Int8.ofInt 31).toInt32 = zI 31 := by decide
theorem bp_32 : (Int8.ofInt 32).toInt32 = zI 32 := by decide
theorem bp_59 : (Int8.ofInt 59).toInt32 = zI 59 := by decide
theorem bp_60 : (Int8.ofInt 60).toInt32 = zI 60 := by decide
theorem bp_61 : (Int8.ofInt 61).toInt32 = zI 61 := by decide
theorem bp_99 : (Int8.ofInt 99).toInt32 = zI 99 := by decide
theorem sp_m1003 : (Int16.ofInt (-1003)).toInt32 = zI (-1003) := by decide
theorem sp_m1001 : (Int16.ofInt (-1001)).toInt32 = zI (-1001) := by decide
theorem sp_128 : (Int16.ofInt (128)).toInt32 = zI (128) := by decide
theorem sp_160 : (Int16.ofInt (160)).toInt32 = zI (160) := by decide
theorem sp_240 : (Int16.ofInt (240)).toInt32 = zI (240) := by decide
theorem sp_1024 : (Int16.ofInt (1024)).toInt32 = zI (1024) := by decide
theorem sp_2000 : (Int16.ofInt (2000)).toInt32 = zI (2000) := by decide
theorem cal_X0_isFull : zCal RX0 yX0_isFull cX0_isFull 1 (some .boolean) 0 := ⟨wm_105, wm_106, wm_75, wm_104, rfl, ⟨by decide, by decide⟩, by decide +kernel⟩
theorem cal_X1_isFull : zCal RX1 yX1_isFull cX1_isFull 1 (some .boolean) 0 := ⟨wm_110, wm_111, wm_81, wm_109, rfl, ⟨by decide, by decide⟩, by decide +kernel⟩
theorem cal_X1_has : zCal RX1 yX1_has cX1_has 2 (some .boolean) 1 := ⟨wm_114, wm_115, wm_81, wm_113, rfl, ⟨by decide, by decide⟩, by decide +kernel⟩
theorem cal_X8_at : zCas RX8 yX8_at cX8_at 2 (some .int) 2 := ⟨wm_119, wm_117, wm_118, rfl, ⟨by decide, by decide⟩, by decide +kernel⟩
theorem cal_X1_isHook : zCal RX1 yX1_isHook cX1_isHook 3 (some .boolean) 2 := ⟨wm_121, wm_122, wm_81, wm_120, rfl, ⟨by decide, by decide⟩, by decide +kernel⟩
theorem cal_X7_has : zCal RX7 yX7_has cX7_has 2 (some .boolean) 1 := ⟨wm_127, wm_128, wm_69, wm_126, rfl, ⟨by decide, by decide⟩, by decide +kernel⟩
theorem cal_X7_sizeOf : zCal RX7 yX7_sizeOf cX7_sizeOf 2 (some .int) 1 := ⟨wm_131, wm_132, wm_69, wm_130, rfl, ⟨by decide, by decide⟩, by decide +kernel⟩
theorem cal_X7_hasPlace : zCal RX7 yX7_hasPlace cX7_hasPlace 3 (some .boolean) 2 := ⟨wm_135, wm_136, wm_69, wm_134, rfl, ⟨by decide, by decide⟩, by decide +kernel⟩
theorem cal_X7_wordAt : zCal RX7 yX7_wordAt cX7_wordAt 3 (some .int) 2 := ⟨wm_139, wm_140, wm_69, wm_138, rfl, ⟨by decide, by decide⟩, by decide +kernel⟩
theorem cal_X7_nearest : zCal RX7 yX7_nearest cX7_nearest 6 (some .int) 3 := ⟨wm_144, wm_145, wm_69, wm_143, rfl, ⟨by decide, by decide⟩, by decide +kernel⟩
theorem cal_X1_isLight : zCal RX1 yX1_isLight cX1_isLight 2 (some .boolean) 1 := ⟨wm_149, wm_150, wm_81, wm_148, rfl, ⟨by decide, by decide⟩, by decide +kernel⟩
theorem cal_X1_burdenOf : zCas RX1 yX1_burdenOf cX1_burdenOf 1 (some .int) 1 := ⟨wm_153, wm_81, wm_152, rfl, ⟨by decide, by decide⟩, by decide +kernel⟩
theorem cal_X1_weigh : zCal RX1 yX1_weigh cX1_weigh 3 none 0 := ⟨wm_156, wm_157, wm_81, wm_155, rfl, ⟨by decide, by decide⟩, by decide +kernel⟩
theorem cal_X4_isFull : zCal RX4 yX4_isFull cX4_isFull 1 (some .boolean) 0 := ⟨wm_161, wm_162, wm_63, wm_160, rfl, ⟨by decide, by decide⟩, by decide +kernel⟩
theorem cal_X7_isFull : zCal RX7 yX7_isFull cX7_isFull 1 (some .boolean) 0 := ⟨wm_165, wm_166, wm_69, wm_164, rfl, ⟨by decide, by decide⟩, by decide +kernel⟩
theorem cal_X4_size : zCal RX4 yX4_size cX4_size 1 (some .int) 0 := ⟨wm_169, wm_170, wm_63, wm_168, rfl, ⟨by decide, by decide⟩, by decide +kernel⟩
theorem cal_X4_wordAt : zCal RX4 yX4_wordAt cX4_wordAt 2 (some .int) 1 := ⟨wm_173, wm_174, wm_63, wm_172, rfl, ⟨by decide, by decide⟩, by decide +kernel⟩
theorem cal_X7_put : zCal RX7 yX7_put cX7_put 4 none 3 := ⟨wm_177, wm_178, wm_69, wm_176, rfl, ⟨by decide, by decide⟩, by decide +kernel⟩
theorem cal_X0_has : zCal RX0 yX0_has cX0_has 2 (some .boolean) 1 := ⟨wm_182, wm_183, wm_75, wm_181, rfl, ⟨by decide, by decide⟩, by decide +kernel⟩
theorem cal_X8_needArgument : zCas RX8 yX8_needArgument cX8_needArgument 3 none 3 := ⟨wm_188, wm_117, wm_187, rfl, ⟨by decide, by decide⟩, by decide +kernel⟩
theorem cal_X4_add : zCal RX4 yX4_add cX4_add 2 none 1 := ⟨wm_192, wm_193, wm_63, wm_191, rfl, ⟨by decide, by decide⟩, by decide +kernel⟩
theorem cal_X7_add : zCal RX7 yX7_add cX7_add 4 none 1 := ⟨wm_198, wm_199, wm_69, wm_197, rfl, ⟨by decide, by decide⟩, by decide +kernel⟩
theorem cal_X4_clear : zCal RX4 yX4_clear cX4_clear 1 none 0 := ⟨wm_202, wm_203, wm_63, wm_201, rfl, ⟨by decide, by decide⟩, by decide +kernel⟩
theorem cal_X7_count : zCal RX7 yX7_count cX7_count 1 (some .int) 0 := ⟨wm_206, wm_207, wm_69, wm_205, rfl, ⟨by decide, by decide⟩, by decide +kernel⟩
theorem cal_X7_takeOut : zCal RX7 yX7_takeOut cX7_takeOut 4 none 2 := ⟨wm_212, wm_213, wm_69, wm_211, rfl, ⟨by decide, by decide⟩, by decide +kernel⟩
theorem cal_X1_closeGap : zCal RX1 yX1_closeGap cX1_closeGap 6 none 3 := ⟨wm_216, wm_217, wm_81, wm_215, rfl, ⟨by decide, by decide⟩, by decide +kernel⟩
theorem cal_X1_hookAnew : zCal RX1 yX1_hookAnew cX1_hookAnew 7 (some .int) 2 := ⟨wm_220, wm_221, wm_81, wm_219, rfl, ⟨by decide, by decide⟩, by decide +kernel⟩
theorem cal_X8_needUnit : zCal RX8 yX8_needUnit cX8_needUnit 2 none 1 := ⟨wm_225, wm_226, wm_117, wm_224, rfl, ⟨by decide, by decide⟩, by decide +kernel⟩
theorem cal_X0_add : zCal RX0 yX0_add cX0_add 4 none 3 := ⟨wm_231, wm_232, wm_75, wm_230, rfl, ⟨by decide, by decide⟩, by decide +kernel⟩
theorem cal_X0_count : zCal RX0 yX0_count cX0_count 1 (some .int) 0 := ⟨wm_235, wm_236, wm_75, wm_234, rfl, ⟨by decide, by decide⟩, by decide +kernel⟩
theorem cal_X8_needAuthor : zCal RX8 yX8_needAuthor cX8_needAuthor 2 none 1 := ⟨wm_239, wm_240, wm_117, wm_238, rfl, ⟨by decide, by decide⟩, by decide +kernel⟩
theorem cal_X8_needRoomForComment : zCal RX8 yX8_needRoomForComment cX8_needRoomForComment 1 none 0 := ⟨wm_243, wm_244, wm_117, wm_242, rfl, ⟨by decide, by decide⟩, by decide +kernel⟩
theorem cal_X7_placeOf : zCal RX7 yX7_placeOf cX7_placeOf 6 (some .int) 3 := ⟨wm_247, wm_248, wm_69, wm_246, rfl, ⟨by decide, by decide⟩, by decide +kernel⟩
theorem cal_X1_add : zCal RX1 yX1_add cX1_add 5 (some .int) 4 := ⟨wm_251, wm_252, wm_81, wm_250, rfl, ⟨by decide, by decide⟩, by decide +kernel⟩
theorem cal_X1_hookTo : zCal RX1 yX1_hookTo cX1_hookTo 5 none 4 := ⟨wm_255, wm_256, wm_81, wm_254, rfl, ⟨by decide, by decide⟩, by decide +kernel⟩
theorem cal_X8_needComment : zCal RX8 yX8_needComment cX8_needComment 2 none 1 := ⟨wm_259, wm_260, wm_117, wm_258, rfl, ⟨by decide, by decide⟩, by decide +kernel⟩
theorem cal_X1_authorOf : zCal RX1 yX1_authorOf cX1_authorOf 2 (some .int) 1 := ⟨wm_263, wm_264, wm_81, wm_262, rfl, ⟨by decide, by decide⟩, by decide +kernel⟩
theorem cal_X1_unitOf : zCal RX1 yX1_unitOf cX1_unitOf 2 (some .int) 1 := ⟨wm_267, wm_268, wm_81, wm_266, rfl, ⟨by decide, by decide⟩, by decide +kernel⟩
theorem cal_X1_placeOf : zCal RX1 yX1_placeOf cX1_placeOf 2 (some .int) 1 := ⟨wm_271, wm_272, wm_81, wm_270, rfl, ⟨by decide, by decide⟩, by decide +kernel⟩
theorem cal_X1_isLost : zCal RX1 yX1_isLost cX1_isLost 3 (some .boolean) 1 := ⟨wm_275, wm_276, wm_81, wm_274, rfl, ⟨by decide, by decide⟩, by decide +kernel⟩
theorem cal_X1_stands : zCal RX1 yX1_stands cX1_stands 2 (some .boolean) 1 := ⟨wm_279, wm_280, wm_81, wm_278, rfl, ⟨by decide, by decide⟩, by decide +kernel⟩
theorem cal_X1_parentOf : zCal RX1 yX1_parentOf cX1_parentOf 2 (some .int) 1 := ⟨wm_283, wm_284, wm_81, wm_282, rfl, ⟨by decide, by decide⟩, by decide +kernel⟩
theorem cal_X1_kindOf : zCal RX1 yX1_kindOf cX1_kindOf 2 (some .int) 1 := ⟨wm_287, wm_288, wm_81, wm_286, rfl, ⟨by decide, by decide⟩, by decide +kernel⟩
theorem cal_X8_comment : zCal RX8 yX8_comment cX8_comment 10 (some .int) 7 := ⟨wm_294, wm_295, wm_117, wm_293, rfl, ⟨by decide, by decide⟩, by decide +kernel⟩
theorem cal_X8_emend : zCal RX8 yX8_emend cX8_emend 4 (some .int) 3 := ⟨wm_301, wm_302, wm_117, wm_300, rfl, ⟨by decide, by decide⟩, by decide +kernel⟩
theorem cal_L_cell : zCas RL yL_cell cL_cell 2 (some .int) 2 := ⟨wm_306, wm_297, wm_305, rfl, ⟨by decide, by decide⟩, by decide +kernel⟩
theorem cal_L_up : zCas RL yL_up cL_up 2 (some .int) 2 := ⟨wm_308, wm_297, wm_307, rfl, ⟨by decide, by decide⟩, by decide +kernel⟩
theorem cal_X8_unit : zCal RX8 yX8_unit cX8_unit 1 (some .int) 0 := ⟨wm_312, wm_313, wm_117, wm_311, rfl, ⟨by decide, by decide⟩, by decide +kernel⟩
theorem cal_X8_author : zCal RX8 yX8_author cX8_author 4 (some .int) 3 := ⟨wm_316, wm_317, wm_117, wm_315, rfl, ⟨by decide, by decide⟩, by decide +kernel⟩
theorem cal_X8_word : zCal RX8 yX8_word cX8_word 2 (some .int) 1 := ⟨wm_320, wm_321, wm_117, wm_319, rfl, ⟨by decide, by decide⟩, by decide +kernel⟩
theorem cal_X8_textOf : zCal RX8 yX8_textOf cX8_textOf 3 (some .int) 2 := ⟨wm_324, wm_325, wm_117, wm_323, rfl, ⟨by decide, by decide⟩, by decide +kernel⟩
theorem cal_X8_told : zCal RX8 yX8_told cX8_told 3 (some .int) 2 := ⟨wm_328, wm_329, wm_117, wm_327, rfl, ⟨by decide, by decide⟩, by decide +kernel⟩
theorem cal_L_near : zCas RL yL_near cL_near 5 (some .int) 4 := ⟨wm_333, wm_297, wm_332, rfl, ⟨by decide, by decide⟩, by decide +kernel⟩
theorem cal_L_nth : zCas RL yL_nth cL_nth 7 (some .int) 4 := ⟨wm_336, wm_297, wm_335, rfl, ⟨by decide, by decide⟩, by decide +kernel⟩
end
section
section Words2
variable {R : Type}
def zj9 (K : Int → Int → Int → Int → Int → Int → Int → Int → Int → zSt → Option R) (body : (Int → Int → Int → Int → Int → Int → Int → Int → Int → zSt → Option R) → Option R) : Option R := body K
theorem zj9_e {K : Int → Int → Int → Int → Int → Int → Int → Int → Int → zSt → Option R} {body : (Int → Int → Int → Int → Int → Int → Int → Int → Int → zSt → Option R) → Option R} {r : R} {PJ : Int → Int → Int → Int → Int → Int → Int → Int → Int → zSt → Prop} {G : Prop} (h : zj9 K body = some r) (hK : ∀ (a0 a1 a2 a3 a4 a5 a6 a7 a8 : Int) (S : zSt), K a0 a1 a2 a3 a4 a5 a6 a7 a8 S = some r → PJ a0 a1 a2 a3 a4 a5 a6 a7 a8 S) (hb : ∀ K' : Int → Int → Int → Int → Int → Int → Int → Int → Int → zSt → Option R, (∀ (a0 a1 a2 a3 a4 a5 a6 a7 a8 : Int) (S : zSt), K' a0 a1 a2 a3 a4 a5 a6 a7 a8 S = some r → PJ a0 a1 a2 a3 a4 a5 a6 a7 a8 S) → body K' = some r → G) : G := hb K hK h
noncomputable def zl9 (n : Nat) (F : (Int → Int → Int → Int → Int → Int → Int → Int → Int → zSt → Option R) → Int → Int → Int → Int → Int → Int → Int → Int → Int → zSt → Option R) : Int → Int → Int → Int → Int → Int → Int → Int → Int → zSt → Option R := Nat.rec (motive := fun _ => Int → Int → Int → Int → Int → Int → Int → Int → Int → zSt → Option R) (fun _ _ _ _ _ _ _ _ _ _ => none) (fun _ ih => F ih) n
theorem zl9_e {F : (Int → Int → Int → Int → Int → Int → Int → Int → Int → zSt → Option R) → Int → Int → Int → Int → Int → Int → Int → Int → Int → zSt → Option R} {r : R} (PJ : Int → Int → Int → Int → Int → Int → Int → Int → Int → zSt → Prop) (hs : ∀ (rec : Int → Int → Int → Int → Int → Int → Int → Int → Int → zSt → Option R) (a0 a1 a2 a3 a4 a5 a6 a7 a8 : Int) (S : zSt), (∀ (a0 a1 a2 a3 a4 a5 a6 a7 a8 : Int) (S : zSt), rec a0 a1 a2 a3 a4 a5 a6 a7 a8 S = some r → PJ a0 a1 a2 a3 a4 a5 a6 a7 a8 S) → F rec a0 a1 a2 a3 a4 a5 a6 a7 a8 S = some r → PJ a0 a1 a2 a3 a4 a5 a6 a7 a8 S) : ∀ (n : Nat) (a0 a1 a2 a3 a4 a5 a6 a7 a8 : Int) (S : zSt), zl9 n F a0 a1 a2 a3 a4 a5 a6 a7 a8 S = some r → PJ a0 a1 a2 a3 a4 a5 a6 a7 a8 S := by
  intro n
  induction n with
  | zero => intro a0 a1 a2 a3 a4 a5 a6 a7 a8 S h; cases h
  | succ n ih => intro a0 a1 a2 a3 a4 a5 a6 a7 a8 S h; exact hs (zl9 n F) a0 a1 a2 a3 a4 a5 a6 a7 a8 S ih h
def zj10 (K : Int → Int → Int → Int → Int → Int → Int → Int → Int → Int → zSt → Option R) (body : (Int → Int → Int → Int → Int → Int → Int → Int → Int → Int → zSt → Option R) → Option R) : Option R := body K
theorem zj10_e {K : Int → Int → Int → Int → Int → Int → Int → Int → Int → Int → zSt → Option R} {body : (Int → Int → Int → Int → Int → Int → Int → Int → Int → Int → zSt → Option R) → Option R} {r : R} {PJ : Int → Int → Int → Int → Int → Int → Int → Int → Int → Int → zSt → Prop} {G : Prop} (h : zj10 K body = some r) (hK : ∀ (a0 a1 a2 a3 a4 a5 a6 a7 a8 a9 : Int) (S : zSt), K a0 a1 a2 a3 a4 a5 a6 a7 a8 a9 S = some r → PJ a0 a1 a2 a3 a4 a5 a6 a7 a8 a9 S) (hb : ∀ K' : Int → Int → Int → Int → Int → Int → Int → Int → Int → Int → zSt → Option R, (∀ (a0 a1 a2 a3 a4 a5 a6 a7 a8 a9 : Int) (S : zSt), K' a0 a1 a2 a3 a4 a5 a6 a7 a8 a9 S = some r → PJ a0 a1 a2 a3 a4 a5 a6 a7 a8 a9 S) → body K' = some r → G) : G := hb K hK h
noncomputable def zl10 (n : Nat) (F : (Int → Int → Int → Int → Int → Int → Int → Int → Int → Int → zSt → Option R) → Int → Int → Int → Int → Int → Int → Int → Int → Int → Int → zSt → Option R) : Int → Int → Int → Int → Int → Int → Int → Int → Int → Int → zSt → Option R := Nat.rec (motive := fun _ => Int → Int → Int → Int → Int → Int → Int → Int → Int → Int → zSt → Option R) (fun _ _ _ _ _ _ _ _ _ _ _ => none) (fun _ ih => F ih) n
theorem zl10_e {F : (Int → Int → Int → Int → Int → Int → Int → Int → Int → Int → zSt → Option R) → Int → Int → Int → Int → Int → Int → Int → Int → Int → Int → zSt → Option R} {r : R} (PJ : Int → Int → Int → Int → Int → Int → Int → Int → Int → Int → zSt → Prop) (hs : ∀ (rec : Int → Int → Int → Int → Int → Int → Int → Int → Int → Int → zSt → Option R) (a0 a1 a2 a3 a4 a5 a6 a7 a8 a9 : Int) (S : zSt), (∀ (a0 a1 a2 a3 a4 a5 a6 a7 a8 a9 : Int) (S : zSt), rec a0 a1 a2 a3 a4 a5 a6 a7 a8 a9 S = some r → PJ a0 a1 a2 a3 a4 a5 a6 a7 a8 a9 S) → F rec a0 a1 a2 a3 a4 a5 a6 a7 a8 a9 S = some r → PJ a0 a1 a2 a3 a4 a5 a6 a7 a8 a9 S) : ∀ (n : Nat) (a0 a1 a2 a3 a4 a5 a6 a7 a8 a9 : Int) (S : zSt), zl10 n F a0 a1 a2 a3 a4 a5 a6 a7 a8 a9 S = some r → PJ a0 a1 a2 a3 a4 a5 a6 a7 a8 a9 S := by
  intro n
  induction n with
  | zero => intro a0 a1 a2 a3 a4 a5 a6 a7 a8 a9 S h; cases h
  | succ n ih => intro a0 a1 a2 a3 a4 a5 a6 a7 a8 a9 S h; exact hs (zl10 n F) a0 a1 a2 a3 a4 a5 a6 a7 a8 a9 S ih h
def zj11 (K : Int → Int → Int → Int → Int → Int → Int → Int → Int → Int → Int → zSt → Option R) (body : (Int → Int → Int → Int → Int → Int → Int → Int → Int → Int → Int → zSt → Option R) → Option R) : Option R := body K
theorem zj11_e {K : Int → Int → Int → Int → Int → Int → Int → Int → Int → Int → Int → zSt → Option R} {body : (Int → Int → Int → Int → Int → Int → Int → Int → Int → Int → Int → zSt → Option R) → Option R} {r : R} {PJ : Int → Int → Int → Int → Int → Int → Int → Int → Int → Int → Int → zSt → Prop} {G : Prop} (h : zj11 K body = some r) (hK : ∀ (a0 a1 a2 a3 a4 a5 a6 a7 a8 a9 a10 : Int) (S : zSt), K a0 a1 a2 a3 a4 a5 a6 a7 a8 a9 a10 S = some r → PJ a0 a1 a2 a3 a4 a5 a6 a7 a8 a9 a10 S) (hb : ∀ K' : Int → Int → Int → Int → Int → Int → Int → Int → Int → Int → Int → zSt → Option R, (∀ (a0 a1 a2 a3 a4 a5 a6 a7 a8 a9 a10 : Int) (S : zSt), K' a0 a1 a2 a3 a4 a5 a6 a7 a8 a9 a10 S = some r → PJ a0 a1 a2 a3 a4 a5 a6 a7 a8 a9 a10 S) → body K' = some r → G) : G := hb K hK h
noncomputable def zl11 (n : Nat) (F : (Int → Int → Int → Int → Int → Int → Int → Int → Int → Int → Int → zSt → Option R) → Int → Int → Int → Int → Int → Int → Int → Int → Int → Int → Int → zSt → Option R) : Int → Int → Int → Int → Int → Int → Int → Int → Int → Int → Int → zSt → Option R := Nat.rec (motive := fun _ => Int → Int → Int → Int → Int → Int → Int → Int → Int → Int → Int → zSt → Option R) (fun _ _ _ _ _ _ _ _ _ _ _ _ => none) (fun _ ih => F ih) n
theorem zl11_e {F : (Int → Int → Int → Int → Int → Int → Int → Int → Int → Int → Int → zSt → Option R) → Int → Int → Int → Int → Int → Int → Int → Int → Int → Int → Int → zSt → Option R} {r : R} (PJ : Int → Int → Int → Int → Int → Int → Int → Int → Int → Int → Int → zSt → Prop) (hs : ∀ (rec : Int → Int → Int → Int → Int → Int → Int → Int → Int → Int → Int → zSt → Option R) (a0 a1 a2 a3 a4 a5 a6 a7 a8 a9 a10 : Int) (S : zSt), (∀ (a0 a1 a2 a3 a4 a5 a6 a7 a8 a9 a10 : Int) (S : zSt), rec a0 a1 a2 a3 a4 a5 a6 a7 a8 a9 a10 S = some r → PJ a0 a1 a2 a3 a4 a5 a6 a7 a8 a9 a10 S) → F rec a0 a1 a2 a3 a4 a5 a6 a7 a8 a9 a10 S = some r → PJ a0 a1 a2 a3 a4 a5 a6 a7 a8 a9 a10 S) : ∀ (n : Nat) (a0 a1 a2 a3 a4 a5 a6 a7 a8 a9 a10 : Int) (S : zSt), zl11 n F a0 a1 a2 a3 a4 a5 a6 a7 a8 a9 a10 S = some r → PJ a0 a1 a2 a3 a4 a5 a6 a7 a8 a9 a10 S := by
  intro n
  induction n with
  | zero => intro a0 a1 a2 a3 a4 a5 a6 a7 a8 a9 a10 S h; cases h
  | succ n ih => intro a0 a1 a2 a3 a4 a5 a6 a7 a8 a9 a10 S h; exact hs (zl11 n F) a0 a1 a2 a3 a4 a5 a6 a7 a8 a9 a10 S ih h
def zj12 (K : Int → Int → Int → Int → Int → Int → Int → Int → Int → Int → Int → Int → zSt → Option R) (body : (Int → Int → Int → Int → Int → Int → Int → Int → Int → Int → Int → Int → zSt → Option R) → Option R) : Option R := body K
theorem zj12_e {K : Int → Int → Int → Int → Int → Int → Int → Int → Int → Int → Int → Int → zSt → Option R} {body : (Int → Int → Int → Int → Int → Int → Int → Int → Int → Int → Int → Int → zSt → Option R) → Option R} {r : R} {PJ : Int → Int → Int → Int → Int → Int → Int → Int → Int → Int → Int → Int → zSt → Prop} {G : Prop} (h : zj12 K body = some r) (hK : ∀ (a0 a1 a2 a3 a4 a5 a6 a7 a8 a9 a10 a11 : Int) (S : zSt), K a0 a1 a2 a3 a4 a5 a6 a7 a8 a9 a10 a11 S = some r → PJ a0 a1 a2 a3 a4 a5 a6 a7 a8 a9 a10 a11 S) (hb : ∀ K' : Int → Int → Int → Int → Int → Int → Int → Int → Int → Int → Int → Int → zSt → Option R, (∀ (a0 a1 a2 a3 a4 a5 a6 a7 a8 a9 a10 a11 : Int) (S : zSt), K' a0 a1 a2 a3 a4 a5 a6 a7 a8 a9 a10 a11 S = some r → PJ a0 a1 a2 a3 a4 a5 a6 a7 a8 a9 a10 a11 S) → body K' = some r → G) : G := hb K hK h
noncomputable def zl12 (n : Nat) (F : (Int → Int → Int → Int → Int → Int → Int → Int → Int → Int → Int → Int → zSt → Option R) → Int → Int → Int → Int → Int → Int → Int → Int → Int → Int → Int → Int → zSt → Option R) : Int → Int → Int → Int → Int → Int → Int → Int → Int → Int → Int → Int → zSt → Option R := Nat.rec (motive := fun _ => Int → Int → Int → Int → Int → Int → Int → Int → Int → Int → Int → Int → zSt → Option R) (fun _ _ _ _ _ _ _ _ _ _ _ _ _ => none) (fun _ ih => F ih) n
theorem zl12_e {F : (Int → Int → Int → Int → Int → Int → Int → Int → Int → Int → Int → Int → zSt → Option R) → Int → Int → Int → Int → Int → Int → Int → Int → Int → Int → Int → Int → zSt → Option R} {r : R} (PJ : Int → Int → Int → Int → Int → Int → Int → Int → Int → Int → Int → Int → zSt → Prop) (hs : ∀ (rec : Int → Int → Int → Int → Int → Int → Int → Int → Int → Int → Int → Int → zSt → Option R) (a0 a1 a2 a3 a4 a5 a6 a7 a8 a9 a10 a11 : Int) (S : zSt), (∀ (a0 a1 a2 a3 a4 a5 a6 a7 a8 a9 a10 a11 : Int) (S : zSt), rec a0 a1 a2 a3 a4 a5 a6 a7 a8 a9 a10 a11 S = some r → PJ a0 a1 a2 a3 a4 a5 a6 a7 a8 a9 a10 a11 S) → F rec a0 a1 a2 a3 a4 a5 a6 a7 a8 a9 a10 a11 S = some r → PJ a0 a1 a2 a3 a4 a5 a6 a7 a8 a9 a10 a11 S) : ∀ (n : Nat) (a0 a1 a2 a3 a4 a5 a6 a7 a8 a9 a10 a11 : Int) (S : zSt), zl12 n F a0 a1 a2 a3 a4 a5 a6 a7 a8 a9 a10 a11 S = some r → PJ a0 a1 a2 a3 a4 a5 a6 a7 a8 a9 a10 a11 S := by
  intro n
  induction n with
  | zero => intro a0 a1 a2 a3 a4 a5 a6 a7 a8 a9 a10 a11 S h; cases h
  | succ n ih => intro a0 a1 a2 a3 a4 a5 a6 a7 a8 a9 a10 a11 S h; exact hs (zl12 n F) a0 a1 a2 a3 a4 a5 a6 a7 a8 a9 a10 a11 S ih h
def zj13 (K : Int → Int → Int → Int → Int → Int → Int → Int → Int → Int → Int → Int → Int → zSt → Option R) (body : (Int → Int → Int → Int → Int → Int → Int → Int → Int → Int → Int → Int → Int → zSt → Option R) → Option R) : Option R := body K
theorem zj13_e {K : Int → Int → Int → Int → Int → Int → Int → Int → Int → Int → Int → Int → Int → zSt → Option R} {body : (Int → Int → Int → Int → Int → Int → Int → Int → Int → Int → Int → Int → Int → zSt → Option R) → Option R} {r : R} {PJ : Int → Int → Int → Int → Int → Int → Int → Int → Int → Int → Int → Int → Int → zSt → Prop} {G : Prop} (h : zj13 K body = some r) (hK : ∀ (a0 a1 a2 a3 a4 a5 a6 a7 a8 a9 a10 a11 a12 : Int) (S : zSt), K a0 a1 a2 a3 a4 a5 a6 a7 a8 a9 a10 a11 a12 S = some r → PJ a0 a1 a2 a3 a4 a5 a6 a7 a8 a9 a10 a11 a12 S) (hb : ∀ K' : Int → Int → Int → Int → Int → Int → Int → Int → Int → Int → Int → Int → Int → zSt → Option R, (∀ (a0 a1 a2 a3 a4 a5 a6 a7 a8 a9 a10 a11 a12 : Int) (S : zSt), K' a0 a1 a2 a3 a4 a5 a6 a7 a8 a9 a10 a11 a12 S = some r → PJ a0 a1 a2 a3 a4 a5 a6 a7 a8 a9 a10 a11 a12 S) → body K' = some r → G) : G := hb K hK h
noncomputable def zl13 (n : Nat) (F : (Int → Int → Int → Int → Int → Int → Int → Int → Int → Int → Int → Int → Int → zSt → Option R) → Int → Int → Int → Int → Int → Int → Int → Int → Int → Int → Int → Int → Int → zSt → Option R) : Int → Int → Int → Int → Int → Int → Int → Int → Int → Int → Int → Int → Int → zSt → Option R := Nat.rec (motive := fun _ => Int → Int → Int → Int → Int → Int → Int → Int → Int → Int → Int → Int → Int → zSt → Option R) (fun _ _ _ _ _ _ _ _ _ _ _ _ _ _ => none) (fun _ ih => F ih) n
theorem zl13_e {F : (Int → Int → Int → Int → Int → Int → Int → Int → Int → Int → Int → Int → Int → zSt → Option R) → Int → Int → Int → Int → Int → Int → Int → Int → Int → Int → Int → Int → Int → zSt → Option R} {r : R} (PJ : Int → Int → Int → Int → Int → Int → Int → Int → Int → Int → Int → Int → Int → zSt → Prop) (hs : ∀ (rec : Int → Int → Int → Int → Int → Int → Int → Int → Int → Int → Int → Int → Int → zSt → Option R) (a0 a1 a2 a3 a4 a5 a6 a7 a8 a9 a10 a11 a12 : Int) (S : zSt), (∀ (a0 a1 a2 a3 a4 a5 a6 a7 a8 a9 a10 a11 a12 : Int) (S : zSt), rec a0 a1 a2 a3 a4 a5 a6 a7 a8 a9 a10 a11 a12 S = some r → PJ a0 a1 a2 a3 a4 a5 a6 a7 a8 a9 a10 a11 a12 S) → F rec a0 a1 a2 a3 a4 a5 a6 a7 a8 a9 a10 a11 a12 S = some r → PJ a0 a1 a2 a3 a4 a5 a6 a7 a8 a9 a10 a11 a12 S) : ∀ (n : Nat) (a0 a1 a2 a3 a4 a5 a6 a7 a8 a9 a10 a11 a12 : Int) (S : zSt), zl13 n F a0 a1 a2 a3 a4 a5 a6 a7 a8 a9 a10 a11 a12 S = some r → PJ a0 a1 a2 a3 a4 a5 a6 a7 a8 a9 a10 a11 a12 S := by
  intro n
  induction n with
  | zero => intro a0 a1 a2 a3 a4 a5 a6 a7 a8 a9 a10 a11 a12 S h; cases h
  | succ n ih => intro a0 a1 a2 a3 a4 a5 a6 a7 a8 a9 a10 a11 a12 S h; exact hs (zl13 n F) a0 a1 a2 a3 a4 a5 a6 a7 a8 a9 a10 a11 a12 S ih h
def zj14 (K : Int → Int → Int → Int → Int → Int → Int → Int → Int → Int → Int → Int → Int → Int → zSt → Option R) (body : (Int → Int → Int → Int → Int → Int → Int → Int → Int → Int → Int → Int → Int → Int → zSt → Option R) → Option R) : Option R := body K
theorem zj14_e {K : Int → Int → Int → Int → Int → Int → Int → Int → Int → Int → Int → Int → Int → Int → zSt → Option R} {body : (Int → Int → Int → Int → Int → Int → Int → Int → Int → Int → Int → Int → Int → Int → zSt → Option R) → Option R} {r : R} {PJ : Int → Int → Int → Int → Int → Int → Int → Int → Int → Int → Int → Int → Int → Int → zSt → Prop} {G : Prop} (h : zj14 K body = some r) (hK : ∀ (a0 a1 a2 a3 a4 a5 a6 a7 a8 a9 a10 a11 a12 a13 : Int) (S : zSt), K a0 a1 a2 a3 a4 a5 a6 a7 a8 a9 a10 a11 a12 a13 S = some r → PJ a0 a1 a2 a3 a4 a5 a6 a7 a8 a9 a10 a11 a12 a13 S) (hb : ∀ K' : Int → Int → Int → Int → Int → Int → Int → Int → Int → Int → Int → Int → Int → Int → zSt → Option R, (∀ (a0 a1 a2 a3 a4 a5 a6 a7 a8 a9 a10 a11 a12 a13 : Int) (S : zSt), K' a0 a1 a2 a3 a4 a5 a6 a7 a8 a9 a10 a11 a12 a13 S = some r → PJ a0 a1 a2 a3 a4 a5 a6 a7 a8 a9 a10 a11 a12 a13 S) → body K' = some r → G) : G := hb K hK h
noncomputable def zl14 (n : Nat) (F : (Int → Int → Int → Int → Int → Int → Int → Int → Int → Int → Int → Int → Int → Int → zSt → Option R) → Int → Int → Int → Int → Int → Int → Int → Int → Int → Int → Int → Int → Int → Int → zSt → Option R) : Int → Int → Int → Int → Int → Int → Int → Int → Int → Int → Int → Int → Int → Int → zSt → Option R := Nat.rec (motive := fun _ => Int → Int → Int → Int → Int → Int → Int → Int → Int → Int → Int → Int → Int → Int → zSt → Option R) (fun _ _ _ _ _ _ _ _ _ _ _ _ _ _ _ => none) (fun _ ih => F ih) n
theorem zl14_e {F : (Int → Int → Int → Int → Int → Int → Int → Int → Int → Int → Int → Int → Int → Int → zSt → Option R) → Int → Int → Int → Int → Int → Int → Int → Int → Int → Int → Int → Int → Int → Int → zSt → Option R} {r : R} (PJ : Int → Int → Int → Int → Int → Int → Int → Int → Int → Int → Int → Int → Int → Int → zSt → Prop) (hs : ∀ (rec : Int → Int → Int → Int → Int → Int → Int → Int → Int → Int → Int → Int → Int → Int → zSt → Option R) (a0 a1 a2 a3 a4 a5 a6 a7 a8 a9 a10 a11 a12 a13 : Int) (S : zSt), (∀ (a0 a1 a2 a3 a4 a5 a6 a7 a8 a9 a10 a11 a12 a13 : Int) (S : zSt), rec a0 a1 a2 a3 a4 a5 a6 a7 a8 a9 a10 a11 a12 a13 S = some r → PJ a0 a1 a2 a3 a4 a5 a6 a7 a8 a9 a10 a11 a12 a13 S) → F rec a0 a1 a2 a3 a4 a5 a6 a7 a8 a9 a10 a11 a12 a13 S = some r → PJ a0 a1 a2 a3 a4 a5 a6 a7 a8 a9 a10 a11 a12 a13 S) : ∀ (n : Nat) (a0 a1 a2 a3 a4 a5 a6 a7 a8 a9 a10 a11 a12 a13 : Int) (S : zSt), zl14 n F a0 a1 a2 a3 a4 a5 a6 a7 a8 a9 a10 a11 a12 a13 S = some r → PJ a0 a1 a2 a3 a4 a5 a6 a7 a8 a9 a10 a11 a12 a13 S := by
  intro n
  induction n with
  | zero => intro a0 a1 a2 a3 a4 a5 a6 a7 a8 a9 a10 a11 a12 a13 S h; cases h
  | succ n ih => intro a0 a1 a2 a3 a4 a5 a6 a7 a8 a9 a10 a11 a12 a13 S h; exact hs (zl14 n F) a0 a1 a2 a3 a4 a5 a6 a7 a8 a9 a10 a11 a12 a13 S ih h
def zj15 (K : Int → Int → Int → Int → Int → Int → Int → Int → Int → Int → Int → Int → Int → Int → Int → zSt → Option R) (body : (Int → Int → Int → Int → Int → Int → Int → Int → Int → Int → Int → Int → Int → Int → Int → zSt → Option R) → Option R) : Option R := body K
theorem zj15_e {K : Int → Int → Int → Int → Int → Int → Int → Int → Int → Int → Int → Int → Int → Int → Int → zSt → Option R} {body : (Int → Int → Int → Int → Int → Int → Int → Int → Int → Int → Int → Int → Int → Int → Int → zSt → Option R) → Option R} {r : R} {PJ : Int → Int → Int → Int → Int → Int → Int → Int → Int → Int → Int → Int → Int → Int → Int → zSt → Prop} {G : Prop} (h : zj15 K body = some r) (hK : ∀ (a0 a1 a2 a3 a4 a5 a6 a7 a8 a9 a10 a11 a12 a13 a14 : Int) (S : zSt), K a0 a1 a2 a3 a4 a5 a6 a7 a8 a9 a10 a11 a12 a13 a14 S = some r → PJ a0 a1 a2 a3 a4 a5 a6 a7 a8 a9 a10 a11 a12 a13 a14 S) (hb : ∀ K' : Int → Int → Int → Int → Int → Int → Int → Int → Int → Int → Int → Int → Int → Int → Int → zSt → Option R, (∀ (a0 a1 a2 a3 a4 a5 a6 a7 a8 a9 a10 a11 a12 a13 a14 : Int) (S : zSt), K' a0 a1 a2 a3 a4 a5 a6 a7 a8 a9 a10 a11 a12 a13 a14 S = some r → PJ a0 a1 a2 a3 a4 a5 a6 a7 a8 a9 a10 a11 a12 a13 a14 S) → body K' = some r → G) : G := hb K hK h
noncomputable def zl15 (n : Nat) (F : (Int → Int → Int → Int → Int → Int → Int → Int → Int → Int → Int → Int → Int → Int → Int → zSt → Option R) → Int → Int → Int → Int → Int → Int → Int → Int → Int → Int → Int → Int → Int → Int → Int → zSt → Option R) : Int → Int → Int → Int → Int → Int → Int → Int → Int → Int → Int → Int → Int → Int → Int → zSt → Option R := Nat.rec (motive := fun _ => Int → Int → Int → Int → Int → Int → Int → Int → Int → Int → Int → Int → Int → Int → Int → zSt → Option R) (fun _ _ _ _ _ _ _ _ _ _ _ _ _ _ _ _ => none) (fun _ ih => F ih) n
theorem zl15_e {F : (Int → Int → Int → Int → Int → Int → Int → Int → Int → Int → Int → Int → Int → Int → Int → zSt → Option R) → Int → Int → Int → Int → Int → Int → Int → Int → Int → Int → Int → Int → Int → Int → Int → zSt → Option R} {r : R} (PJ : Int → Int → Int → Int → Int → Int → Int → Int → Int → Int → Int → Int → Int → Int → Int → zSt → Prop) (hs : ∀ (rec : Int → Int → Int → Int → Int → Int → Int → Int → Int → Int → Int → Int → Int → Int → Int → zSt → Option R) (a0 a1 a2 a3 a4 a5 a6 a7 a8 a9 a10 a11 a12 a13 a14 : Int) (S : zSt), (∀ (a0 a1 a2 a3 a4 a5 a6 a7 a8 a9 a10 a11 a12 a13 a14 : Int) (S : zSt), rec a0 a1 a2 a3 a4 a5 a6 a7 a8 a9 a10 a11 a12 a13 a14 S = some r → PJ a0 a1 a2 a3 a4 a5 a6 a7 a8 a9 a10 a11 a12 a13 a14 S) → F rec a0 a1 a2 a3 a4 a5 a6 a7 a8 a9 a10 a11 a12 a13 a14 S = some r → PJ a0 a1 a2 a3 a4 a5 a6 a7 a8 a9 a10 a11 a12 a13 a14 S) : ∀ (n : Nat) (a0 a1 a2 a3 a4 a5 a6 a7 a8 a9 a10 a11 a12 a13 a14 : Int) (S : zSt), zl15 n F a0 a1 a2 a3 a4 a5 a6 a7 a8 a9 a10 a11 a12 a13 a14 S = some r → PJ a0 a1 a2 a3 a4 a5 a6 a7 a8 a9 a10 a11 a12 a13 a14 S := by
  intro n
  induction n with
  | zero => intro a0 a1 a2 a3 a4 a5 a6 a7 a8 a9 a10 a11 a12 a13 a14 S h; cases h
  | succ n ih => intro a0 a1 a2 a3 a4 a5 a6 a7 a8 a9 a10 a11 a12 a13 a14 S h; exact hs (zl15 n F) a0 a1 a2 a3 a4 a5 a6 a7 a8 a9 a10 a11 a12 a13 a14 S ih h
def zj16 (K : Int → Int → Int → Int → Int → Int → Int → Int → Int → Int → Int → Int → Int → Int → Int → Int → zSt → Option R) (body : (Int → Int → Int → Int → Int → Int → Int → Int → Int → Int → Int → Int → Int → Int → Int → Int → zSt → Option R) → Option R) : Option R := body K
theorem zj16_e {K : Int → Int → Int → Int → Int → Int → Int → Int → Int → Int → Int → Int → Int → Int → Int → Int → zSt → Option R} {body : (Int → Int → Int → Int → Int → Int → Int → Int → Int → Int → Int → Int → Int → Int → Int → Int → zSt → Option R) → Option R} {r : R} {PJ : Int → Int → Int → Int → Int → Int → Int → Int → Int → Int → Int → Int → Int → Int → Int → Int → zSt → Prop} {G : Prop} (h : zj16 K body = some r) (hK : ∀ (a0 a1 a2 a3 a4 a5 a6 a7 a8 a9 a10 a11 a12 a13 a14 a15 : Int) (S : zSt), K a0 a1 a2 a3 a4 a5 a6 a7 a8 a9 a10 a11 a12 a13 a14 a15 S = some r → PJ a0 a1 a2 a3 a4 a5 a6 a7 a8 a9 a10 a11 a12 a13 a14 a15 S) (hb : ∀ K' : Int → Int → Int → Int → Int → Int → Int → Int → Int → Int → Int → Int → Int → Int → Int → Int → zSt → Option R, (∀ (a0 a1 a2 a3 a4 a5 a6 a7 a8 a9 a10 a11 a12 a13 a14 a15 : Int) (S : zSt), K' a0 a1 a2 a3 a4 a5 a6 a7 a8 a9 a10 a11 a12 a13 a14 a15 S = some r → PJ a0 a1 a2 a3 a4 a5 a6 a7 a8 a9 a10 a11 a12 a13 a14 a15 S) → body K' = some r → G) : G := hb K hK h
noncomputable def zl16 (n : Nat) (F : (Int → Int → Int → Int → Int → Int → Int → Int → Int → Int → Int → Int → Int → Int → Int → Int → zSt → Option R) → Int → Int → Int → Int → Int → Int → Int → Int → Int → Int → Int → Int → Int → Int → Int → Int → zSt → Option R) : Int → Int → Int → Int → Int → Int → Int → Int → Int → Int → Int → Int → Int → Int → Int → Int → zSt → Option R := Nat.rec (motive := fun _ => Int → Int → Int → Int → Int → Int → Int → Int → Int → Int → Int → Int → Int → Int → Int → Int → zSt → Option R) (fun _ _ _ _ _ _ _ _ _ _ _ _ _ _ _ _ _ => none) (fun _ ih => F ih) n
theorem zl16_e {F : (Int → Int → Int → Int → Int → Int → Int → Int → Int → Int → Int → Int → Int → Int → Int → Int → zSt → Option R) → Int → Int → Int → Int → Int → Int → Int → Int → Int → Int → Int → Int → Int → Int → Int → Int → zSt → Option R} {r : R} (PJ : Int → Int → Int → Int → Int → Int → Int → Int → Int → Int → Int → Int → Int → Int → Int → Int → zSt → Prop) (hs : ∀ (rec : Int → Int → Int → Int → Int → Int → Int → Int → Int → Int → Int → Int → Int → Int → Int → Int → zSt → Option R) (a0 a1 a2 a3 a4 a5 a6 a7 a8 a9 a10 a11 a12 a13 a14 a15 : Int) (S : zSt), (∀ (a0 a1 a2 a3 a4 a5 a6 a7 a8 a9 a10 a11 a12 a13 a14 a15 : Int) (S : zSt), rec a0 a1 a2 a3 a4 a5 a6 a7 a8 a9 a10 a11 a12 a13 a14 a15 S = some r → PJ a0 a1 a2 a3 a4 a5 a6 a7 a8 a9 a10 a11 a12 a13 a14 a15 S) → F rec a0 a1 a2 a3 a4 a5 a6 a7 a8 a9 a10 a11 a12 a13 a14 a15 S = some r → PJ a0 a1 a2 a3 a4 a5 a6 a7 a8 a9 a10 a11 a12 a13 a14 a15 S) : ∀ (n : Nat) (a0 a1 a2 a3 a4 a5 a6 a7 a8 a9 a10 a11 a12 a13 a14 a15 : Int) (S : zSt), zl16 n F a0 a1 a2 a3 a4 a5 a6 a7 a8 a9 a10 a11 a12 a13 a14 a15 S = some r → PJ a0 a1 a2 a3 a4 a5 a6 a7 a8 a9 a10 a11 a12 a13 a14 a15 S := by
  intro n
  induction n with
  | zero => intro a0 a1 a2 a3 a4 a5 a6 a7 a8 a9 a10 a11 a12 a13 a14 a15 S h; cases h
  | succ n ih => intro a0 a1 a2 a3 a4 a5 a6 a7 a8 a9 a10 a11 a12 a13 a14 a15 S h; exact hs (zl16 n F) a0 a1 a2 a3 a4 a5 a6 a7 a8 a9 a10 a11 a12 a13 a14 a15 S ih h
def zj17 (K : Int → Int → Int → Int → Int → Int → Int → Int → Int → Int → Int → Int → Int → Int → Int → Int → Int → zSt → Option R) (body : (Int → Int → Int → Int → Int → Int → Int → Int → Int → Int → Int → Int → Int → Int → Int → Int → Int → zSt → Option R) → Option R) : Option R := body K
theorem zj17_e {K : Int → Int → Int → Int → Int → Int → Int → Int → Int → Int → Int → Int → Int → Int → Int → Int → Int → zSt → Option R} {body : (Int → Int → Int → Int → Int → Int → Int → Int → Int → Int → Int → Int → Int → Int → Int → Int → Int → zSt → Option R) → Option R} {r : R} {PJ : Int → Int → Int → Int → Int → Int → Int → Int → Int → Int → Int → Int → Int → Int → Int → Int → Int → zSt → Prop} {G : Prop} (h : zj17 K body = some r) (hK : ∀ (a0 a1 a2 a3 a4 a5 a6 a7 a8 a9 a10 a11 a12 a13 a14 a15 a16 : Int) (S : zSt), K a0 a1 a2 a3 a4 a5 a6 a7 a8 a9 a10 a11 a12 a13 a14 a15 a16 S = some r → PJ a0 a1 a2 a3 a4 a5 a6 a7 a8 a9 a10 a11 a12 a13 a14 a15 a16 S) (hb : ∀ K' : Int → Int → Int → Int → Int → Int → Int → Int → Int → Int → Int → Int → Int → Int → Int → Int → Int → zSt → Option R, (∀ (a0 a1 a2 a3 a4 a5 a6 a7 a8 a9 a10 a11 a12 a13 a14 a15 a16 : Int) (S : zSt), K' a0 a1 a2 a3 a4 a5 a6 a7 a8 a9 a10 a11 a12 a13 a14 a15 a16 S = some r → PJ a0 a1 a2 a3 a4 a5 a6 a7 a8 a9 a10 a11 a12 a13 a14 a15 a16 S) → body K' = some r → G) : G := hb K hK h
noncomputable def zl17 (n : Nat) (F : (Int → Int → Int → Int → Int → Int → Int → Int → Int → Int → Int → Int → Int → Int → Int → Int → Int → zSt → Option R) → Int → Int → Int → Int → Int → Int → Int → Int → Int → Int → Int → Int → Int → Int → Int → Int → Int → zSt → Option R) : Int → Int → Int → Int → Int → Int → Int → Int → Int → Int → Int → Int → Int → Int → Int → Int → Int → zSt → Option R := Nat.rec (motive := fun _ => Int → Int → Int → Int → Int → Int → Int → Int → Int → Int → Int → Int → Int → Int → Int → Int → Int → zSt → Option R) (fun _ _ _ _ _ _ _ _ _ _ _ _ _ _ _ _ _ _ => none) (fun _ ih => F ih) n
theorem zl17_e {F : (Int → Int → Int → Int → Int → Int → Int → Int → Int → Int → Int → Int → Int → Int → Int → Int → Int → zSt → Option R) → Int → Int → Int → Int → Int → Int → Int → Int → Int → Int → Int → Int → Int → Int → Int → Int → Int → zSt → Option R} {r : R} (PJ : Int → Int → Int → Int → Int → Int → Int → Int → Int → Int → Int → Int → Int → Int → Int → Int → Int → zSt → Prop) (hs : ∀ (rec : Int → Int → Int → Int → Int → Int → Int → Int → Int → Int → Int → Int → Int → Int → Int → Int → Int → zSt → Option R) (a0 a1 a2 a3 a4 a5 a6 a7 a8 a9 a10 a11 a12 a13 a14 a15 a16 : Int) (S : zSt), (∀ (a0 a1 a2 a3 a4 a5 a6 a7 a8 a9 a10 a11 a12 a13 a14 a15 a16 : Int) (S : zSt), rec a0 a1 a2 a3 a4 a5 a6 a7 a8 a9 a10 a11 a12 a13 a14 a15 a16 S = some r → PJ a0 a1 a2 a3 a4 a5 a6 a7 a8 a9 a10 a11 a12 a13 a14 a15 a16 S) → F rec a0 a1 a2 a3 a4 a5 a6 a7 a8 a9 a10 a11 a12 a13 a14 a15 a16 S = some r → PJ a0 a1 a2 a3 a4 a5 a6 a7 a8 a9 a10 a11 a12 a13 a14 a15 a16 S) : ∀ (n : Nat) (a0 a1 a2 a3 a4 a5 a6 a7 a8 a9 a10 a11 a12 a13 a14 a15 a16 : Int) (S : zSt), zl17 n F a0 a1 a2 a3 a4 a5 a6 a7 a8 a9 a10 a11 a12 a13 a14 a15 a16 S = some r → PJ a0 a1 a2 a3 a4 a5 a6 a7 a8 a9 a10 a11 a12 a13 a14 a15 a16 S := by
  intro n
  induction n with
  | zero => intro a0 a1 a2 a3 a4 a5 a6 a7 a8 a9 a10 a11 a12 a13 a14 a15 a16 S h; cases h
  | succ n ih => intro a0 a1 a2 a3 a4 a5 a6 a7 a8 a9 a10 a11 a12 a13 a14 a15 a16 S h; exact hs (zl17 n F) a0 a1 a2 a3 a4 a5 a6 a7 a8 a9 a10 a11 a12 a13 a14 a15 a16 S ih h
end Words2
/-! BITS, MATH, SWITCHES, THE JDK's OWN -/
theorem ze_and (a b : Nat) : nI a &&& nI b = nI (a &&& b) := by
  apply Int32.toBitVec_inj.1
  show BitVec.ofNat 32 a &&& BitVec.ofNat 32 b = BitVec.ofNat 32 (a &&& b)
  apply BitVec.eq_of_getLsbD_eq
  intro i hi
  simp [hi]
theorem ze_or (a b : Nat) : nI a ||| nI b = nI (a ||| b) := by
  apply Int32.toBitVec_inj.1
  show BitVec.ofNat 32 a ||| BitVec.ofNat 32 b = BitVec.ofNat 32 (a ||| b)
  apply BitVec.eq_of_getLsbD_eq
  intro i hi
  simp [hi]
theorem ze_s : ∀ n, n < 32 → ((nI n &&& 31).toBitVec.smod 32).toNat = n := by decide +kernel
theorem zI_nat {a : Int} (h : 0 ≤ a) : zI a = nI a.toNat := by
  show Int32.ofInt a = Int32.ofNat a.toNat
  rw [← Int32.ofInt_eq_ofNat, Int.toNat_of_nonneg h]
theorem nI_zI (n : Nat) : nI n = zI (n : Int) := (Int32.ofInt_eq_ofNat).symm
section ZB
variable {R : Type}
def ziand (a b : Int) (k : Int → Option R) : Option R := if 0 ≤ a ∧ 0 ≤ b then k ((a.toNat &&& b.toNat : Nat) : Int) else none
def zior (a b : Int) (k : Int → Option R) : Option R := if 0 ≤ a ∧ 0 ≤ b then k ((a.toNat ||| b.toNat : Nat) : Int) else none
def zishl (a b : Int) (k : Int → Option R) : Option R := if 0 ≤ a ∧ 0 ≤ b ∧ b < 31 ∧ a * 2 ^ b.toNat < 2147483648 then k (a * 2 ^ b.toNat) else none
def zishr (a b : Int) (k : Int → Option R) : Option R := if 0 ≤ a ∧ 0 ≤ b ∧ b < 31 then k (a / 2 ^ b.toNat) else none
def zpop (n : Nat) : Nat := (List.range 12).foldl (fun t i => t + n / 2 ^ i % 2) 0
def zbc (a : Int) (k : Int → Option R) : Option R := if 0 ≤ a ∧ a < 4096 then k ((zpop a.toNat : Nat) : Int) else none
end ZB
section RowsE
variable {Γ : zG} {w : zSt → va_W} {cI cZ : ClassId} {cc : ByteArray} {rm : Room} {nL' : Nat} {own : String} {G : zSt → Prop} {S : zSt} {lv : List (Nat × Value)} {pc : Nat} {st : List Value}
theorem k_iand (F : zF Γ w cI cZ cc rm nL' own) {R : Type} {r : R} {a b : Int} {K : Int → Option R} (ha : inR a) (hb9 : inR b) (hd : decode cc pc = .ok (.iand, 1)) (h : ziand a b K = some r) (kk : ∀ x, inR x → K x = some r → zk Γ w G S lv (pc + 1) (.int (zI x) :: st)) : zk Γ w G S lv (pc) (.int (zI b) :: .int (zI a) :: st) := by
  obtain ⟨p, l, e, R, s, m, args, below, meth, c, Q, D, A, k0, n0, nL⟩ := Γ
  obtain ⟨hx, hb, hml, hown, hts, ⟨hK, hN⟩, hD, rfl, hk0, hn0, rfl⟩ := F
  intro hG H locs ls hP hS hh
  unfold ziand at h
  by_cases q : 0 ≤ a ∧ 0 ≤ b
  case neg => rw [if_neg q] at h; cases h
  rw [if_pos q] at h
  refine lv_iand hx hb hd ?_
  rw [zI_nat q.1, zI_nat q.2, ze_and, nI_zI]
  have hl : (a.toNat &&& b.toNat) ≤ a.toNat := Nat.and_le_left
  have := ha.2
  exact kk _ ⟨by omega, by omega⟩ h hG H locs ls hP hS hh
theorem k_ior (F : zF Γ w cI cZ cc rm nL' own) {R : Type} {r : R} {a b : Int} {K : Int → Option R} (ha : inR a) (hb9 : inR b) (hd : decode cc pc = .ok (.ior, 1)) (h : zior a b K = some r) (kk : ∀ x, inR x → K x = some r → zk Γ w G S lv (pc + 1) (.int (zI x) :: st)) : zk Γ w G S lv (pc) (.int (zI b) :: .int (zI a) :: st) := by
  obtain ⟨p, l, e, R, s, m, args, below, meth, c, Q, D, A, k0, n0, nL⟩ := Γ
  obtain ⟨hx, hb, hml, hown, hts, ⟨hK, hN⟩, hD, rfl, hk0, hn0, rfl⟩ := F
  intro hG H locs ls hP hS hh
  unfold zior at h
  by_cases q : 0 ≤ a ∧ 0 ≤ b
  case neg => rw [if_neg q] at h; cases h
  rw [if_pos q] at h
  refine lv_ior hx hb hd ?_
  rw [zI_nat q.1, zI_nat q.2, ze_or, nI_zI]
  have h1 := ha.2
  have h2 := hb9.2
  have hl : (a.toNat ||| b.toNat) < 2 ^ 31 := Nat.or_lt_two_pow (by omega) (by omega)
  exact kk _ ⟨by omega, by omega⟩ h hG H locs ls hP hS hh
theorem k_ishl (F : zF Γ w cI cZ cc rm nL' own) {R : Type} {r : R} {a b : Int} {K : Int → Option R} (ha : inR a) (hb9 : inR b) (hd : decode cc pc = .ok (.ishl, 1)) (h : zishl a b K = some r) (kk : ∀ x, inR x → K x = some r → zk Γ w G S lv (pc + 1) (.int (zI x) :: st)) : zk Γ w G S lv (pc) (.int (zI b) :: .int (zI a) :: st) := by
  obtain ⟨p, l, e, R, s, m, args, below, meth, c, Q, D, A, k0, n0, nL⟩ := Γ
  obtain ⟨hx, hb, hml, hown, hts, ⟨hK, hN⟩, hD, rfl, hk0, hn0, rfl⟩ := F
  intro hG H locs ls hP hS hh
  unfold zishl at h
  by_cases q : 0 ≤ a ∧ 0 ≤ b ∧ b < 31 ∧ a * 2 ^ b.toNat < 2147483648
  case neg => rw [if_neg q] at h; cases h
  rw [if_pos q] at h
  obtain ⟨q1, q2, q3, q4⟩ := q
  refine lv_ishl hx hb hd ?_
  have e : (a.toNat * 2 ^ b.toNat : Nat) = (a * 2 ^ b.toNat : Int) := by
    rw [Int.natCast_mul, Int.toNat_of_nonneg q1, Int.natCast_pow]; rfl
  rw [zI_nat q1, zI_nat q2, pk_shlN _ b.toNat (ze_s _ (by omega)) (by omega), nI_zI, e]
  exact kk _ ⟨by omega, by omega⟩ h hG H locs ls hP hS hh
theorem k_ishr (F : zF Γ w cI cZ cc rm nL' own) {R : Type} {r : R} {a b : Int} {K : Int → Option R} (ha : inR a) (hb9 : inR b) (hd : decode cc pc = .ok (.ishr, 1)) (h : zishr a b K = some r) (kk : ∀ x, inR x → K x = some r → zk Γ w G S lv (pc + 1) (.int (zI x) :: st)) : zk Γ w G S lv (pc) (.int (zI b) :: .int (zI a) :: st) := by
  obtain ⟨p, l, e, R, s, m, args, below, meth, c, Q, D, A, k0, n0, nL⟩ := Γ
  obtain ⟨hx, hb, hml, hown, hts, ⟨hK, hN⟩, hD, rfl, hk0, hn0, rfl⟩ := F
  intro hG H locs ls hP hS hh
  unfold zishr at h
  by_cases q : 0 ≤ a ∧ 0 ≤ b ∧ b < 31
  case neg => rw [if_neg q] at h; cases h
  rw [if_pos q] at h
  obtain ⟨q1, q2, q3⟩ := q
  refine lv_ishr hx hb hd ?_
  have h1 := ha.2
  have e : ((a.toNat / 2 ^ b.toNat : Nat) : Int) = a / 2 ^ b.toNat := by
    rw [Int.natCast_ediv, Int.toNat_of_nonneg q1, Int.natCast_pow]; rfl
  have hl : a.toNat / 2 ^ b.toNat ≤ a.toNat := Nat.div_le_self _ _
  rw [zI_nat q1, zI_nat q2, pk_shrN (by omega) _ b.toNat (ze_s _ (by omega)), nI_zI]
  have hr : inR ((a.toNat / 2 ^ b.toNat : Nat) : Int) := by
    generalize a.toNat / 2 ^ b.toNat = z at hl
    exact ⟨by omega, by omega⟩
  rw [← e] at h
  exact kk _ hr h hG H locs ls hP hS hh
theorem k_tsw3 (F : zF Γ w cI cZ cc rm nL' own) {R : Type} {r : R} {a : Int} {B0 B1 B2 BD : Option R} {o0 o1 o2 dd : Int} {offs : Array Int} {len : Nat} (ha : inR a) (hd : decode cc pc = .ok (.tableswitch dd 0 2 offs, len)) {t0 t1 t2 td : Nat} (e0 : offs[0]? = some o0) (e1 : offs[1]? = some o1) (e2 : offs[2]? = some o2) (q0 : (pc : Int) + o0 = (t0 : Int)) (q1 : (pc : Int) + o1 = (t1 : Int)) (q2 : (pc : Int) + o2 = (t2 : Int)) (qd : (pc : Int) + dd = (td : Int)) (h : (if a = 0 then B0 else if a = 1 then B1 else if a = 2 then B2 else BD) = some r) (k0 : B0 = some r → zk Γ w G S lv (t0) (st)) (k1 : B1 = some r → zk Γ w G S lv (t1) (st)) (k2 : B2 = some r → zk Γ w G S lv (t2) (st)) (kd : BD = some r → zk Γ w G S lv (td) (st)) : zk Γ w G S lv (pc) (.int (zI a) :: st) := by
  obtain ⟨p, l, e, R, s, m, args, below, meth, c, Q, D, A, k0, n0, nL⟩ := Γ
  obtain ⟨hx, hb, hml, hown, hts, ⟨hK, hN⟩, hD, rfl, hk0, hn0, rfl⟩ := F
  intro hG H locs ls hP hS hh
  by_cases c0 : a = 0
  · rw [if_pos c0] at h
    subst c0
    exact lv_tableIn hx hb hd (by rw [zI_toInt ha]; decide) (by rw [zI_toInt ha]; decide) (by rw [zI_toInt ha]; exact e0) q0 (k0 h hG H locs ls hP hS hh)
  rw [if_neg c0] at h
  by_cases c1 : a = 1
  · rw [if_pos c1] at h
    subst c1
    exact lv_tableIn hx hb hd (by rw [zI_toInt ha]; decide) (by rw [zI_toInt ha]; decide) (by rw [zI_toInt ha]; exact e1) q1 (k1 h hG H locs ls hP hS hh)
  rw [if_neg c1] at h
  by_cases c2 : a = 2
  · rw [if_pos c2] at h
    subst c2
    exact lv_tableIn hx hb hd (by rw [zI_toInt ha]; decide) (by rw [zI_toInt ha]; decide) (by rw [zI_toInt ha]; exact e2) q2 (k2 h hG H locs ls hP hS hh)
  rw [if_neg c2] at h
  exact lv_tableOut hx hb hd (by rw [zI_toInt ha]; omega) qd (kd h hG H locs ls hP hS hh)
theorem k_tsw6 (F : zF Γ w cI cZ cc rm nL' own) {R : Type} {r : R} {a : Int} {B0 B1 B2 B3 B4 B5 BD : Option R} {o0 o1 o2 o3 o4 o5 dd : Int} {offs : Array Int} {len : Nat} (ha : inR a) (hd : decode cc pc = .ok (.tableswitch dd 0 5 offs, len)) {t0 t1 t2 t3 t4 t5 td : Nat} (e0 : offs[0]? = some o0) (e1 : offs[1]? = some o1) (e2 : offs[2]? = some o2) (e3 : offs[3]? = some o3) (e4 : offs[4]? = some o4) (e5 : offs[5]? = some o5) (q0 : (pc : Int) + o0 = (t0 : Int)) (q1 : (pc : Int) + o1 = (t1 : Int)) (q2 : (pc : Int) + o2 = (t2 : Int)) (q3 : (pc : Int) + o3 = (t3 : Int)) (q4 : (pc : Int) + o4 = (t4 : Int)) (q5 : (pc : Int) + o5 = (t5 : Int)) (qd : (pc : Int) + dd = (td : Int)) (h : (if a = 0 then B0 else if a = 1 then B1 else if a = 2 then B2 else if a = 3 then B3 else if a = 4 then B4 else if a = 5 then B5 else BD) = some r) (k0 : B0 = some r → zk Γ w G S lv (t0) (st)) (k1 : B1 = some r → zk Γ w G S lv (t1) (st)) (k2 : B2 = some r → zk Γ w G S lv (t2) (st)) (k3 : B3 = some r → zk Γ w G S lv (t3) (st)) (k4 : B4 = some r → zk Γ w G S lv (t4) (st)) (k5 : B5 = some r → zk Γ w G S lv (t5) (st)) (kd : BD = some r → zk Γ w G S lv (td) (st)) : zk Γ w G S lv (pc) (.int (zI a) :: st) := by
  obtain ⟨p, l, e, R, s, m, args, below, meth, c, Q, D, A, k0, n0, nL⟩ := Γ
  obtain ⟨hx, hb, hml, hown, hts, ⟨hK, hN⟩, hD, rfl, hk0, hn0, rfl⟩ := F
  intro hG H locs ls hP hS hh
  by_cases c0 : a = 0
  · rw [if_pos c0] at h
    subst c0
    exact lv_tableIn hx hb hd (by rw [zI_toInt ha]; decide) (by rw [zI_toInt ha]; decide) (by rw [zI_toInt ha]; exact e0) q0 (k0 h hG H locs ls hP hS hh)
  rw [if_neg c0] at h
  by_cases c1 : a = 1
  · rw [if_pos c1] at h
    subst c1
    exact lv_tableIn hx hb hd (by rw [zI_toInt ha]; decide) (by rw [zI_toInt ha]; decide) (by rw [zI_toInt ha]; exact e1) q1 (k1 h hG H locs ls hP hS hh)
  rw [if_neg c1] at h
  by_cases c2 : a = 2
  · rw [if_pos c2] at h
    subst c2
    exact lv_tableIn hx hb hd (by rw [zI_toInt ha]; decide) (by rw [zI_toInt ha]; decide) (by rw [zI_toInt ha]; exact e2) q2 (k2 h hG H locs ls hP hS hh)
  rw [if_neg c2] at h
  by_cases c3 : a = 3
  · rw [if_pos c3] at h
    subst c3
    exact lv_tableIn hx hb hd (by rw [zI_toInt ha]; decide) (by rw [zI_toInt ha]; decide) (by rw [zI_toInt ha]; exact e3) q3 (k3 h hG H locs ls hP hS hh)
  rw [if_neg c3] at h
  by_cases c4 : a = 4
  · rw [if_pos c4] at h
    subst c4
    exact lv_tableIn hx hb hd (by rw [zI_toInt ha]; decide) (by rw [zI_toInt ha]; decide) (by rw [zI_toInt ha]; exact e4) q4 (k4 h hG H locs ls hP hS hh)
  rw [if_neg c4] at h
  by_cases c5 : a = 5
  · rw [if_pos c5] at h
    subst c5
    exact lv_tableIn hx hb hd (by rw [zI_toInt ha]; decide) (by rw [zI_toInt ha]; decide) (by rw [zI_toInt ha]; exact e5) q5 (k5 h hG H locs ls hP hS hh)
  rw [if_neg c5] at h
  exact lv_tableOut hx hb hd (by rw [zI_toInt ha]; omega) qd (kd h hG H locs ls hP hS hh)
theorem mal_min : Cond.static yJ9_min_7cf53 ∈ WS ∧ Cond.initialized "java/lang/Math" ∈ WS ∧ Cond.code yJ9_min_7cf53 cJ9_min_7cf53 2 (some .int) ∈ WS := ⟨wm_0, wm_1, wm_2⟩
theorem k_mmin (F : zF Γ w cI cZ cc rm nL' own) {R : Type} {r : R} {a b : Int} {K : Int → Option R} (ha : inR a) (hb9 : inR b) {idx : Nat} (hl : Cond.methodLink own idx yJ9_min_7cf53 ∈ WS) (hm : Cond.static yJ9_min_7cf53 ∈ WS ∧ Cond.initialized "java/lang/Math" ∈ WS ∧ Cond.code yJ9_min_7cf53 cJ9_min_7cf53 2 (some .int) ∈ WS) (hfr : 1 ≤ rm.frames) (hlo : (st.map fun v => v.category).sum + 13 ≤ rm.locals) (hd : decode cc pc = .ok (.invokestatic idx, 3)) (h : zlt (if b < a then b else a) K = some r) (kk : ∀ x, inR x → K x = some r → zk Γ w G S lv (pc + 3) (.int (zI x) :: st)) : zk Γ w G S lv (pc) (.int (zI b) :: .int (zI a) :: st) := by
  obtain ⟨p, l, e, R, s, m, args, below, meth, c, Q, D, A, k0, n0, nL⟩ := Γ
  obtain ⟨hx, hb, hml, hown, hts, ⟨hK, hN⟩, hD, rfl, hk0, hn0, rfl⟩ := F
  intro hG H locs ls hP hS hh
  refine va_mmin hx hb (hml.trans hh.1.symm) hown (hts _ hl) (hts _ hm.1) (hts _ hm.2.1) (hts _ hm.2.2) hfr hlo hk0 hn0 hd ?_
  have e : (if zI b < zI a then zI b else zI a) = zI (if b < a then b else a) := by
    by_cases q : b < a
    · rw [if_pos q, if_pos ((zI_lt hb9 ha).mpr q)]
    · rw [if_neg q, if_neg (fun z => q ((zI_lt hb9 ha).mp z))]
  have hr : inR (if b < a then b else a) := by
    by_cases q : b < a
    · rw [if_pos q]; exact hb9
    · rw [if_neg q]; exact ha
  rw [e]
  exact kk _ hr h hG H locs ls hP hS hh
theorem mal_abs : Cond.static yJ9_abs_0f7a4 ∈ WS ∧ Cond.initialized "java/lang/Math" ∈ WS ∧ Cond.code yJ9_abs_0f7a4 cJ9_abs_0f7a4 1 (some .int) ∈ WS := ⟨wm_3, wm_1, wm_4⟩
theorem k_mabs (F : zF Γ w cI cZ cc rm nL' own) {R : Type} {r : R} {a : Int} {K : Int → Option R} (ha : inR a) {idx : Nat} (hl : Cond.methodLink own idx yJ9_abs_0f7a4 ∈ WS) (hm : Cond.static yJ9_abs_0f7a4 ∈ WS ∧ Cond.initialized "java/lang/Math" ∈ WS ∧ Cond.code yJ9_abs_0f7a4 cJ9_abs_0f7a4 1 (some .int) ∈ WS) (hfr : 1 ≤ rm.frames) (hlo : (st.map fun v => v.category).sum + 13 ≤ rm.locals) (hd : decode cc pc = .ok (.invokestatic idx, 3)) (h : zar (if 0 ≤ a then a else 0 - a) K = some r) (kk : ∀ x, inR x → K x = some r → zk Γ w G S lv (pc + 3) (.int (zI x) :: st)) : zk Γ w G S lv (pc) (.int (zI a) :: st) := by
  obtain ⟨p, l, e, R, s, m, args, below, meth, c, Q, D, A, k0, n0, nL⟩ := Γ
  obtain ⟨hx, hb, hml, hown, hts, ⟨hK, hN⟩, hD, rfl, hk0, hn0, rfl⟩ := F
  intro hG H locs ls hP hS hh
  obtain ⟨h1, h2⟩ := zar_e h
  refine va_mabs hx hb (hml.trans hh.1.symm) hown (hts _ hl) (hts _ hm.1) (hts _ hm.2.1) (hts _ hm.2.2) hfr hlo hk0 hn0 hd ?_
  have e : (if 0 ≤ zI a then zI a else 0 - zI a) = zI (if 0 ≤ a then a else 0 - a) := by
    by_cases q : 0 ≤ a
    · rw [if_pos q, if_pos (by rw [zI_zero]; exact (zI_le inR_0 ha).mpr q)]
    · rw [if_neg q, if_neg (by rw [zI_zero]; exact fun z => q ((zI_le inR_0 ha).mp z)), zI_zero, zI_sub]
  rw [e]
  exact kk _ h1 h2 hG H locs ls hP hS hh
end RowsE
/-- the element at an index, -1 outside -/
def m_at (S : zSt) (j : Nat) (n i : Int) : Option zRes := if i < 0 then some (-1, S) else if n ≤ i then some (-1, S) else zld (S.2 j) n i fun x => some (x, S)
set_option maxRecDepth 100000 in
theorem c_at {l : Launch} {D : va_G} {A : Nat → Prop} {cI cZ : ClassId} {w : zSt → va_W} {bs : List Nat} (hD : ∀ S, va_D A (w S)) {S : zSt} (hG : RG bs S) (q0 : Nat) {a j n : Nat} (ha : ∀ S, (w S)[q0]? = some (a, .inl (cI, n, .inl (zA (S.2 j))))) (hnL : Int32.ofNat n = zI (n : Int)) (hnR : inR (n : Int)) {a1 : Int} (ra1 : inR a1) {x : Int} {S' : zSt} (h : m_at S j (n : Int) a1 = some (x, S')) : zMi l yX8_at cX8_at 2 .int { frames := 0, cells := 0, slots := 0, locals := 0 } D cI cZ A w (RG bs) [.ref a, .int (zI a1)] S x S' := by
  refine k_start_i (by decide +kernel) hD hG (Nat.le_of_ble_eq_true rfl) (fun Γ F hQ => ?_)
  refine k_sub [0, 1] (lv' := [(0, .ref a), (1, .int (zI a1))]) rfl ?_
  refine k_iload_n F dX8_at_0 rfl 1 rfl ?_
  refine k_if_lt F ra1 (tgt := 16) dX8_at_1 (by decide) h (fun h1 => ?_) (fun h1 => ?_)
  · refine k_iconst F dX8_at_16 ?_
    exact k_iret F hQ (by decide) dX8_at_17 h1
  · refine k_iload_n F dX8_at_4 rfl 1 rfl ?_
    refine k_aload_n F dX8_at_5 rfl 0 rfl ?_
    refine k_alen F q0 ha hnL dX8_at_6 ?_
    refine k_icmp_ge F ra1 hnR (tgt := 16) dX8_at_7 (by decide) h1 (fun h2 => ?_) (fun h2 => ?_)
    · refine k_iconst F dX8_at_16 ?_
      exact k_iret F hQ (by decide) dX8_at_17 h2
    · refine k_aload_n F dX8_at_10 rfl 0 rfl ?_
      refine k_iload_n F dX8_at_11 rfl 1 rfl ?_
      refine k_iald F rfl q0 ha ra1 dX8_at_12 h2 (fun x1 r1 h3 => ?_)
      refine k_goto F (tgt := 17) dX8_at_13 (by decide) ?_
      exact k_iret F hQ r1 dX8_at_17 h3
theorem cal_fill : zCas "java/util/Arrays" yJ7_fill_53178 cJ7_fill_53178 4 none 2 := ⟨wm_5, wm_6, wm_7, rfl, ⟨by decide, by decide⟩, by decide +kernel⟩
/-- the first n places of the row j are v -/
def zfl (S : zSt) (j : Nat) (n v : Int) : zSt := (S.1, fun q => if q = j then (fun t => if 0 ≤ t ∧ t < n then v else S.2 j t) else S.2 q)
theorem zfl_0 (S : zSt) (j : Nat) (v : Int) : zfl S j 0 v = S := by
  unfold zfl
  refine Prod.ext rfl (funext fun q => ?_)
  show (if q = j then _ else S.2 q) = S.2 q
  by_cases e : q = j
  · rw [if_pos e]
    funext t
    rw [if_neg (by omega), e]
  · rw [if_neg e]
theorem zfl_s (S : zSt) (j : Nat) (i v : Int) (h : 0 ≤ i) : zput (zfl S j i v) j i v = zfl S j (i + 1) v := by
  unfold zput zfl
  refine Prod.ext rfl (funext fun q => ?_)
  show (if q = j then (fun t => if t = i then v else (if j = j then _ else S.2 j) t) else if q = j then _ else S.2 q) = (if q = j then _ else S.2 q)
  by_cases e : q = j
  · rw [if_pos e, if_pos e]
    funext t
    rw [if_pos rfl]
    by_cases e1 : t = i
    · rw [if_pos e1, if_pos (by omega)]
    · rw [if_neg e1]
      by_cases e2 : 0 ≤ t ∧ t < i
      · rw [if_pos e2, if_pos (by omega)]
      · rw [if_neg e2, if_neg (by omega)]
  · rw [if_neg e, if_neg e, if_neg e]
def m_fill (S : zSt) (j : Nat) (n v : Int) : Option zRes := some (0, zfl S j n v)
set_option maxRecDepth 100000 in
theorem c_fill {l : Launch} {D : va_G} {A : Nat → Prop} {cI cZ : ClassId} {w : zSt → va_W} {bs : List Nat} (hD : ∀ S, va_D A (w S)) {S : zSt} (hG : RG bs S) (q0 : Nat) {a j n : Nat} (ha : ∀ S, (w S)[q0]? = some (a, .inl (cI, n, .inl (zA (S.2 j))))) (hs : ∀ S i v, 0 ≤ i → (w S).set q0 (a, .inl (cI, n, .inl (upd (zA (S.2 j)) i.toNat (zI v)))) = w (zput S j i v)) (hj : j ∉ bs) (hnL : Int32.ofNat n = zI (n : Int)) (hnR : inR (n : Int)) {v : Int} (rv : inR v) {x : Int} {S' : zSt} (h : m_fill S j (n : Int) v = some (x, S')) : zMv l yJ7_fill_53178 cJ7_fill_53178 4 { frames := 0, cells := 0, slots := 0, locals := 0 } D cI cZ A w (RG bs) [.ref a, .int (zI v)] S S' := by
  refine k_start_v (by decide +kernel) hD hG (Nat.le_of_ble_eq_true rfl) (fun Γ F hQ => ?_)
  refine k_sub [0, 1] (lv' := [(0, .ref a), (1, .int (zI v))]) rfl ?_
  refine k_iconst F dJ7_fill_53178_0 ?_
  refine k_istore_n F dJ7_fill_53178_1 rfl (by decide) rfl ?_
  refine k_aload_n F dJ7_fill_53178_2 rfl 1 rfl ?_
  refine k_alen F q0 ha hnL dJ7_fill_53178_3 ?_
  refine k_istore_n F dJ7_fill_53178_4 rfl (by decide) rfl ?_
  refine k_sub [2, 3, 1, 0] (lv' := [(0, .ref a), (1, .int (zI v)), (2, .int (zI 0)), (3, .int (zI (n : Int)))]) rfl ?_
  have L : ∀ (k : Nat) (i : Int), 0 ≤ i → i + k = n → zk Γ w (RG bs) (zfl S j i v) [(0, .ref a), (1, .int (zI v)), (2, .int (zI i)), (3, .int (zI (n : Int)))] 5 [] := by
    intro k
    induction k with
    | zero =>
      intro i h0 hi
      have hi : i = n := by omega
      subst hi
      refine k_iload_n F dJ7_fill_53178_5 rfl 2 rfl ?_
      refine k_iload_n F dJ7_fill_53178_6 rfl 3 rfl ?_
      refine k_icmp_ge (R := Unit) (r := ()) (A := some ()) (B := none) F hnR hnR (tgt := 20) dJ7_fill_53178_7 (by decide) (if_pos (Int.le_refl _)) (fun _ => ?_) (fun z => by cases z)
      exact k_vret F hQ dJ7_fill_53178_20 h
    | succ k ih =>
      intro i h0 hi
      have hr : inR i := ⟨by omega, by have := hnR.2; omega⟩
      have hr1 : inR (i + 1) := ⟨by omega, by have := hnR.2; omega⟩
      refine k_iload_n F dJ7_fill_53178_5 rfl 2 rfl ?_
      refine k_iload_n F dJ7_fill_53178_6 rfl 3 rfl ?_
      refine k_icmp_ge (R := Unit) (r := ()) (A := none) (B := some ()) F hr hnR (tgt := 20) dJ7_fill_53178_7 (by decide) (if_neg (by omega)) (fun z => by cases z) (fun _ => ?_)
      refine k_aload_n F dJ7_fill_53178_10 rfl 0 rfl ?_
      refine k_iload_n F dJ7_fill_53178_11 rfl 2 rfl ?_
      refine k_iload_n F dJ7_fill_53178_12 rfl 1 rfl ?_
      refine k_iast (R := zSt) (r := zfl S j (i + 1) v) (K := some) F rfl q0 ha hs hj hr rv dJ7_fill_53178_13 (by unfold zst; rw [if_pos ⟨h0, by omega⟩, zfl_s S j i v h0]) (fun S2 e => ?_)
      cases e
      refine k_iinc (R := Unit) (r := ()) (K := fun y => if y = i + 1 then some () else none) F (k := 2) (lv' := fun y => [(2, .int (zI y)), (0, .ref a), (1, .int (zI v)), (3, .int (zI (n : Int)))]) dJ7_fill_53178_14 rfl (by decide) (fun _ => rfl) (by show (if inR (i + 1) then (if i + 1 = i + 1 then some () else none) else none) = some (); rw [if_pos hr1, if_pos rfl]) (fun y ry ey => ?_)
      have ey : y = i + 1 := by
        by_cases q : y = i + 1
        · exact q
        · rw [if_neg q] at ey; cases ey
      subst ey
      refine k_goto F (tgt := 5) dJ7_fill_53178_17 (by decide) ?_
      exact k_sub [1, 2, 0, 3] rfl (ih (i + 1) (by omega) (by omega))
  have e := L n 0 (Int.le_refl 0) (by omega)
  rw [zfl_0] at e
  exact e
section RowsF
variable {Γ : zG} {w : zSt → va_W} {cI cZ : ClassId} {cc : ByteArray} {rm : Room} {nL' : Nat} {own : String} {G : zSt → Prop} {S : zSt} {lv : List (Nat × Value)} {pc : Nat} {st : List Value}
theorem k_fill (F : zF Γ w cI cZ cc rm nL' own) {a j n idx : Nat} {R : Type} {r : R} {bs : List Nat} {v : Int} {K : zSt → Option R} (hGR : G = RG bs) (q0 : Nat) (ha : ∀ S, (w S)[q0]? = some (a, .inl (cI, n, .inl (zA (S.2 j))))) (hs : ∀ S i v, 0 ≤ i → (w S).set q0 (a, .inl (cI, n, .inl (upd (zA (S.2 j)) i.toNat (zI v)))) = w (zput S j i v)) (hj : j ∉ bs) (hn : Int32.ofNat n = zI (n : Int) ∧ inR (n : Int)) (rv : inR v) (hl : Cond.methodLink own idx yJ7_fill_53178 ∈ WS) (hR : 1 ≤ rm.frames ∧ 23 ≤ rm.locals) (hW : (st.map fun v => v.category).sum ≤ 8) (hd : decode cc pc = .ok (.invokestatic idx, 3)) (h : zlt (zfl S j (n : Int) v) K = some r) (kk : ∀ S, K S = some r → zk Γ w G S lv (pc + 3) (st)) : zk Γ w G S lv (pc) (.int (zI v) :: .ref a :: st) := by
  subst hGR
  refine k_callSv F cal_fill hl (fun l D A hD hG x S' h => c_fill hD hG q0 ha hs hj hn.1 hn.2 rv h) ⟨rfl, rfl, hR.1, hR.2⟩ rfl rfl hW hd (x0 := m_fill S j (n : Int) v) (K := fun _ S => K S) h (fun x S h1 => ?_)
  exact kk S h1
end RowsF
end
section
/-! THE WORLDS: every object and row of the class, and of the reference, at the addresses ad 0, ad 1 .. -/
def fsX8 (ad : Nat → Nat) (S : zSt) : List Value := [.ref (ad 1), .ref (ad 3), .ref (ad 7), .ref (ad 11), .ref (ad 23), .ref (ad 28), .ref (ad 34)]
def fsX4 (ad : Nat → Nat) (S : zSt) : List Value := [.ref (ad 2), .int (zI (S.1 0))]
def fsX7 (ad : Nat → Nat) (S : zSt) : List Value := [.ref (ad 4), .ref (ad 5), .ref (ad 6), .int (zI (S.1 1))]
def fsX0 (ad : Nat → Nat) (S : zSt) : List Value := [.ref (ad 8), .ref (ad 9), .ref (ad 10), .int (zI (S.1 2))]
def fsX1 (ad : Nat → Nat) (S : zSt) : List Value := [.ref (ad 12), .ref (ad 13), .ref (ad 14), .ref (ad 15), .ref (ad 16), .ref (ad 17), .ref (ad 18), .ref (ad 19), .ref (ad 20), .ref (ad 21), .ref (ad 22), .int (zI (S.1 3))]
def fsX5 (ad : Nat → Nat) (S : zSt) : List Value := [.ref (ad 24), .ref (ad 25), .ref (ad 26), .ref (ad 27), .int (zI (S.1 4))]
def fsX6 (ad : Nat → Nat) (S : zSt) : List Value := [.ref (ad 29), .ref (ad 31), .ref (ad 33), .int (zI (S.1 7)), .int (zI (S.1 8))]
def fsX3i (ad : Nat → Nat) (S : zSt) : List Value := [.ref (ad 30), .int (zI (S.1 5))]
def fsX3o (ad : Nat → Nat) (S : zSt) : List Value := [.ref (ad 32), .int (zI (S.1 6))]
def fsX2 (ad : Nat → Nat) (S : zSt) : List Value := [.ref (ad 35), .ref (ad 36), .ref (ad 37), .int (zI (S.1 9)), .int (zI (S.1 10))]
def wC (cI cZ : ClassId) (ad : Nat → Nat) (S : zSt) : va_W := [(ad 0, .inr (8, fsX8 ad S)), (ad 1, .inr (4, fsX4 ad S)), (ad 2, .inl (cI, 12, .inl (zA (S.2 0)))), (ad 3, .inr (7, fsX7 ad S)), (ad 4, .inl (cI, 240, .inl (zA (S.2 1)))), (ad 5, .inl (cI, 20, .inl (zA (S.2 2)))), (ad 6, .inl (cI, 13, .inl (zA (S.2 3)))), (ad 7, .inr (0, fsX0 ad S)), (ad 8, .inl (cI, 12, .inl (zA (S.2 4)))), (ad 9, .inl (cI, 12, .inl (zA (S.2 5)))), (ad 10, .inl (cI, 12, .inl (zA (S.2 6)))), (ad 11, .inr (1, fsX1 ad S)), (ad 12, .inl (cI, 60, .inl (zA (S.2 7)))), (ad 13, .inl (cI, 60, .inl (zA (S.2 8)))), (ad 14, .inl (cI, 60, .inl (zA (S.2 9)))), (ad 15, .inl (cI, 60, .inl (zA (S.2 10)))), (ad 16, .inl (cI, 60, .inl (zA (S.2 11)))), (ad 17, .inl (cI, 60, .inl (zA (S.2 12)))), (ad 18, .inl (cI, 60, .inl (zA (S.2 13)))), (ad 19, .inl (cI, 60, .inl (zA (S.2 14)))), (ad 20, .inl (cI, 60, .inl (zA (S.2 15)))), (ad 21, .inl (cZ, 60, .inl (zA (S.2 16)))), (ad 22, .inl (cI, 60, .inl (zA (S.2 17)))), (ad 23, .inr (5, fsX5 ad S)), (ad 24, .inl (cI, 10, .inl (zA (S.2 18)))), (ad 25, .inl (cI, 10, .inl (zA (S.2 19)))), (ad 26, .inl (cI, 6, .inl (zA (S.2 20)))), (ad 27, .inl (cI, 6, .inl (zA (S.2 21)))), (ad 28, .inr (6, fsX6 ad S)), (ad 29, .inr (3, fsX3i ad S)), (ad 30, .inl (cI, 240, .inl (zA (S.2 22)))), (ad 31, .inr (3, fsX3o ad S)), (ad 32, .inl (cI, 240, .inl (zA (S.2 23)))), (ad 33, .inl (cI, 240, .inl (zA (S.2 24)))), (ad 34, .inr (2, fsX2 ad S)), (ad 35, .inl (cI, 160, .inl (zA (S.2 25)))), (ad 36, .inl (cI, 8, .inl (zA (S.2 26)))), (ad 37, .inl (cI, 8, .inl (zA (S.2 27))))]
def bsC : List Nat := [16]
theorem obC_0 (cI cZ : ClassId) (ad : Nat → Nat) : zOb (wC cI cZ ad) (ad 0) RX8 := ⟨0, 8, (RX8, TX8, 7), fsX8 ad, fun _ => rfl, rfl, rfl⟩
theorem obC_1 (cI cZ : ClassId) (ad : Nat → Nat) : zOb (wC cI cZ ad) (ad 1) RX4 := ⟨1, 4, (RX4, TX4, 2), fsX4 ad, fun _ => rfl, rfl, rfl⟩
theorem aC_0 (cI cZ : ClassId) (ad : Nat → Nat) : ∀ S, (wC cI cZ ad S)[2]? = some (ad 2, .inl (cI, 12, .inl (zA (S.2 0)))) := fun _ => rfl
theorem sC_0 (cI cZ : ClassId) (ad : Nat → Nat) : ∀ S i v, 0 ≤ i → (wC cI cZ ad S).set 2 (ad 2, .inl (cI, 12, .inl (upd (zA (S.2 0)) i.toNat (zI v)))) = wC cI cZ ad (zput S 0 i v) := fun S i v h => by rw [zA_put h]; rfl
theorem obC_3 (cI cZ : ClassId) (ad : Nat → Nat) : zOb (wC cI cZ ad) (ad 3) RX7 := ⟨3, 7, (RX7, TX7, 4), fsX7 ad, fun _ => rfl, rfl, rfl⟩
theorem aC_1 (cI cZ : ClassId) (ad : Nat → Nat) : ∀ S, (wC cI cZ ad S)[4]? = some (ad 4, .inl (cI, 240, .inl (zA (S.2 1)))) := fun _ => rfl
theorem sC_1 (cI cZ : ClassId) (ad : Nat → Nat) : ∀ S i v, 0 ≤ i → (wC cI cZ ad S).set 4 (ad 4, .inl (cI, 240, .inl (upd (zA (S.2 1)) i.toNat (zI v)))) = wC cI cZ ad (zput S 1 i v) := fun S i v h => by rw [zA_put h]; rfl
theorem aC_2 (cI cZ : ClassId) (ad : Nat → Nat) : ∀ S, (wC cI cZ ad S)[5]? = some (ad 5, .inl (cI, 20, .inl (zA (S.2 2)))) := fun _ => rfl
theorem sC_2 (cI cZ : ClassId) (ad : Nat → Nat) : ∀ S i v, 0 ≤ i → (wC cI cZ ad S).set 5 (ad 5, .inl (cI, 20, .inl (upd (zA (S.2 2)) i.toNat (zI v)))) = wC cI cZ ad (zput S 2 i v) := fun S i v h => by rw [zA_put h]; rfl
theorem aC_3 (cI cZ : ClassId) (ad : Nat → Nat) : ∀ S, (wC cI cZ ad S)[6]? = some (ad 6, .inl (cI, 13, .inl (zA (S.2 3)))) := fun _ => rfl
theorem sC_3 (cI cZ : ClassId) (ad : Nat → Nat) : ∀ S i v, 0 ≤ i → (wC cI cZ ad S).set 6 (ad 6, .inl (cI, 13, .inl (upd (zA (S.2 3)) i.toNat (zI v)))) = wC cI cZ ad (zput S 3 i v) := fun S i v h => by rw [zA_put h]; rfl
theorem obC_7 (cI cZ : ClassId) (ad : Nat → Nat) : zOb (wC cI cZ ad) (ad 7) RX0 := ⟨7, 0, (RX0, TX0, 4), fsX0 ad, fun _ => rfl, rfl, rfl⟩
theorem aC_4 (cI cZ : ClassId) (ad : Nat → Nat) : ∀ S, (wC cI cZ ad S)[8]? = some (ad 8, .inl (cI, 12, .inl (zA (S.2 4)))) := fun _ => rfl
theorem sC_4 (cI cZ : ClassId) (ad : Nat → Nat) : ∀ S i v, 0 ≤ i → (wC cI cZ ad S).set 8 (ad 8, .inl (cI, 12, .inl (upd (zA (S.2 4)) i.toNat (zI v)))) = wC cI cZ ad (zput S 4 i v) := fun S i v h => by rw [zA_put h]; rfl
theorem aC_5 (cI cZ : ClassId) (ad : Nat → Nat) : ∀ S, (wC cI cZ ad S)[9]? = some (ad 9, .inl (cI, 12, .inl (zA (S.2 5)))) := fun _ => rfl
theorem sC_5 (cI cZ : ClassId) (ad : Nat → Nat) : ∀ S i v, 0 ≤ i → (wC cI cZ ad S).set 9 (ad 9, .inl (cI, 12, .inl (upd (zA (S.2 5)) i.toNat (zI v)))) = wC cI cZ ad (zput S 5 i v) := fun S i v h => by rw [zA_put h]; rfl
theorem aC_6 (cI cZ : ClassId) (ad : Nat → Nat) : ∀ S, (wC cI cZ ad S)[10]? = some (ad 10, .inl (cI, 12, .inl (zA (S.2 6)))) := fun _ => rfl
theorem sC_6 (cI cZ : ClassId) (ad : Nat → Nat) : ∀ S i v, 0 ≤ i → (wC cI cZ ad S).set 10 (ad 10, .inl (cI, 12, .inl (upd (zA (S.2 6)) i.toNat (zI v)))) = wC cI cZ ad (zput S 6 i v) := fun S i v h => by rw [zA_put h]; rfl
theorem obC_11 (cI cZ : ClassId) (ad : Nat → Nat) : zOb (wC cI cZ ad) (ad 11) RX1 := ⟨11, 1, (RX1, TX1, 12), fsX1 ad, fun _ => rfl, rfl, rfl⟩
theorem aC_7 (cI cZ : ClassId) (ad : Nat → Nat) : ∀ S, (wC cI cZ ad S)[12]? = some (ad 12, .inl (cI, 60, .inl (zA (S.2 7)))) := fun _ => rfl
theorem sC_7 (cI cZ : ClassId) (ad : Nat → Nat) : ∀ S i v, 0 ≤ i → (wC cI cZ ad S).set 12 (ad 12, .inl (cI, 60, .inl (upd (zA (S.2 7)) i.toNat (zI v)))) = wC cI cZ ad (zput S 7 i v) := fun S i v h => by rw [zA_put h]; rfl
theorem aC_8 (cI cZ : ClassId) (ad : Nat → Nat) : ∀ S, (wC cI cZ ad S)[13]? = some (ad 13, .inl (cI, 60, .inl (zA (S.2 8)))) := fun _ => rfl
theorem sC_8 (cI cZ : ClassId) (ad : Nat → Nat) : ∀ S i v, 0 ≤ i → (wC cI cZ ad S).set 13 (ad 13, .inl (cI, 60, .inl (upd (zA (S.2 8)) i.toNat (zI v)))) = wC cI cZ ad (zput S 8 i v) := fun S i v h => by rw [zA_put h]; rfl
theorem aC_9 (cI cZ : ClassId) (ad : Nat → Nat) : ∀ S, (wC cI cZ ad S)[14]? = some (ad 14, .inl (cI, 60, .inl (zA (S.2 9)))) := fun _ => rfl
theorem sC_9 (cI cZ : ClassId) (ad : Nat → Nat) : ∀ S i v, 0 ≤ i → (wC cI cZ ad S).set 14 (ad 14, .inl (cI, 60, .inl (upd (zA (S.2 9)) i.toNat (zI v)))) = wC cI cZ ad (zput S 9 i v) := fun S i v h => by rw [zA_put h]; rfl
theorem aC_10 (cI cZ : ClassId) (ad : Nat → Nat) : ∀ S, (wC cI cZ ad S)[15]? = some (ad 15, .inl (cI, 60, .inl (zA (S.2 10)))) := fun _ => rfl
theorem sC_10 (cI cZ : ClassId) (ad : Nat → Nat) : ∀ S i v, 0 ≤ i → (wC cI cZ ad S).set 15 (ad 15, .inl (cI, 60, .inl (upd (zA (S.2 10)) i.toNat (zI v)))) = wC cI cZ ad (zput S 10 i v) := fun S i v h => by rw [zA_put h]; rfl
theorem aC_11 (cI cZ : ClassId) (ad : Nat → Nat) : ∀ S, (wC cI cZ ad S)[16]? = some (ad 16, .inl (cI, 60, .inl (zA (S.2 11)))) := fun _ => rfl
theorem sC_11 (cI cZ : ClassId) (ad : Nat → Nat) : ∀ S i v, 0 ≤ i → (wC cI cZ ad S).set 16 (ad 16, .inl (cI, 60, .inl (upd (zA (S.2 11)) i.toNat (zI v)))) = wC cI cZ ad (zput S 11 i v) := fun S i v h => by rw [zA_put h]; rfl
theorem aC_12 (cI cZ : ClassId) (ad : Nat → Nat) : ∀ S, (wC cI cZ ad S)[17]? = some (ad 17, .inl (cI, 60, .inl (zA (S.2 12)))) := fun _ => rfl
theorem sC_12 (cI cZ : ClassId) (ad : Nat → Nat) : ∀ S i v, 0 ≤ i → (wC cI cZ ad S).set 17 (ad 17, .inl (cI, 60, .inl (upd (zA (S.2 12)) i.toNat (zI v)))) = wC cI cZ ad (zput S 12 i v) := fun S i v h => by rw [zA_put h]; rfl
theorem aC_13 (cI cZ : ClassId) (ad : Nat → Nat) : ∀ S, (wC cI cZ ad S)[18]? = some (ad 18, .inl (cI, 60, .inl (zA (S.2 13)))) := fun _ => rfl
theorem sC_13 (cI cZ : ClassId) (ad : Nat → Nat) : ∀ S i v, 0 ≤ i → (wC cI cZ ad S).set 18 (ad 18, .inl (cI, 60, .inl (upd (zA (S.2 13)) i.toNat (zI v)))) = wC cI cZ ad (zput S 13 i v) := fun S i v h => by rw [zA_put h]; rfl
theorem aC_14 (cI cZ : ClassId) (ad : Nat → Nat) : ∀ S, (wC cI cZ ad S)[19]? = some (ad 19, .inl (cI, 60, .inl (zA (S.2 14)))) := fun _ => rfl
theorem sC_14 (cI cZ : ClassId) (ad : Nat → Nat) : ∀ S i v, 0 ≤ i → (wC cI cZ ad S).set 19 (ad 19, .inl (cI, 60, .inl (upd (zA (S.2 14)) i.toNat (zI v)))) = wC cI cZ ad (zput S 14 i v) := fun S i v h => by rw [zA_put h]; rfl
theorem aC_15 (cI cZ : ClassId) (ad : Nat → Nat) : ∀ S, (wC cI cZ ad S)[20]? = some (ad 20, .inl (cI, 60, .inl (zA (S.2 15)))) := fun _ => rfl
theorem sC_15 (cI cZ : ClassId) (ad : Nat → Nat) : ∀ S i v, 0 ≤ i → (wC cI cZ ad S).set 20 (ad 20, .inl (cI, 60, .inl (upd (zA (S.2 15)) i.toNat (zI v)))) = wC cI cZ ad (zput S 15 i v) := fun S i v h => by rw [zA_put h]; rfl
theorem aC_16 (cI cZ : ClassId) (ad : Nat → Nat) : ∀ S, (wC cI cZ ad S)[21]? = some (ad 21, .inl (cZ, 60, .inl (zA (S.2 16)))) := fun _ => rfl
theorem sC_16 (cI cZ : ClassId) (ad : Nat → Nat) : ∀ S i v, 0 ≤ i → (wC cI cZ ad S).set 21 (ad 21, .inl (cZ, 60, .inl (upd (zA (S.2 16)) i.toNat (zI v)))) = wC cI cZ ad (zput S 16 i v) := fun S i v h => by rw [zA_put h]; rfl
theorem aC_17 (cI cZ : ClassId) (ad : Nat → Nat) : ∀ S, (wC cI cZ ad S)[22]? = some (ad 22, .inl (cI, 60, .inl (zA (S.2 17)))) := fun _ => rfl
theorem sC_17 (cI cZ : ClassId) (ad : Nat → Nat) : ∀ S i v, 0 ≤ i → (wC cI cZ ad S).set 22 (ad 22, .inl (cI, 60, .inl (upd (zA (S.2 17)) i.toNat (zI v)))) = wC cI cZ ad (zput S 17 i v) := fun S i v h => by rw [zA_put h]; rfl
theorem obC_23 (cI cZ : ClassId) (ad : Nat → Nat) : zOb (wC cI cZ ad) (ad 23) RX5 := ⟨23, 5, (RX5, TX5, 5), fsX5 ad, fun _ => rfl, rfl, rfl⟩
theorem aC_18 (cI cZ : ClassId) (ad : Nat → Nat) : ∀ S, (wC cI cZ ad S)[24]? = some (ad 24, .inl (cI, 10, .inl (zA (S.2 18)))) := fun _ => rfl
theorem sC_18 (cI cZ : ClassId) (ad : Nat → Nat) : ∀ S i v, 0 ≤ i → (wC cI cZ ad S).set 24 (ad 24, .inl (cI, 10, .inl (upd (zA (S.2 18)) i.toNat (zI v)))) = wC cI cZ ad (zput S 18 i v) := fun S i v h => by rw [zA_put h]; rfl
theorem aC_19 (cI cZ : ClassId) (ad : Nat → Nat) : ∀ S, (wC cI cZ ad S)[25]? = some (ad 25, .inl (cI, 10, .inl (zA (S.2 19)))) := fun _ => rfl
theorem sC_19 (cI cZ : ClassId) (ad : Nat → Nat) : ∀ S i v, 0 ≤ i → (wC cI cZ ad S).set 25 (ad 25, .inl (cI, 10, .inl (upd (zA (S.2 19)) i.toNat (zI v)))) = wC cI cZ ad (zput S 19 i v) := fun S i v h => by rw [zA_put h]; rfl
theorem aC_20 (cI cZ : ClassId) (ad : Nat → Nat) : ∀ S, (wC cI cZ ad S)[26]? = some (ad 26, .inl (cI, 6, .inl (zA (S.2 20)))) := fun _ => rfl
theorem sC_20 (cI cZ : ClassId) (ad : Nat → Nat) : ∀ S i v, 0 ≤ i → (wC cI cZ ad S).set 26 (ad 26, .inl (cI, 6, .inl (upd (zA (S.2 20)) i.toNat (zI v)))) = wC cI cZ ad (zput S 20 i v) := fun S i v h => by rw [zA_put h]; rfl
theorem aC_21 (cI cZ : ClassId) (ad : Nat → Nat) : ∀ S, (wC cI cZ ad S)[27]? = some (ad 27, .inl (cI, 6, .inl (zA (S.2 21)))) := fun _ => rfl
theorem sC_21 (cI cZ : ClassId) (ad : Nat → Nat) : ∀ S i v, 0 ≤ i → (wC cI cZ ad S).set 27 (ad 27, .inl (cI, 6, .inl (upd (zA (S.2 21)) i.toNat (zI v)))) = wC cI cZ ad (zput S 21 i v) := fun S i v h => by rw [zA_put h]; rfl
theorem obC_28 (cI cZ : ClassId) (ad : Nat → Nat) : zOb (wC cI cZ ad) (ad 28) RX6 := ⟨28, 6, (RX6, TX6, 5), fsX6 ad, fun _ => rfl, rfl, rfl⟩
theorem obC_29 (cI cZ : ClassId) (ad : Nat → Nat) : zOb (wC cI cZ ad) (ad 29) RX3 := ⟨29, 3, (RX3, TX3, 2), fsX3i ad, fun _ => rfl, rfl, rfl⟩
theorem aC_22 (cI cZ : ClassId) (ad : Nat → Nat) : ∀ S, (wC cI cZ ad S)[30]? = some (ad 30, .inl (cI, 240, .inl (zA (S.2 22)))) := fun _ => rfl
theorem sC_22 (cI cZ : ClassId) (ad : Nat → Nat) : ∀ S i v, 0 ≤ i → (wC cI cZ ad S).set 30 (ad 30, .inl (cI, 240, .inl (upd (zA (S.2 22)) i.toNat (zI v)))) = wC cI cZ ad (zput S 22 i v) := fun S i v h => by rw [zA_put h]; rfl
theorem obC_31 (cI cZ : ClassId) (ad : Nat → Nat) : zOb (wC cI cZ ad) (ad 31) RX3 := ⟨31, 3, (RX3, TX3, 2), fsX3o ad, fun _ => rfl, rfl, rfl⟩
theorem aC_23 (cI cZ : ClassId) (ad : Nat → Nat) : ∀ S, (wC cI cZ ad S)[32]? = some (ad 32, .inl (cI, 240, .inl (zA (S.2 23)))) := fun _ => rfl
theorem sC_23 (cI cZ : ClassId) (ad : Nat → Nat) : ∀ S i v, 0 ≤ i → (wC cI cZ ad S).set 32 (ad 32, .inl (cI, 240, .inl (upd (zA (S.2 23)) i.toNat (zI v)))) = wC cI cZ ad (zput S 23 i v) := fun S i v h => by rw [zA_put h]; rfl
theorem aC_24 (cI cZ : ClassId) (ad : Nat → Nat) : ∀ S, (wC cI cZ ad S)[33]? = some (ad 33, .inl (cI, 240, .inl (zA (S.2 24)))) := fun _ => rfl
theorem sC_24 (cI cZ : ClassId) (ad : Nat → Nat) : ∀ S i v, 0 ≤ i → (wC cI cZ ad S).set 33 (ad 33, .inl (cI, 240, .inl (upd (zA (S.2 24)) i.toNat (zI v)))) = wC cI cZ ad (zput S 24 i v) := fun S i v h => by rw [zA_put h]; rfl
theorem obC_34 (cI cZ : ClassId) (ad : Nat → Nat) : zOb (wC cI cZ ad) (ad 34) RX2 := ⟨34, 2, (RX2, TX2, 5), fsX2 ad, fun _ => rfl, rfl, rfl⟩
theorem aC_25 (cI cZ : ClassId) (ad : Nat → Nat) : ∀ S, (wC cI cZ ad S)[35]? = some (ad 35, .inl (cI, 160, .inl (zA (S.2 25)))) := fun _ => rfl
theorem sC_25 (cI cZ : ClassId) (ad : Nat → Nat) : ∀ S i v, 0 ≤ i → (wC cI cZ ad S).set 35 (ad 35, .inl (cI, 160, .inl (upd (zA (S.2 25)) i.toNat (zI v)))) = wC cI cZ ad (zput S 25 i v) := fun S i v h => by rw [zA_put h]; rfl
theorem aC_26 (cI cZ : ClassId) (ad : Nat → Nat) : ∀ S, (wC cI cZ ad S)[36]? = some (ad 36, .inl (cI, 8, .inl (zA (S.2 26)))) := fun _ => rfl
theorem sC_26 (cI cZ : ClassId) (ad : Nat → Nat) : ∀ S i v, 0 ≤ i → (wC cI cZ ad S).set 36 (ad 36, .inl (cI, 8, .inl (upd (zA (S.2 26)) i.toNat (zI v)))) = wC cI cZ ad (zput S 26 i v) := fun S i v h => by rw [zA_put h]; rfl
theorem aC_27 (cI cZ : ClassId) (ad : Nat → Nat) : ∀ S, (wC cI cZ ad S)[37]? = some (ad 37, .inl (cI, 8, .inl (zA (S.2 27)))) := fun _ => rfl
theorem sC_27 (cI cZ : ClassId) (ad : Nat → Nat) : ∀ S i v, 0 ≤ i → (wC cI cZ ad S).set 37 (ad 37, .inl (cI, 8, .inl (upd (zA (S.2 27)) i.toNat (zI v)))) = wC cI cZ ad (zput S 27 i v) := fun S i v h => by rw [zA_put h]; rfl
end
section
theorem kgX0_count {Γ : zG} {cI cZ : ClassId} {ad : Nat → Nat} {cc : ByteArray} {rm : Room} {nL' : Nat} {S : zSt} {lv : List (Nat × Value)} {pc : Nat} {st : List Value} {R : Type} {r : R} {K : Int → Option R} (F : zF Γ (wC cI cZ ad) cI cZ cc rm nL' RX0) (hd : decode cc pc = .ok (.getfield 21, 3)) (h : zlt (S.1 2) K = some r) (kk : ∀ x, inR x → K x = some r → zk Γ (wC cI cZ ad) (RG bsC) S lv (pc + 3) (.int (zI x) :: st)) : zk Γ (wC cI cZ ad) (RG bsC) S lv (pc) (.ref (ad 7) :: st) := k_getI F rfl 7 3 inWX0 (fun _ => rfl) rfl (by decide) wm_103 (fun _ => rfl) hd h kk
theorem kgX0_years {Γ : zG} {cI cZ : ClassId} {ad : Nat → Nat} {cc : ByteArray} {rm : Room} {nL' : Nat} {S : zSt} {lv : List (Nat × Value)} {pc : Nat} {st : List Value} (F : zF Γ (wC cI cZ ad) cI cZ cc rm nL' RX0) (hd : decode cc pc = .ok (.getfield 9, 3)) (kk : zk Γ (wC cI cZ ad) (RG bsC) S lv (pc + 3) (.ref (ad 8) :: st)) : zk Γ (wC cI cZ ad) (RG bsC) S lv (pc) (.ref (ad 7) :: st) := k_getR F 7 0 inWX0 (fun _ => rfl) rfl (by decide) wm_25 (fun _ => rfl) hd kk
theorem kgX0_schools {Γ : zG} {cI cZ : ClassId} {ad : Nat → Nat} {cc : ByteArray} {rm : Room} {nL' : Nat} {S : zSt} {lv : List (Nat × Value)} {pc : Nat} {st : List Value} (F : zF Γ (wC cI cZ ad) cI cZ cc rm nL' RX0) (hd : decode cc pc = .ok (.getfield 15, 3)) (kk : zk Γ (wC cI cZ ad) (RG bsC) S lv (pc + 3) (.ref (ad 9) :: st)) : zk Γ (wC cI cZ ad) (RG bsC) S lv (pc) (.ref (ad 7) :: st) := k_getR F 7 1 inWX0 (fun _ => rfl) rfl (by decide) wm_26 (fun _ => rfl) hd kk
theorem kgX0_initials {Γ : zG} {cI cZ : ClassId} {ad : Nat → Nat} {cc : ByteArray} {rm : Room} {nL' : Nat} {S : zSt} {lv : List (Nat × Value)} {pc : Nat} {st : List Value} (F : zF Γ (wC cI cZ ad) cI cZ cc rm nL' RX0) (hd : decode cc pc = .ok (.getfield 18, 3)) (kk : zk Γ (wC cI cZ ad) (RG bsC) S lv (pc + 3) (.ref (ad 10) :: st)) : zk Γ (wC cI cZ ad) (RG bsC) S lv (pc) (.ref (ad 7) :: st) := k_getR F 7 2 inWX0 (fun _ => rfl) rfl (by decide) wm_27 (fun _ => rfl) hd kk
theorem kpX0_count {Γ : zG} {cI cZ : ClassId} {ad : Nat → Nat} {cc : ByteArray} {rm : Room} {nL' : Nat} {S : zSt} {lv : List (Nat × Value)} {pc : Nat} {st : List Value} {R : Type} {r : R} {v : Int} {K : zSt → Option R} (F : zF Γ (wC cI cZ ad) cI cZ cc rm nL' RX0) (hr : inR v) (hd : decode cc pc = .ok (.putfield 21, 3)) (h : zlt (zset S 2 v) K = some r) (kk : ∀ S, K S = some r → zk Γ (wC cI cZ ad) (RG bsC) S lv (pc + 3) (st)) : zk Γ (wC cI cZ ad) (RG bsC) S lv (pc) (.int (zI v) :: .ref (ad 7) :: st) := k_putI F rfl 7 3 inWX0 (fun _ => rfl) rfl (by decide) wm_103 tyX0 tyX0_ok nmX0 rfl (by decide +kernel) (fun _ => Nat.le_of_ble_eq_true rfl) (fun _ _ => rfl) hr hd h kk
theorem kgX1_count {Γ : zG} {cI cZ : ClassId} {ad : Nat → Nat} {cc : ByteArray} {rm : Room} {nL' : Nat} {S : zSt} {lv : List (Nat × Value)} {pc : Nat} {st : List Value} {R : Type} {r : R} {K : Int → Option R} (F : zF Γ (wC cI cZ ad) cI cZ cc rm nL' RX1) (hd : decode cc pc = .ok (.getfield 46, 3)) (h : zlt (S.1 3) K = some r) (kk : ∀ x, inR x → K x = some r → zk Γ (wC cI cZ ad) (RG bsC) S lv (pc + 3) (.int (zI x) :: st)) : zk Γ (wC cI cZ ad) (RG bsC) S lv (pc) (.ref (ad 11) :: st) := k_getI F rfl 11 11 inWX1 (fun _ => rfl) rfl (by decide) wm_108 (fun _ => rfl) hd h kk
theorem kgX1_writers {Γ : zG} {cI cZ : ClassId} {ad : Nat → Nat} {cc : ByteArray} {rm : Room} {nL' : Nat} {S : zSt} {lv : List (Nat × Value)} {pc : Nat} {st : List Value} (F : zF Γ (wC cI cZ ad) cI cZ cc rm nL' RX1) (hd : decode cc pc = .ok (.getfield 9, 3)) (kk : zk Γ (wC cI cZ ad) (RG bsC) S lv (pc + 3) (.ref (ad 12) :: st)) : zk Γ (wC cI cZ ad) (RG bsC) S lv (pc) (.ref (ad 11) :: st) := k_getR F 11 0 inWX1 (fun _ => rfl) rfl (by decide) wm_29 (fun _ => rfl) hd kk
theorem kgX1_kinds {Γ : zG} {cI cZ : ClassId} {ad : Nat → Nat} {cc : ByteArray} {rm : Room} {nL' : Nat} {S : zSt} {lv : List (Nat × Value)} {pc : Nat} {st : List Value} (F : zF Γ (wC cI cZ ad) cI cZ cc rm nL' RX1) (hd : decode cc pc = .ok (.getfield 15, 3)) (kk : zk Γ (wC cI cZ ad) (RG bsC) S lv (pc + 3) (.ref (ad 13) :: st)) : zk Γ (wC cI cZ ad) (RG bsC) S lv (pc) (.ref (ad 11) :: st) := k_getR F 11 1 inWX1 (fun _ => rfl) rfl (by decide) wm_30 (fun _ => rfl) hd kk
theorem kgX1_lines {Γ : zG} {cI cZ : ClassId} {ad : Nat → Nat} {cc : ByteArray} {rm : Room} {nL' : Nat} {S : zSt} {lv : List (Nat × Value)} {pc : Nat} {st : List Value} (F : zF Γ (wC cI cZ ad) cI cZ cc rm nL' RX1) (hd : decode cc pc = .ok (.getfield 18, 3)) (kk : zk Γ (wC cI cZ ad) (RG bsC) S lv (pc + 3) (.ref (ad 14) :: st)) : zk Γ (wC cI cZ ad) (RG bsC) S lv (pc) (.ref (ad 11) :: st) := k_getR F 11 2 inWX1 (fun _ => rfl) rfl (by decide) wm_31 (fun _ => rfl) hd kk
theorem kgX1_margins {Γ : zG} {cI cZ : ClassId} {ad : Nat → Nat} {cc : ByteArray} {rm : Room} {nL' : Nat} {S : zSt} {lv : List (Nat × Value)} {pc : Nat} {st : List Value} (F : zF Γ (wC cI cZ ad) cI cZ cc rm nL' RX1) (hd : decode cc pc = .ok (.getfield 21, 3)) (kk : zk Γ (wC cI cZ ad) (RG bsC) S lv (pc + 3) (.ref (ad 15) :: st)) : zk Γ (wC cI cZ ad) (RG bsC) S lv (pc) (.ref (ad 11) :: st) := k_getR F 11 3 inWX1 (fun _ => rfl) rfl (by decide) wm_32 (fun _ => rfl) hd kk
theorem kpX1_count {Γ : zG} {cI cZ : ClassId} {ad : Nat → Nat} {cc : ByteArray} {rm : Room} {nL' : Nat} {S : zSt} {lv : List (Nat × Value)} {pc : Nat} {st : List Value} {R : Type} {r : R} {v : Int} {K : zSt → Option R} (F : zF Γ (wC cI cZ ad) cI cZ cc rm nL' RX1) (hr : inR v) (hd : decode cc pc = .ok (.putfield 46, 3)) (h : zlt (zset S 3 v) K = some r) (kk : ∀ S, K S = some r → zk Γ (wC cI cZ ad) (RG bsC) S lv (pc + 3) (st)) : zk Γ (wC cI cZ ad) (RG bsC) S lv (pc) (.int (zI v) :: .ref (ad 11) :: st) := k_putI F rfl 11 11 inWX1 (fun _ => rfl) rfl (by decide) wm_108 tyX1 tyX1_ok nmX1 rfl (by decide +kernel) (fun _ => Nat.le_of_ble_eq_true rfl) (fun _ _ => rfl) hr hd h kk
theorem kgX1_parents {Γ : zG} {cI cZ : ClassId} {ad : Nat → Nat} {cc : ByteArray} {rm : Room} {nL' : Nat} {S : zSt} {lv : List (Nat × Value)} {pc : Nat} {st : List Value} (F : zF Γ (wC cI cZ ad) cI cZ cc rm nL' RX1) (hd : decode cc pc = .ok (.getfield 24, 3)) (kk : zk Γ (wC cI cZ ad) (RG bsC) S lv (pc + 3) (.ref (ad 16) :: st)) : zk Γ (wC cI cZ ad) (RG bsC) S lv (pc) (.ref (ad 11) :: st) := k_getR F 11 4 inWX1 (fun _ => rfl) rfl (by decide) wm_33 (fun _ => rfl) hd kk
theorem kgX1_roots {Γ : zG} {cI cZ : ClassId} {ad : Nat → Nat} {cc : ByteArray} {rm : Room} {nL' : Nat} {S : zSt} {lv : List (Nat × Value)} {pc : Nat} {st : List Value} (F : zF Γ (wC cI cZ ad) cI cZ cc rm nL' RX1) (hd : decode cc pc = .ok (.getfield 27, 3)) (kk : zk Γ (wC cI cZ ad) (RG bsC) S lv (pc + 3) (.ref (ad 17) :: st)) : zk Γ (wC cI cZ ad) (RG bsC) S lv (pc) (.ref (ad 11) :: st) := k_getR F 11 5 inWX1 (fun _ => rfl) rfl (by decide) wm_34 (fun _ => rfl) hd kk
theorem kgX1_units {Γ : zG} {cI cZ : ClassId} {ad : Nat → Nat} {cc : ByteArray} {rm : Room} {nL' : Nat} {S : zSt} {lv : List (Nat × Value)} {pc : Nat} {st : List Value} (F : zF Γ (wC cI cZ ad) cI cZ cc rm nL' RX1) (hd : decode cc pc = .ok (.getfield 30, 3)) (kk : zk Γ (wC cI cZ ad) (RG bsC) S lv (pc + 3) (.ref (ad 18) :: st)) : zk Γ (wC cI cZ ad) (RG bsC) S lv (pc) (.ref (ad 11) :: st) := k_getR F 11 6 inWX1 (fun _ => rfl) rfl (by decide) wm_35 (fun _ => rfl) hd kk
theorem kgX1_places {Γ : zG} {cI cZ : ClassId} {ad : Nat → Nat} {cc : ByteArray} {rm : Room} {nL' : Nat} {S : zSt} {lv : List (Nat × Value)} {pc : Nat} {st : List Value} (F : zF Γ (wC cI cZ ad) cI cZ cc rm nL' RX1) (hd : decode cc pc = .ok (.getfield 33, 3)) (kk : zk Γ (wC cI cZ ad) (RG bsC) S lv (pc + 3) (.ref (ad 19) :: st)) : zk Γ (wC cI cZ ad) (RG bsC) S lv (pc) (.ref (ad 11) :: st) := k_getR F 11 7 inWX1 (fun _ => rfl) rfl (by decide) wm_36 (fun _ => rfl) hd kk
theorem kgX1_words {Γ : zG} {cI cZ : ClassId} {ad : Nat → Nat} {cc : ByteArray} {rm : Room} {nL' : Nat} {S : zSt} {lv : List (Nat × Value)} {pc : Nat} {st : List Value} (F : zF Γ (wC cI cZ ad) cI cZ cc rm nL' RX1) (hd : decode cc pc = .ok (.getfield 36, 3)) (kk : zk Γ (wC cI cZ ad) (RG bsC) S lv (pc + 3) (.ref (ad 20) :: st)) : zk Γ (wC cI cZ ad) (RG bsC) S lv (pc) (.ref (ad 11) :: st) := k_getR F 11 8 inWX1 (fun _ => rfl) rfl (by decide) wm_37 (fun _ => rfl) hd kk
theorem kgX1_lost {Γ : zG} {cI cZ : ClassId} {ad : Nat → Nat} {cc : ByteArray} {rm : Room} {nL' : Nat} {S : zSt} {lv : List (Nat × Value)} {pc : Nat} {st : List Value} (F : zF Γ (wC cI cZ ad) cI cZ cc rm nL' RX1) (hd : decode cc pc = .ok (.getfield 39, 3)) (kk : zk Γ (wC cI cZ ad) (RG bsC) S lv (pc + 3) (.ref (ad 21) :: st)) : zk Γ (wC cI cZ ad) (RG bsC) S lv (pc) (.ref (ad 11) :: st) := k_getR F 11 9 inWX1 (fun _ => rfl) rfl (by decide) wm_38 (fun _ => rfl) hd kk
theorem kgX7_count {Γ : zG} {cI cZ : ClassId} {ad : Nat → Nat} {cc : ByteArray} {rm : Room} {nL' : Nat} {S : zSt} {lv : List (Nat × Value)} {pc : Nat} {st : List Value} {R : Type} {r : R} {K : Int → Option R} (F : zF Γ (wC cI cZ ad) cI cZ cc rm nL' RX7) (hd : decode cc pc = .ok (.getfield 21, 3)) (h : zlt (S.1 1) K = some r) (kk : ∀ x, inR x → K x = some r → zk Γ (wC cI cZ ad) (RG bsC) S lv (pc + 3) (.int (zI x) :: st)) : zk Γ (wC cI cZ ad) (RG bsC) S lv (pc) (.ref (ad 3) :: st) := k_getI F rfl 3 3 inWX7 (fun _ => rfl) rfl (by decide) wm_125 (fun _ => rfl) hd h kk
theorem kgX7_sizes {Γ : zG} {cI cZ : ClassId} {ad : Nat → Nat} {cc : ByteArray} {rm : Room} {nL' : Nat} {S : zSt} {lv : List (Nat × Value)} {pc : Nat} {st : List Value} (F : zF Γ (wC cI cZ ad) cI cZ cc rm nL' RX7) (hd : decode cc pc = .ok (.getfield 15, 3)) (kk : zk Γ (wC cI cZ ad) (RG bsC) S lv (pc + 3) (.ref (ad 5) :: st)) : zk Γ (wC cI cZ ad) (RG bsC) S lv (pc) (.ref (ad 3) :: st) := k_getR F 3 1 inWX7 (fun _ => rfl) rfl (by decide) wm_23 (fun _ => rfl) hd kk
theorem kgX7_words {Γ : zG} {cI cZ : ClassId} {ad : Nat → Nat} {cc : ByteArray} {rm : Room} {nL' : Nat} {S : zSt} {lv : List (Nat × Value)} {pc : Nat} {st : List Value} (F : zF Γ (wC cI cZ ad) cI cZ cc rm nL' RX7) (hd : decode cc pc = .ok (.getfield 9, 3)) (kk : zk Γ (wC cI cZ ad) (RG bsC) S lv (pc + 3) (.ref (ad 4) :: st)) : zk Γ (wC cI cZ ad) (RG bsC) S lv (pc) (.ref (ad 3) :: st) := k_getR F 3 0 inWX7 (fun _ => rfl) rfl (by decide) wm_22 (fun _ => rfl) hd kk
theorem kgX1_burdens {Γ : zG} {cI cZ : ClassId} {ad : Nat → Nat} {cc : ByteArray} {rm : Room} {nL' : Nat} {S : zSt} {lv : List (Nat × Value)} {pc : Nat} {st : List Value} (F : zF Γ (wC cI cZ ad) cI cZ cc rm nL' RX1) (hd : decode cc pc = .ok (.getfield 43, 3)) (kk : zk Γ (wC cI cZ ad) (RG bsC) S lv (pc + 3) (.ref (ad 22) :: st)) : zk Γ (wC cI cZ ad) (RG bsC) S lv (pc) (.ref (ad 11) :: st) := k_getR F 11 10 inWX1 (fun _ => rfl) rfl (by decide) wm_39 (fun _ => rfl) hd kk
theorem kgX4_size {Γ : zG} {cI cZ : ClassId} {ad : Nat → Nat} {cc : ByteArray} {rm : Room} {nL' : Nat} {S : zSt} {lv : List (Nat × Value)} {pc : Nat} {st : List Value} {R : Type} {r : R} {K : Int → Option R} (F : zF Γ (wC cI cZ ad) cI cZ cc rm nL' RX4) (hd : decode cc pc = .ok (.getfield 15, 3)) (h : zlt (S.1 0) K = some r) (kk : ∀ x, inR x → K x = some r → zk Γ (wC cI cZ ad) (RG bsC) S lv (pc + 3) (.int (zI x) :: st)) : zk Γ (wC cI cZ ad) (RG bsC) S lv (pc) (.ref (ad 1) :: st) := k_getI F rfl 1 1 inWX4 (fun _ => rfl) rfl (by decide) wm_159 (fun _ => rfl) hd h kk
theorem kgX4_words {Γ : zG} {cI cZ : ClassId} {ad : Nat → Nat} {cc : ByteArray} {rm : Room} {nL' : Nat} {S : zSt} {lv : List (Nat × Value)} {pc : Nat} {st : List Value} (F : zF Γ (wC cI cZ ad) cI cZ cc rm nL' RX4) (hd : decode cc pc = .ok (.getfield 9, 3)) (kk : zk Γ (wC cI cZ ad) (RG bsC) S lv (pc + 3) (.ref (ad 2) :: st)) : zk Γ (wC cI cZ ad) (RG bsC) S lv (pc) (.ref (ad 1) :: st) := k_getR F 1 0 inWX4 (fun _ => rfl) rfl (by decide) wm_20 (fun _ => rfl) hd kk
theorem kpX4_size {Γ : zG} {cI cZ : ClassId} {ad : Nat → Nat} {cc : ByteArray} {rm : Room} {nL' : Nat} {S : zSt} {lv : List (Nat × Value)} {pc : Nat} {st : List Value} {R : Type} {r : R} {v : Int} {K : zSt → Option R} (F : zF Γ (wC cI cZ ad) cI cZ cc rm nL' RX4) (hr : inR v) (hd : decode cc pc = .ok (.putfield 15, 3)) (h : zlt (zset S 0 v) K = some r) (kk : ∀ S, K S = some r → zk Γ (wC cI cZ ad) (RG bsC) S lv (pc + 3) (st)) : zk Γ (wC cI cZ ad) (RG bsC) S lv (pc) (.int (zI v) :: .ref (ad 1) :: st) := k_putI F rfl 1 1 inWX4 (fun _ => rfl) rfl (by decide) wm_159 tyX4 tyX4_ok nmX4 rfl (by decide +kernel) (fun _ => Nat.le_of_ble_eq_true rfl) (fun _ _ => rfl) hr hd h kk
theorem kpX7_count {Γ : zG} {cI cZ : ClassId} {ad : Nat → Nat} {cc : ByteArray} {rm : Room} {nL' : Nat} {S : zSt} {lv : List (Nat × Value)} {pc : Nat} {st : List Value} {R : Type} {r : R} {v : Int} {K : zSt → Option R} (F : zF Γ (wC cI cZ ad) cI cZ cc rm nL' RX7) (hr : inR v) (hd : decode cc pc = .ok (.putfield 21, 3)) (h : zlt (zset S 1 v) K = some r) (kk : ∀ S, K S = some r → zk Γ (wC cI cZ ad) (RG bsC) S lv (pc + 3) (st)) : zk Γ (wC cI cZ ad) (RG bsC) S lv (pc) (.int (zI v) :: .ref (ad 3) :: st) := k_putI F rfl 3 3 inWX7 (fun _ => rfl) rfl (by decide) wm_125 tyX7 tyX7_ok nmX7 rfl (by decide +kernel) (fun _ => Nat.le_of_ble_eq_true rfl) (fun _ _ => rfl) hr hd h kk
theorem kgX8_text {Γ : zG} {cI cZ : ClassId} {ad : Nat → Nat} {cc : ByteArray} {rm : Room} {nL' : Nat} {S : zSt} {lv : List (Nat × Value)} {pc : Nat} {st : List Value} (F : zF Γ (wC cI cZ ad) cI cZ cc rm nL' RX8) (hd : decode cc pc = .ok (.getfield 19, 3)) (kk : zk Γ (wC cI cZ ad) (RG bsC) S lv (pc + 3) (.ref (ad 3) :: st)) : zk Γ (wC cI cZ ad) (RG bsC) S lv (pc) (.ref (ad 0) :: st) := k_getR F 0 1 inWX8 (fun _ => rfl) rfl (by decide) wm_72 (fun _ => rfl) hd kk
theorem kgX8_authors {Γ : zG} {cI cZ : ClassId} {ad : Nat → Nat} {cc : ByteArray} {rm : Room} {nL' : Nat} {S : zSt} {lv : List (Nat × Value)} {pc : Nat} {st : List Value} (F : zF Γ (wC cI cZ ad) cI cZ cc rm nL' RX8) (hd : decode cc pc = .ok (.getfield 26, 3)) (kk : zk Γ (wC cI cZ ad) (RG bsC) S lv (pc + 3) (.ref (ad 7) :: st)) : zk Γ (wC cI cZ ad) (RG bsC) S lv (pc) (.ref (ad 0) :: st) := k_getR F 0 2 inWX8 (fun _ => rfl) rfl (by decide) wm_78 (fun _ => rfl) hd kk
theorem kgX8_comments {Γ : zG} {cI cZ : ClassId} {ad : Nat → Nat} {cc : ByteArray} {rm : Room} {nL' : Nat} {S : zSt} {lv : List (Nat × Value)} {pc : Nat} {st : List Value} (F : zF Γ (wC cI cZ ad) cI cZ cc rm nL' RX8) (hd : decode cc pc = .ok (.getfield 33, 3)) (kk : zk Γ (wC cI cZ ad) (RG bsC) S lv (pc + 3) (.ref (ad 11) :: st)) : zk Γ (wC cI cZ ad) (RG bsC) S lv (pc) (.ref (ad 0) :: st) := k_getR F 0 3 inWX8 (fun _ => rfl) rfl (by decide) wm_84 (fun _ => rfl) hd kk
theorem kgX8_pad {Γ : zG} {cI cZ : ClassId} {ad : Nat → Nat} {cc : ByteArray} {rm : Room} {nL' : Nat} {S : zSt} {lv : List (Nat × Value)} {pc : Nat} {st : List Value} (F : zF Γ (wC cI cZ ad) cI cZ cc rm nL' RX8) (hd : decode cc pc = .ok (.getfield 12, 3)) (kk : zk Γ (wC cI cZ ad) (RG bsC) S lv (pc + 3) (.ref (ad 1) :: st)) : zk Γ (wC cI cZ ad) (RG bsC) S lv (pc) (.ref (ad 0) :: st) := k_getR F 0 0 inWX8 (fun _ => rfl) rfl (by decide) wm_66 (fun _ => rfl) hd kk
end
section
/-! METHODS THAT THROW -/
def zCAS : List String := ["java/lang/IllegalArgumentException", "java/lang/IllegalStateException", "java/lang/IndexOutOfBoundsException"]
def zDEC : List MethodName := [⟨"java/lang/Throwable", "<init>", "(Ljava/lang/String;)V"⟩, ⟨"java/lang/Exception", "<init>", "(Ljava/lang/String;)V"⟩, ⟨"java/lang/RuntimeException", "<init>", "(Ljava/lang/String;)V"⟩, ⟨"java/lang/Throwable", "<init>", "()V"⟩, ⟨"java/lang/Exception", "<init>", "()V"⟩, ⟨"java/lang/RuntimeException", "<init>", "()V"⟩]
def zSTR : List (Nat × String) := [(68, "the pad is full"), (84, "the pad is empty"), (87, "no more units"), (101, "no such unit or place"), (115, "the only word of the unit"), (127, "no such place"), (134, "no more authors"), (152, "the unit has no such word"), (285, "an argument is out of its range"), (290, "no such unit"), (293, "no such author"), (296, "no such comment"), (299, "no more comments")]
def zNMS : List String := ["java/lang/RuntimeException", "java/lang/Exception"]
/-- what a throw needs of the world's rest: Throwable's statics, the strings, words that no list may hold -/
def zT (ads : Nat → Nat) (A : Nat → Prop) (U : State) : Prop := vx_Zq Bundle.tN "UNASSIGNED_STACK" Bundle.steD A U U.heap ∧ vx_Zq Bundle.tN "SUPPRESSED_SENTINEL" Bundle.listD A U U.heap ∧ (∀ q ∈ zSTR, vk_R RX8 q.1 q.2 (ads q.1) U) ∧ (∀ q ∈ zCAS, va_Nw (.castable q q) U) ∧ ∀ y ∈ zDEC, va_Nw (.declares y) U
theorem zT.go {ads : Nat → Nat} {A : Nat → Prop} {s U : State} (hW : s.WarmedH U.vm) (hq : ∀ a : Nat, a < s.heap.size → ¬ A a → U.heap[a]? = s.heap[a]?) (h : zT ads A s) : zT ads A U :=
  ⟨(vx_Zq.moved hW.alike h.1).kept hq, (vx_Zq.moved hW.alike h.2.1).kept hq, fun q hm => vk_R.warm hW (h.2.2.1 q hm), fun q hm => va_Nw.warmC hW (h.2.2.2.1 q hm), fun y hm => va_Nw.warmD hW (h.2.2.2.2 y hm)⟩
theorem zT.same {ads : Nat → Nat} {A : Nat → Prop} {u U : State} (hv : U.vm = u.vm) (hh : U.heap = u.heap) (h : zT ads A u) : zT ads A U := by
  have ha : u.vm.Alike U.vm := by rw [hv]; exact Vm.Alike.refl u.vm
  refine ⟨?_, ?_, fun q hm => vk_R.same hv (h.2.2.1 q hm), fun q hm => va_Nw.same rfl hv.symm (h.2.2.2.1 q hm), fun y hm => va_Nw.same rfl hv.symm (h.2.2.2.2 y hm)⟩
  · rw [hh]; exact vx_Zq.moved ha h.1
  · rw [hh]; exact vx_Zq.moved ha h.2.1
abbrev zRx : Type := zRes ⊕ (String × zSt)
def zroom (fr lo : Nat) (r : zRx) : Room := { frames := fr, cells := (match r with | .inl _ => 0 | .inr _ => 1), slots := (match r with | .inl _ => 0 | .inr _ => 6), locals := lo }
def zPc (D : va_G) (cI cZ : ClassId) (ads : Nat → Nat) (A : Nat → Prop) (w : zSt → va_W) (av : List Value) (S : zSt) : Array Value → State → Prop := va_Pc av (fun U => va_P D vwCl (w S) U.heap ∧ zK D cI cZ U ∧ zT ads A U)
theorem zPc.blind {D : va_G} {cI cZ : ClassId} {ads : Nat → Nat} {A : Nat → Prop} {w : zSt → va_W} {av : List Value} {S : zSt} : FrameBlind (zPc D cI cZ ads A w av S) := fun a U g mk q => ⟨q.1, q.2.1, zK.same (u := U) (U := U.calling g mk a) rfl q.2.2.1, zT.same (u := U) (U := U.calling g mk a) rfl rfl q.2.2.2⟩
def zMr (l : Launch) (y : MethodName) (cy : ByteArray) (mL : Nat) (ret : Option FieldType) (fr lo : Nat) (D : va_G) (cI cZ : ClassId) (ads : Nat → Nat) (A : Nat → Prop) (w : zSt → va_W) (G : zSt → Prop) (av : List Value) (S : zSt) (r : zRx) : Prop :=
  match r with
  | .inl q => (match ret with
    | some ty => Met l y (.code y cy mL (some ty) :: WS) (zroom fr lo (.inl q)) (zPc D cI cZ ads A w av S) (va_Qi (S := Unit) (fun v _ => v = zI q.1 ∧ inR q.1 ∧ G q.2 ∧ (ty = .boolean → q.1 = 0 ∨ q.1 = 1)) (fun _ t => va_P D vwCl (w q.2) t.heap) A) 0 0 A
    | none => Met l y (.code y cy mL none :: WS) (zroom fr lo (.inl q)) (zPc D cI cZ ads A w av S) (va_Qv (S := Unit) (fun _ => G q.2) (fun _ t => va_P D vwCl (w q.2) t.heap) A) 0 0 A)
  | .inr q => vx_Met l y (.code y cy mL ret :: WS) (zroom fr lo (.inr q)) (zPc D cI cZ ads A w av S) (va_Qv (S := Unit) (fun _ => False) (fun _ _ => True) A) (vx_X (fun _ : Unit => G q.2) (fun E _ t => E = q.1 ∧ va_P D vwCl (w q.2) t.heap) A) 1 6 A
def zX (Γ : zG) (ads : Nat → Nat) : Prop :=
  match Γ with
  | (_, l, _, _, s, _, _, _, _, _, _, _, A, _, _, _) => l.stackTraces = false ∧ zT ads A s
def zQx (Γ : zG) (w : zSt → va_W) (G : zSt → Prop) (E : String) (S' : zSt) : Prop :=
  match Γ with
  | (_, _, _, _, s, _, args, below, meth, c, Q, D, A, k, n, _) => k = 0 ∧ n = 0 ∧ Q = vx_MQ below (va_Qv (S := Unit) (fun _ => False) (fun _ _ => True) A) (vx_X (fun _ : Unit => G S') (fun E' _ t => E' = E ∧ va_P D vwCl (w S') t.heap) A) args s 1 6 A ∧ (∀ x ∈ c.exceptionTable.toList, False) ∧ meth.locks = false
def zQr (Γ : zG) (w : zSt → va_W) (G : zSt → Prop) (ret : Option FieldType) (r : zRx) : Prop :=
  match r, ret with
  | .inl q, some ty => zQi Γ w G ty q.1 q.2
  | .inl q, none => zQv Γ w G q.2
  | .inr q, _ => zQx Γ w G q.1 q.2
theorem k_startX {l : Launch} {y : MethodName} {cc : ByteArray} {maxL : Nat} {ret : Option FieldType} {fr lo : Nat} {D : va_G} {cI cZ : ClassId} {ads : Nat → Nat} {A : Nat → Prop} {w : zSt → va_W} {G : zSt → Prop} {av : List Value} {S : zSt} {r : zRx} (hy : plainName y.cls = true) (hst : l.stackTraces = false) (hD : ∀ S, va_D A (w S)) (hG : G S) (hlen : (lg_sl av).length ≤ maxL)
    (body : ∀ Γ : zG, zF Γ w cI cZ cc (zroom fr lo r) maxL y.cls → zX Γ ads → zQr Γ w G ret r → zk Γ w G S (lv_args 0 av) 0 []) : zMr l y cc maxL ret fr lo D cI cZ ads A w G av S r := by
  cases r with
  | inl q =>
    cases ret with
    | some ty =>
      refine Met.ofW (cc := cc) (maxL := maxL) (ret := some ty) hy rfl ?_
      intro p e s m args below meth c s₁ B hml hv
      obtain ⟨rfl, hP, hK, hT⟩ := hv
      have hts := atoms_spec (ws := .code y cc maxL (some ty) :: WS) B.pre
      have hown : s.vm.findClass y.cls = some m.cls := findClass_of_methodNamed B.named
      have hl := lv_entry av (n := maxL) hlen
      rw [lg_entry_eq]
      exact body (p, l, e, _, s, m, _, below, meth, c, _, D, A, 0, 0, maxL) ⟨B.exec, B.bytes, hml, hown, fun w hw => hts w (List.mem_cons_of_mem _ hw), hK, hD, rfl, Nat.zero_le _, Nat.zero_le _, rfl⟩ ⟨hst, hT⟩ ⟨rfl, rfl, rfl, B.returns, B.notSynchronized⟩ hG s.heap [] _ hP va_S.rf hl
    | none =>
      refine Met.ofW (cc := cc) (maxL := maxL) (ret := none) hy rfl ?_
      intro p e s m args below meth c s₁ B hml hv
      obtain ⟨rfl, hP, hK, hT⟩ := hv
      have hts := atoms_spec (ws := .code y cc maxL none :: WS) B.pre
      have hown : s.vm.findClass y.cls = some m.cls := findClass_of_methodNamed B.named
      have hl := lv_entry av (n := maxL) hlen
      rw [lg_entry_eq]
      exact body (p, l, e, _, s, m, _, below, meth, c, _, D, A, 0, 0, maxL) ⟨B.exec, B.bytes, hml, hown, fun w hw => hts w (List.mem_cons_of_mem _ hw), hK, hD, rfl, Nat.zero_le _, Nat.zero_le _, rfl⟩ ⟨hst, hT⟩ ⟨rfl, rfl, rfl, B.returns, B.notSynchronized⟩ hG s.heap [] _ hP va_S.rf hl
  | inr q =>
    refine vx_ofW (cc := cc) (maxL := maxL) (ret := ret) hy rfl ?_
    intro p e s m args below meth c s₁ B hml htab hv
    obtain ⟨rfl, hP, hK, hT⟩ := hv
    have hts := atoms_spec (ws := .code y cc maxL ret :: WS) B.pre
    have hown : s.vm.findClass y.cls = some m.cls := findClass_of_methodNamed B.named
    have hl := lv_entry av (n := maxL) hlen
    rw [lg_entry_eq]
    exact body (p, l, e, _, s, m, _, below, meth, c, _, D, A, 0, 0, maxL) ⟨B.exec, B.bytes, hml, hown, fun w hw => hts w (List.mem_cons_of_mem _ hw), hK, hD, rfl, Nat.zero_le _, Nat.zero_le _, rfl⟩ ⟨hst, hT⟩ (by cases ret <;> exact ⟨rfl, rfl, rfl, htab, B.notSynchronized⟩) hG s.heap [] _ hP va_S.rf hl
theorem k_ldcw {Γ : zG} {w : zSt → va_W} {cI cZ : ClassId} {cc : ByteArray} {rm : Room} {nL' : Nat} {own : String} {G : zSt → Prop} {S : zSt} {lv : List (Nat × Value)} {pc : Nat} {st : List Value} (F : zF Γ w cI cZ cc rm nL' own) {n : Int} {idx : Nat} {v : Int32} (hc : Cond.constant own idx v ∈ WS) (hv : v = zI n) (hd : decode cc pc = .ok (.ldc_w idx, 3)) (kk : zk Γ w G S lv (pc + 3) (.int (zI n) :: st)) : zk Γ w G S lv pc st := by
  obtain ⟨p, l, e, R, s, m, args, below, meth, c, Q, D, A, k0, n0, nL⟩ := Γ
  obtain ⟨hx, hb, hml, hown, hts, ⟨hK, hN⟩, hD, rfl, hk0, hn0, rfl⟩ := F
  intro hG H locs ls hP hS hh
  subst hv
  exact lv_ldcw hx hb hown (hts _ hc) hd (kk hG H locs ls hP hS hh)
def zThr (ik ic : Nat) (E : String) : Prop := Cond.classLink RX8 ik E ∈ WS ∧ Cond.initialized E ∈ WS ∧ (∀ w ∈ (vx_atS RX8 ic E zNMS).filter goodWord, w ∈ WS) ∧ (∀ w ∈ (vx_atS RX8 ic E zNMS).filter (fun w => !goodWord w), w ∈ zCAS.map (fun q => Cond.castable q q) ++ zDEC.map Cond.declares) ∧ (∀ w ∈ Cond.classLink RX8 ik E :: Cond.initialized E :: vx_atS RX8 ic E zNMS, vx_ot w = true) ∧ Bundle.fit E = true ∧ ∀ n ∈ zNMS, Bundle.fit n = true
theorem zthr_IAE0 : ∀ w ∈ (vx_atS RX8 287 "java/lang/IllegalArgumentException" zNMS).filter goodWord, w ∈ lw_tbl := by decide +kernel
theorem zthr_IAE : zThr 283 287 "java/lang/IllegalArgumentException" := ⟨wm_8, wm_9, fun w h => List.mem_filter.mpr ⟨zthr_IAE0 w h, (List.mem_filter.mp h).2⟩, by decide +kernel, by decide +kernel, by decide +kernel, by decide +kernel⟩
theorem zthr_ISE0 : ∀ w ∈ (vx_atS RX8 70 "java/lang/IllegalStateException" zNMS).filter goodWord, w ∈ lw_tbl := by decide +kernel
theorem zthr_ISE : zThr 66 70 "java/lang/IllegalStateException" := ⟨wm_10, wm_11, fun w h => List.mem_filter.mpr ⟨zthr_ISE0 w h, (List.mem_filter.mp h).2⟩, by decide +kernel, by decide +kernel, by decide +kernel, by decide +kernel⟩
theorem zthr_IOB0 : ∀ w ∈ (vx_atS RX8 103 "java/lang/IndexOutOfBoundsException" zNMS).filter goodWord, w ∈ lw_tbl := by decide +kernel
theorem zthr_IOB : zThr 99 103 "java/lang/IndexOutOfBoundsException" := ⟨wm_12, wm_13, fun w h => List.mem_filter.mpr ⟨zthr_IOB0 w h, (List.mem_filter.mp h).2⟩, by decide +kernel, by decide +kernel, by decide +kernel, by decide +kernel⟩
def zbx {R : Type} (x : Option zRx) (k : Int → zSt → Option (R ⊕ (String × zSt))) : Option (R ⊕ (String × zSt)) := match x with
  | none => none
  | some (.inl q) => k q.1 q.2
  | some (.inr e) => some (.inr e)
theorem zbx_e {R : Type} {x : Option zRx} {k : Int → zSt → Option (R ⊕ (String × zSt))} {r : R ⊕ (String × zSt)} (h : zbx x k = some r) : (∃ q : zRes, x = some (.inl q) ∧ k q.1 q.2 = some r) ∨ ∃ e, x = some (.inr e) ∧ r = .inr e := by
  match x, h with
  | some (.inl q), h => exact Or.inl ⟨q, rfl, h⟩
  | some (.inr e), h => exact Or.inr ⟨e, rfl, (Option.some.inj h).symm⟩
section RowsX
variable {Γ : zG} {w : zSt → va_W} {cI cZ : ClassId} {cc : ByteArray} {fr lo nL' : Nat} {own : String} {G : zSt → Prop} {S : zSt} {lv : List (Nat × Value)} {pc : Nat} {st : List Value} {ads : Nat → Nat} {ret : Option FieldType} {r : zRx}
theorem k_iretX (F : zF Γ w cI cZ cc (zroom fr lo r) nL' own) {v : Int} (hQ : zQr Γ w G (some .int) r) (hv : inR v) (hd : decode cc pc = .ok (.ireturn, 1)) (h : some (Sum.inl (v, S)) = some r) : zk Γ w G S lv pc [.int (zI v)] := by
  cases h
  exact k_iret F hQ hv hd rfl
theorem k_zretX (F : zF Γ w cI cZ cc (zroom fr lo r) nL' own) {v : Int} (hQ : zQr Γ w G (some .boolean) r) (hv : v = 0 ∨ v = 1) (hd : decode cc pc = .ok (.ireturn, 1)) (h : some (Sum.inl (v, S)) = some r) : zk Γ w G S lv pc [.int (zI v)] := by
  cases h
  exact k_zret F hQ hv hd rfl
theorem k_vretX (F : zF Γ w cI cZ cc (zroom fr lo r) nL' own) (hQ : zQr Γ w G none r) (hd : decode cc pc = .ok (.return_, 1)) (h : some (Sum.inl ((0 : Int), S)) = some r) : zk Γ w G S lv pc [] := by
  cases h
  exact k_vret (x := 0) F hQ hd rfl
theorem k_throwS (F : zF Γ w cI cZ cc (zroom fr lo r) nL' RX8) (X : zX Γ ads) (hQ : zQr Γ w G ret r) {E text : String} {ik is ic : Nat} (ht : zThr ik ic E) (hs : (is, text) ∈ zSTR) (hfr : 5 < fr) (hlo : (st.map fun v => v.category).sum + 82 ≤ lo)
    (d0 : decode cc pc = .ok (.new ik, 3)) (d3 : decode cc (pc + 3) = .ok (.dup, 1)) (d4 : decode cc (pc + 4) = .ok (.ldc is, 2)) (d6 : decode cc (pc + 6) = .ok (.invokespecial ic, 3)) (d9 : decode cc (pc + 9) = .ok (.athrow, 1)) (h : some (Sum.inr (E, S)) = some r) : zk Γ w G S lv pc st := by
  cases h
  obtain ⟨p, l, e, R, s, m, args, below, meth, c, Q, D, A, k0, n0, nL⟩ := Γ
  obtain ⟨hx, hb, hml, hown, hts, ⟨hK, hN⟩, hD, rfl, hk0, hn0, rfl⟩ := F
  have hQ : zQx (p, l, e, zroom fr lo (Sum.inr (E, S)), s, m, args, below, meth, c, Q, D, A, k0, n0, nL) w G E S := by cases ret <;> exact hQ
  obtain ⟨rfl, rfl, rfl, htab, hlk⟩ := hQ
  obtain ⟨hst, hU, hNN, hSt, hCa, hDe⟩ := X
  obtain ⟨t1, t2, t3, t4, t5, t6, t7⟩ := ht
  intro hG H locs ls hP hS hh
  have hat : ∀ w ∈ vx_atS RX8 ic E zNMS, w.before args s = true := vx_hat (fun w h => hts w (t3 w h)) t4 (fun w hw => by
    rcases List.mem_append.mp hw with hw | hw
    · obtain ⟨q, hq, rfl⟩ := List.mem_map.mp hw
      exact va_Nw.use rfl (hCa q hq)
    · obtain ⟨q, hq, rfl⟩ := List.mem_map.mp hw
      exact va_Nw.use rfl (hDe q hq))
  refine vx_throwS (names := zNMS) (text := text) hx hb hst hown t6 t7 (hts _ t1) (hts _ t2) (hSt _ hs) hat t5 hU hNN hS (hh.1.trans hml.symm) d0 d3 d4 d6 d9 (fun x hx => (htab x hx).elim) hfr (by exact hlo) (Nat.le_refl 1) (Nat.le_refl 6) hlk (fun t hvm hz hk => ?_) hS.2.2 (Nat.le_refl 1) (Nat.le_refl 6)
  refine ⟨(), hG, ⟨rfl, fun k q hq => (hP k q hq).kept (hk _ (hP k q hq).lt)⟩, Nat.le_trans hS.1 hz, fun q h1 h2 => ?_⟩
  rw [hk q (Nat.lt_of_lt_of_le h1 hS.1)]
  exact hS.2.1 q h1 h2
theorem k_throwW (F : zF Γ w cI cZ cc (zroom fr lo r) nL' RX8) (X : zX Γ ads) (hQ : zQr Γ w G ret r) {E text : String} {ik is ic : Nat} (ht : zThr ik ic E) (hs : (is, text) ∈ zSTR) (hfr : 5 < fr) (hlo : (st.map fun v => v.category).sum + 82 ≤ lo)
    (d0 : decode cc pc = .ok (.new ik, 3)) (d3 : decode cc (pc + 3) = .ok (.dup, 1)) (d4 : decode cc (pc + 4) = .ok (.ldc_w is, 3)) (d6 : decode cc (pc + 7) = .ok (.invokespecial ic, 3)) (d9 : decode cc (pc + 10) = .ok (.athrow, 1)) (h : some (Sum.inr (E, S)) = some r) : zk Γ w G S lv pc st := by
  cases h
  obtain ⟨p, l, e, R, s, m, args, below, meth, c, Q, D, A, k0, n0, nL⟩ := Γ
  obtain ⟨hx, hb, hml, hown, hts, ⟨hK, hN⟩, hD, rfl, hk0, hn0, rfl⟩ := F
  have hQ : zQx (p, l, e, zroom fr lo (Sum.inr (E, S)), s, m, args, below, meth, c, Q, D, A, k0, n0, nL) w G E S := by cases ret <;> exact hQ
  obtain ⟨rfl, rfl, rfl, htab, hlk⟩ := hQ
  obtain ⟨hst, hU, hNN, hSt, hCa, hDe⟩ := X
  obtain ⟨t1, t2, t3, t4, t5, t6, t7⟩ := ht
  intro hG H locs ls hP hS hh
  have hat : ∀ w ∈ vx_atS RX8 ic E zNMS, w.before args s = true := vx_hat (fun w h => hts w (t3 w h)) t4 (fun w hw => by
    rcases List.mem_append.mp hw with hw | hw
    · obtain ⟨q, hq, rfl⟩ := List.mem_map.mp hw
      exact va_Nw.use rfl (hCa q hq)
    · obtain ⟨q, hq, rfl⟩ := List.mem_map.mp hw
      exact va_Nw.use rfl (hDe q hq))
  refine vx_throwSW (names := zNMS) (text := text) hx hb hst hown t6 t7 (hts _ t1) (hts _ t2) (hSt _ hs) hat t5 hU hNN hS (hh.1.trans hml.symm) d0 d3 d4 d6 d9 (fun x hx => (htab x hx).elim) hfr (by exact hlo) (Nat.le_refl 1) (Nat.le_refl 6) hlk (fun t hvm hz hk => ?_) hS.2.2 (Nat.le_refl 1) (Nat.le_refl 6)
  refine ⟨(), hG, ⟨rfl, fun k q hq => (hP k q hq).kept (hk _ (hP k q hq).lt)⟩, Nat.le_trans hS.1 hz, fun q h1 h2 => ?_⟩
  rw [hk q (Nat.lt_of_lt_of_le h1 hS.1)]
  exact hS.2.1 q h1 h2
theorem k_callXV (F : zF Γ w cI cZ cc (zroom fr lo r) nL' own) (X : zX Γ ads) (hQ : zQr Γ w G ret r) {y : MethodName} {cy : ByteArray} {mL n idx fr2 lo2 : Nat} {As : List Value} {K : Int → zSt → Option zRx} {x0 : Option zRx} {C : String} {a : Nat} (hc : zCal C y cy mL none n) (hl : Cond.methodLink own idx y ∈ WS) (ho : zOb w a C)
    (hM : ∀ (l : Launch) (D : va_G) (A : Nat → Prop), l.stackTraces = false → (∀ S, va_D A (w S)) → G S → ∀ r', x0 = some r' → zMr l y cy mL none fr2 lo2 D cI cZ ads A w G (.ref a :: As) S r')
    (hR : fr2 + 1 ≤ fr ∧ 8 + (mL + 11) + lo2 ≤ lo) (hn : As.length = n) {st0 : List Value} (hst0 : st0 = As.reverse ++ .ref a :: st) (hW : (st.map fun v => v.category).sum ≤ 8) (hd : decode cc pc = .ok (.invokevirtual idx, 3)) (h : zbx x0 K = some r) (kk : ∀ x S, K x S = some r → zk Γ w G S lv (pc + 3) st) : zk Γ w G S lv pc st0 := by
  obtain ⟨p, l, e, R, s, m, args, below, meth, c, Q, D, A, k0, n0, nL⟩ := Γ
  have X' := X
  obtain ⟨hst, hT⟩ := X
  obtain ⟨c1, c2, c3, c4, c5, c6, c7⟩ := hc
  have hg : GoodIn WS (wsV own idx C y (Cond.code y cy mL none :: WS)) := WS_sub (fun _ h => h) (fun w hw => by
    simp only [wsV, List.mem_append, List.mem_cons, List.not_mem_nil, or_false] at hw
    rcases hw with (rfl | rfl | rfl | rfl) | rfl | hw
    · exact hl
    · exact c1
    · exact c2
    · exact c3
    · exact c4
    · exact hw)
  rcases zbx_e h with ⟨q, h1, h2⟩ | ⟨q, h1, rfl⟩
  · obtain ⟨hx, hb, hml, hown, hts, ⟨hK, hN⟩, hD, rfl, hk0, hn0, rfl⟩ := F
    intro hG H locs ls hP hS hh
    have hpc : ∀ U : State, U.heap = H → s.WarmedH U.vm → zPc D cI cZ ads A w (.ref a :: As) S (Value.ref a :: As).toArray U := fun U hU hW => ⟨rfl, by rw [hU]; exact hP, zK.warm hW ⟨hK, hN⟩, zT.go hW (by rw [hU]; exact hS.2.1) hT⟩
    subst hst0
    refine va_callv (va_runV (As := As) (rest := st) ⟨hx, hb, hml, hown, hts⟩ (hM l D A hst hD hG (.inl q) h1) (cwV n hts hg rfl rfl rfl ⟨c5, c6.1, c6.2, c7⟩ ⟨hR.1, hR.2⟩) ⟨zPc.blind, ho.recv hK hP, hpc⟩ rfl hn hh.1 rfl (lv_room hW) hd ⟨hk0, hn0⟩) hS (fun q _ h => h) (fun q h => h) (fun u t H1 locs1 ht hvm hw hB hz1 hk1 hS1 => ?_)
    rw [ht] at hB
    exact kk q.1 q.2 h2 hw H1 locs1 ls hB hS1 hh
  · have hQ : zQx (p, l, e, R, s, m, args, below, meth, c, Q, D, A, k0, n0, nL) w G q.1 q.2 := by cases ret <;> exact hQ
    obtain ⟨hx, hb, hml, hown, hts, ⟨hK, hN⟩, hD, rfl, hk0, hn0, rfl⟩ := F
    obtain ⟨rfl, rfl, rfl, htab, hlk⟩ := hQ
    intro hG H locs ls hP hS hh
    have hpc : ∀ U : State, U.heap = H → s.WarmedH U.vm → zPc D cI cZ ads A w (.ref a :: As) S (Value.ref a :: As).toArray U := fun U hU hW => ⟨rfl, by rw [hU]; exact hP, zK.warm hW ⟨hK, hN⟩, zT.go hW (by rw [hU]; exact hS.2.1) hT⟩
    subst hst0
    refine vx_callv (vx_runV (As := As) (rest := st) ⟨hx, hb, hml, hown, hts⟩ (hM l D A hst hD hG (.inr q) h1) (cwV n hts hg rfl rfl rfl ⟨c5, c6.1, c6.2, c7⟩ ⟨hR.1, hR.2⟩) ⟨zPc.blind, ho.recv hK hP, hpc⟩ rfl hn hh.1 rfl (lv_room hW) hd ⟨Nat.le_refl 1, Nat.le_refl 6⟩) hS (fun q _ h => h) (fun q h => h) (fun q _ h => h) (fun E ce q9 u t H1 locs1 ht hvm hw hB hz1 hk1 hS1 hce hcv hcl => ?_) (fun u t H1 locs1 ht hvm hw hB hz1 hk1 hS1 => hw.elim)
    rw [ht] at hB
    obtain ⟨rfl, hB⟩ := hB
    exact vx_out (fun x hx => (htab x hx).elim) hlk hce hcv hcl (fun t2 ht2 hv2 => ⟨(), hw, ⟨rfl, by rw [ht2]; exact hB⟩, hS1.F ht2⟩) hS1.2.2 (Nat.le_refl 1) (Nat.le_refl 6)
theorem k_callXS (F : zF Γ w cI cZ cc (zroom fr lo r) nL' own) (X : zX Γ ads) (hQ : zQr Γ w G ret r) {y : MethodName} {cy : ByteArray} {mL n idx fr2 lo2 : Nat} {As : List Value} {K : Int → zSt → Option zRx} {x0 : Option zRx} {C : String} (hc : zCas C y cy mL none n) (hl : Cond.methodLink own idx y ∈ WS)
    (hM : ∀ (l : Launch) (D : va_G) (A : Nat → Prop), l.stackTraces = false → (∀ S, va_D A (w S)) → G S → ∀ r', x0 = some r' → zMr l y cy mL none fr2 lo2 D cI cZ ads A w G As S r')
    (hR : fr2 + 1 ≤ fr ∧ 8 + (mL + 11) + lo2 ≤ lo) (hn : As.length = n) {st0 : List Value} (hst0 : st0 = As.reverse ++ st) (hW : (st.map fun v => v.category).sum ≤ 8) (hd : decode cc pc = .ok (.invokestatic idx, 3)) (h : zbx x0 K = some r) (kk : ∀ x S, K x S = some r → zk Γ w G S lv (pc + 3) st) : zk Γ w G S lv pc st0 := by
  obtain ⟨p, l, e, R, s, m, args, below, meth, c, Q, D, A, k0, n0, nL⟩ := Γ
  have X' := X
  obtain ⟨hst, hT⟩ := X
  obtain ⟨c1, c3, c4, c5, c6, c7⟩ := hc
  have hg : GoodIn WS (Cond.code y cy mL none :: WS) := WS_sub (fun _ h => h) (fun w hw => by
    simp only [List.mem_cons] at hw
    rcases hw with rfl | hw
    · exact c4
    · exact hw)
  rcases zbx_e h with ⟨q, h1, h2⟩ | ⟨q, h1, rfl⟩
  · obtain ⟨hx, hb, hml, hown, hts, ⟨hK, hN⟩, hD, rfl, hk0, hn0, rfl⟩ := F
    intro hG H locs ls hP hS hh
    have hpc : ∀ U : State, U.heap = H → s.WarmedH U.vm → zPc D cI cZ ads A w As S As.toArray U := fun U hU hW => ⟨rfl, by rw [hU]; exact hP, zK.warm hW ⟨hK, hN⟩, zT.go hW (by rw [hU]; exact hS.2.1) hT⟩
    subst hst0
    refine va_callv (va_runS (As := As) (rest := st) ⟨hx, hb, hml, hown, hts⟩ (hM l D A hst hD hG (.inl q) h1) ⟨callB_of n hts hg rfl rfl rfl (by rw [c5]; exact hts _ c3) (hts _ hl) ⟨c6.1, c6.2, c7⟩ ⟨hR.1, hR.2⟩, hts _ c1⟩ ⟨zPc.blind, hpc⟩ rfl hn hh.1 rfl (lv_room hW) hd ⟨hk0, hn0⟩) hS (fun q _ h => h) (fun q h => h) (fun u t H1 locs1 ht hvm hw hB hz1 hk1 hS1 => ?_)
    rw [ht] at hB
    exact kk q.1 q.2 h2 hw H1 locs1 ls hB hS1 hh
  · have hQ : zQx (p, l, e, R, s, m, args, below, meth, c, Q, D, A, k0, n0, nL) w G q.1 q.2 := by cases ret <;> exact hQ
    obtain ⟨hx, hb, hml, hown, hts, ⟨hK, hN⟩, hD, rfl, hk0, hn0, rfl⟩ := F
    obtain ⟨rfl, rfl, rfl, htab, hlk⟩ := hQ
    intro hG H locs ls hP hS hh
    have hpc : ∀ U : State, U.heap = H → s.WarmedH U.vm → zPc D cI cZ ads A w As S As.toArray U := fun U hU hW => ⟨rfl, by rw [hU]; exact hP, zK.warm hW ⟨hK, hN⟩, zT.go hW (by rw [hU]; exact hS.2.1) hT⟩
    subst hst0
    refine vx_callv (vx_runS (As := As) (rest := st) ⟨hx, hb, hml, hown, hts⟩ (hM l D A hst hD hG (.inr q) h1) ⟨callB_of n hts hg rfl rfl rfl (by rw [c5]; exact hts _ c3) (hts _ hl) ⟨c6.1, c6.2, c7⟩ ⟨hR.1, hR.2⟩, hts _ c1⟩ ⟨zPc.blind, hpc⟩ rfl hn hh.1 rfl (lv_room hW) hd ⟨Nat.le_refl 1, Nat.le_refl 6⟩) hS (fun q _ h => h) (fun q h => h) (fun q _ h => h) (fun E ce q9 u t H1 locs1 ht hvm hw hB hz1 hk1 hS1 hce hcv hcl => ?_) (fun u t H1 locs1 ht hvm hw hB hz1 hk1 hS1 => hw.elim)
    rw [ht] at hB
    obtain ⟨rfl, hB⟩ := hB
    exact vx_out (fun x hx => (htab x hx).elim) hlk hce hcv hcl (fun t2 ht2 hv2 => ⟨(), hw, ⟨rfl, by rw [ht2]; exact hB⟩, hS1.F ht2⟩) hS1.2.2 (Nat.le_refl 1) (Nat.le_refl 6)
end RowsX
end
section
/-! CONSTRUCTORS -/
def zAC (h0 sz : Nat) : Nat → Prop := fun q => q = h0 ∨ sz ≤ q
def zc (Γ : zG) (k n : Nat) (ws : va_W) (lv : List (Nat × Value)) (pc : Nat) (st : List Value) : Prop :=
  match Γ with
  | (p, l, e, R, s, m, args, below, meth, c, Q, D, A, _, _, nL) => ∀ (H : Heap) (locs : List Loc) (ls : Array Slot), va_P D vwCl ws H → va_D A ws → va_S A s.heap H locs → lv_has ls nL lv → W p l e R s m args below meth c H locs k n Q (F0 m pc ls st)
def zCF (Γ : zG) (cI cZ : ClassId) (cc : ByteArray) (rm : Room) (nL' : Nat) (own : String) : Prop :=
  match Γ with
  | (p, _, _, R, s, m, args, _, meth, c, _, D, A, _, _, nL) => p.tables.exec = Jvm.exec ∧ c.code = cc ∧ c.maxLocals = nL ∧ s.vm.findClass own = some m.cls ∧ (∀ w ∈ WS, w.before args s = true) ∧ zK D cI cZ s ∧ R = rm ∧ nL = nL' ∧ (∀ q, s.heap.size ≤ q → A q) ∧ meth.name = "<init>"
def zCt (l : Launch) (y : MethodName) (cy : ByteArray) (mL : Nat) (rm : Room) (D : va_G) (cI cZ : ClassId) (ci : Nat) (fs0 : List Value) (W0 : (Nat → Nat) → va_W) (mc ms : Nat) : Prop :=
  ∀ (h0 sz : Nat), Met l y (.code y cy mL none :: WS) rm (va_Pc [.ref h0] (fun U => U.heap.size = sz ∧ va_P D vwCl [(h0, .inr (ci, fs0))] U.heap ∧ zK D cI cZ U)) (va_Qv (S := Nat → Nat) (fun ad => ad 0 = h0) (fun ad t => va_P D vwCl (W0 ad) t.heap ∧ va_D (zAC h0 sz) (W0 ad)) (zAC h0 sz)) mc ms (zAC h0 sz)
def zCQ (Γ : zG) (h0 : Nat) (W0 : (Nat → Nat) → va_W) (mc ms : Nat) : Prop :=
  match Γ with
  | (_, _, _, _, s, _, args, below, meth, _, Q, D, A, _, _, _) => Q = MQ below (va_Qv (S := Nat → Nat) (fun ad => ad 0 = h0) (fun ad t => va_P D vwCl (W0 ad) t.heap ∧ va_D (zAC h0 s.heap.size) (W0 ad)) (zAC h0 s.heap.size)) args s mc ms (zAC h0 s.heap.size) ∧ meth.sig.returnType = none ∧ meth.locks = false ∧ A = zAC h0 s.heap.size
theorem c_start {l : Launch} {y : MethodName} {cc : ByteArray} {maxL : Nat} {rm : Room} {D : va_G} {cI cZ : ClassId} {ci : Nat} {fs0 : List Value} {W0 : (Nat → Nat) → va_W} {mc ms : Nat} (hy : plainName y.cls = true) (hn : y.name = "<init>") (hlen : 1 ≤ maxL)
    (body : ∀ (Γ : zG) (h0 : Nat), zCF Γ cI cZ cc rm maxL y.cls → zCQ Γ h0 W0 mc ms → zc Γ 0 0 [(h0, .inr (ci, fs0))] [(0, .ref h0)] 0 []) : zCt l y cc maxL rm D cI cZ ci fs0 W0 mc ms := by
  intro h0 sz
  refine Met.ofW (cc := cc) (maxL := maxL) (ret := none) hy rfl ?_
  intro p e s m args below meth c s₁ B hml hv
  obtain ⟨rfl, rfl, hP, hK⟩ := hv
  have hts := atoms_spec (ws := .code y cc maxL none :: WS) B.pre
  have hown : s.vm.findClass y.cls = some m.cls := findClass_of_methodNamed B.named
  have hin : meth.name = "<init>" := (name_of_methodNamed B.named B.method).1.trans hn
  have hl := lv_entry [.ref h0] (n := maxL) hlen
  rw [lg_entry_eq]
  refine body (p, l, e, _, s, m, _, below, meth, c, _, D, zAC h0 s.heap.size, 0, 0, maxL) h0 ⟨B.exec, B.bytes, hml, hown, fun w hw => hts w (List.mem_cons_of_mem _ hw), hK, rfl, rfl, fun q h => Or.inr h, hin⟩ ⟨rfl, B.returns, B.notSynchronized, rfl⟩ s.heap [] _ hP ⟨fun i j p q hp hq _ => ?_, fun k q hq => ?_⟩ va_S.rf hl
  · have h1 : i < 1 := (List.getElem?_eq_some_iff.mp hp).1
    have h2 : j < 1 := (List.getElem?_eq_some_iff.mp hq).1
    omega
  · have h1 : k < 1 := (List.getElem?_eq_some_iff.mp hq).1
    rw [show k = 0 by omega] at hq
    cases hq
    exact Or.inl rfl
theorem zjoinC {D : va_G} {A : Nat → Prop} {ws w1 : va_W} {x : Nat × va_E} {H H1 : Heap} (hP : va_P D vwCl (ws ++ [x]) H) (hD : va_D A (ws ++ [x])) (hk : ∀ q : Nat, q < H.size → ¬ zAC x.1 H.size q → H1[q]? = H[q]?) (hF : ∀ q, zAC x.1 H.size q → A q) (hP1 : va_P D vwCl w1 H1) (hD1 : va_D (zAC x.1 H.size) w1) : va_P D vwCl (ws ++ w1) H1 ∧ va_D A (ws ++ w1) := by
  have up : ∀ {k : Nat} {q : Nat × va_E}, ws[k]? = some q → (ws ++ [x])[k]? = some q := fun {k q} h => by
    rw [List.getElem?_append_left (List.getElem?_eq_some_iff.mp h).1]; exact h
  have hx : (ws ++ [x])[ws.length]? = some x := by
    rw [List.getElem?_append_right (Nat.le_refl _), Nat.sub_self]; rfl
  have apart : ∀ {k : Nat} {q : Nat × va_E}, ws[k]? = some q → q.1 < H.size ∧ ¬ zAC x.1 H.size q.1 := by
    intro k q h
    have hl := (hP k q (up h)).lt
    refine ⟨hl, fun z => ?_⟩
    rcases z with z | z
    · have e := hD.1 k ws.length q x (up h) hx z
      have := (List.getElem?_eq_some_iff.mp h).1
      omega
    · omega
  refine ⟨va_P.app (fun k q hq => ?_) hP1, va_D.app ⟨fun i j p q hp hq e => hD.1 i j p q (up hp) (up hq) e, fun k q hq => hD.2 k q (up hq)⟩ (hD1.weaken (fun k q _ h => hF q.1 h)) (fun i j a b ha hb hab => ?_)⟩
  · obtain ⟨g1, g2⟩ := apart hq
    exact (hP k q (up hq)).kept (hk q.1 g1 g2)
  · exact (apart ha).2 (by rw [hab]; exact hD1.2 j b hb)
section RowsC
variable {Γ : zG} {cI cZ : ClassId} {cc : ByteArray} {rm : Room} {nL' : Nat} {own : String} {k n : Nat} {ws : va_W} {lv : List (Nat × Value)} {pc : Nat} {st : List Value}
theorem c_oi (F : zCF Γ cI cZ cc rm nL' own) {idx h0 j : Nat} (hl : Cond.methodLink own idx objectInit ∈ WS) (hi : Cond.instanceMethod objectInit ∈ WS) (hc : Cond.code objectInit ⟨#[0xb1]⟩ 1 none ∈ WS) (hlv : lv[j]? = some (0, .ref h0)) (hfr : 1 ≤ rm.frames) (hlo : 12 ≤ rm.locals) (d0 : decode cc pc = .ok (.aload_n 0, 1)) (d1 : decode cc (pc + 1) = .ok (.invokespecial idx, 3)) (kk : zc Γ (k) (n) (ws) lv (pc + 1 + 3) ([])) : zc Γ (k) (n) (ws) lv (pc) ([]) := by
  obtain ⟨p, l, e, R, s, m, args, below, meth, c, Q, D, A, k0, n0, nL⟩ := Γ
  obtain ⟨hx, hb, hml, hown, hts, ⟨hK, hN⟩, rfl, rfl, hA, hin⟩ := F
  intro H locs ls hP hD hS hh
  refine lv_aload_n hx hb d0 rfl (lv_at hh j hlv) ?_
  refine W.objInit hx hb hown (hts _ hl) (hts _ hi) (hts _ hc) rfl (by rw [hml]; exact hh.1) rfl d1 hfr hlo ?_
  exact kk H locs ls hP hD hS hh
theorem c_aload0 (F : zCF Γ cI cZ cc rm nL' own) {h0 j : Nat} (hlv : lv[j]? = some (0, .ref h0)) (d0 : decode cc pc = .ok (.aload_n 0, 1)) (kk : zc Γ (k) (n) (ws) lv (pc + 1) (.ref h0 :: st)) : zc Γ (k) (n) (ws) lv (pc) (st) := by
  obtain ⟨p, l, e, R, s, m, args, below, meth, c, Q, D, A, k0, n0, nL⟩ := Γ
  obtain ⟨hx, hb, hml, hown, hts, ⟨hK, hN⟩, rfl, rfl, hA, hin⟩ := F
  intro H locs ls hP hD hS hh
  exact lv_aload_n hx hb d0 rfl (lv_at hh j hlv) (kk H locs ls hP hD hS hh)
theorem c_bipush (F : zCF Γ cI cZ cc rm nL' own) {v : Int} (hv : (Int8.ofInt v).toInt32 = zI v) (d0 : decode cc pc = .ok (.bipush v, 2)) (kk : zc Γ (k) (n) (ws) lv (pc + 2) (.int (zI v) :: st)) : zc Γ (k) (n) (ws) lv (pc) (st) := by
  obtain ⟨p, l, e, R, s, m, args, below, meth, c, Q, D, A, k0, n0, nL⟩ := Γ
  obtain ⟨hx, hb, hml, hown, hts, ⟨hK, hN⟩, rfl, rfl, hA, hin⟩ := F
  intro H locs ls hP hD hS hh
  exact lv_bipush hx hb d0 hv (kk H locs ls hP hD hS hh)
theorem c_sipush (F : zCF Γ cI cZ cc rm nL' own) {v : Int} (hv : (Int16.ofInt v).toInt32 = zI v) (d0 : decode cc pc = .ok (.sipush v, 3)) (kk : zc Γ (k) (n) (ws) lv (pc + 3) (.int (zI v) :: st)) : zc Γ (k) (n) (ws) lv (pc) (st) := by
  obtain ⟨p, l, e, R, s, m, args, below, meth, c, Q, D, A, k0, n0, nL⟩ := Γ
  obtain ⟨hx, hb, hml, hown, hts, ⟨hK, hN⟩, rfl, rfl, hA, hin⟩ := F
  intro H locs ls hP hD hS hh
  exact lv_sipush hx hb d0 hv (kk H locs ls hP hD hS hh)
theorem c_dup (F : zCF Γ cI cZ cc rm nL' own) {v : Value} (hv : v.category = 1) (d0 : decode cc pc = .ok (.dup, 1)) (kk : zc Γ (k) (n) (ws) lv (pc + 1) (v :: v :: st)) : zc Γ (k) (n) (ws) lv (pc) (v :: st) := by
  obtain ⟨p, l, e, R, s, m, args, below, meth, c, Q, D, A, k0, n0, nL⟩ := Γ
  obtain ⟨hx, hb, hml, hown, hts, ⟨hK, hN⟩, rfl, rfl, hA, hin⟩ := F
  intro H locs ls hP hD hS hh
  exact lv_dup hx hb d0 hv (kk H locs ls hP hD hS hh)
theorem c_newI (F : zCF Γ cI cZ cc rm nL' own) {N : Nat} {v : Int} (harr : Cond.arrayClass .int ∈ WS) (hv : ¬ zI v < 0) (hN2 : (zI v).toNatClampNeg = N) (hby : N * 4 ≤ 536870912) (hc : k + 1 ≤ rm.cells) (hs : n + N ≤ rm.slots) (d0 : decode cc pc = .ok (.newarray .int, 2)) (kk : ∀ q, zc Γ (k + 1) (n + N) (ws ++ [(q, .inl (cI, N, .inl (zA (fun _ => 0))))]) lv (pc + 2) (.ref q :: st)) : zc Γ (k) (n) (ws) lv (pc) (.int (zI v) :: st) := by
  obtain ⟨p, l, e, R, s, m, args, below, meth, c, Q, D, A, k0, n0, nL⟩ := Γ
  obtain ⟨hx, hb, hml, hown, hts, ⟨hK, hN⟩, rfl, rfl, hA, hin⟩ := F
  intro H locs ls hP hD hS hh
  have hby2 : N * componentBytes .int ≤ 536870912 := Nat.le_trans (Nat.mul_le_mul_left N (show componentBytes .int ≤ 4 by decide)) hby
  refine va_newa (atype := .int) (ty := .int) (a0 := (N, .inl (zA (fun _ => 0)))) hx hb (hts _ harr) rfl hK hP hD hS hA (fun cA => rfl) hv hN2 hby2 hc hs d0 (fun q cA H1 hK1 hP1 hD1 hS1 => ?_)
  have e1 := (hK1.2 2 (cA, .int) rfl).2
  have e2 := (hK.2 0 (cI, .int) rfl).2
  have e3 : cA = cI := Option.some.inj (Eq.trans (Eq.symm e1) e2)
  rw [e3] at hP1 hD1
  exact kk q H1 locs ls hP1 hD1 hS1 hh
theorem c_newZ (F : zCF Γ cI cZ cc rm nL' own) {N : Nat} {v : Int} (harr : Cond.arrayClass .boolean ∈ WS) (hv : ¬ zI v < 0) (hN2 : (zI v).toNatClampNeg = N) (hby : N * 4 ≤ 536870912) (hc : k + 1 ≤ rm.cells) (hs : n + N ≤ rm.slots) (d0 : decode cc pc = .ok (.newarray .boolean, 2)) (kk : ∀ q, zc Γ (k + 1) (n + N) (ws ++ [(q, .inl (cZ, N, .inl (zA (fun _ => 0))))]) lv (pc + 2) (.ref q :: st)) : zc Γ (k) (n) (ws) lv (pc) (.int (zI v) :: st) := by
  obtain ⟨p, l, e, R, s, m, args, below, meth, c, Q, D, A, k0, n0, nL⟩ := Γ
  obtain ⟨hx, hb, hml, hown, hts, ⟨hK, hN⟩, rfl, rfl, hA, hin⟩ := F
  intro H locs ls hP hD hS hh
  have hby2 : N * componentBytes .boolean ≤ 536870912 := Nat.le_trans (Nat.mul_le_mul_left N (show componentBytes .boolean ≤ 4 by decide)) hby
  refine va_newa (atype := .boolean) (ty := .boolean) (a0 := (N, .inl (zA (fun _ => 0)))) hx hb (hts _ harr) rfl hK hP hD hS hA (fun cA => rfl) hv hN2 hby2 hc hs d0 (fun q cA H1 hK1 hP1 hD1 hS1 => ?_)
  have e1 := (hK1.2 2 (cA, .boolean) rfl).2
  have e2 := (hK.2 1 (cZ, .boolean) rfl).2
  have e3 : cA = cZ := Option.some.inj (Eq.trans (Eq.symm e1) e2)
  rw [e3] at hP1 hD1
  exact kk q H1 locs ls hP1 hD1 hS1 hh
theorem c_putR (F : zCF Γ cI cZ cc rm nL' own) {C : String} {T : u_T} {N ci idx a v : Nat} (q0 kf : Nat) {fs : List Value} (hin0 : ∀ w ∈ u_ws C T N, w ∈ WS) (he : ws[q0]? = some (a, .inr (ci, fs))) (hc : vwCl[ci]? = some (C, T, N)) (hk : kf < N) (hlink : (Cond.fieldLink own idx (T kf).1 (T kf).2.1 (T kf).2.2.1) ∈ WS) (ty0 : Nat → FieldType) (hty : ∀ k, k < N → parseFieldDescriptor (T k).2.2.1 = some (ty0 k)) (hnm : ∀ a, a < N → ∀ b, b < N → a ≠ b → (T a).2.1 ≠ (T b).2.1) (hfin : (T kf).2.2.2 = true) (hdecl : (T kf).1 = own) {ty : FieldType} (hI : parseFieldDescriptor (T kf).2.2.1 = some ty) (hn1 : narrow ty (.ref v) = .ref v) (hf : fits ty (.ref v) = true) (hl : kf < fs.length) {ws2 : va_W} (hw : ws.set q0 (a, .inr (ci, fs.set kf (.ref v))) = ws2) (d0 : decode cc pc = .ok (.putfield idx, 3)) (kk : zc Γ (k) (n) (ws2) lv (pc + 3) (st)) : zc Γ (k) (n) (ws) lv (pc) (.ref v :: .ref a :: st) := by
  obtain ⟨p, l, e, R, s, m, args, below, meth, c, Q, D, A, k0, n0, nL⟩ := Γ
  obtain ⟨hx, hb, hml, hown, hts, ⟨hK, hN⟩, rfl, rfl, hA, hin⟩ := F
  intro H locs ls hP hD hS hh
  subst hw
  exact va_putF hx hb hts hin0 ty0 hty hnm hown hK hP hD hS q0 he hc kf hk (hts _ hlink) (fun _ h9 => h9) hfin hin hdecl hI hn1 hf hl d0 (fun H1 locs1 hP1 hD1 hS1 => kk H1 locs1 ls hP1 hD1 hS1 hh)
theorem c_new (F : zCF Γ cI cZ cc rm nL' own) {C : String} {T : u_T} {N ci idx : Nat} (hin0 : ∀ w ∈ u_ws C T N, w ∈ WS) (ty : Nat → FieldType) (hty : ∀ k, k < N → parseFieldDescriptor (T k).2.2.1 = some (ty k)) (hcl : Cond.classLink own idx C ∈ WS) (hinst : Cond.instantiable C N ∈ WS) (hini : Cond.initialized C ∈ WS) (hc : vwCl[ci]? = some (C, T, N)) {fs : List Value} (hfs : ∀ j, j < N → defaultValue (ty j) = vp_V fs j) (h1 : k + 1 ≤ rm.cells) (h2 : n + N ≤ rm.slots) (d0 : decode cc pc = .ok (.new idx, 3)) (kk : ∀ q, zc Γ (k + 1) (n + N) (ws ++ [(q, .inr (ci, fs))]) lv (pc + 3) (.ref q :: st)) : zc Γ (k) (n) (ws) lv (pc) (st) := by
  obtain ⟨p, l, e, R, s, m, args, below, meth, c, Q, D, A, k0, n0, nL⟩ := Γ
  obtain ⟨hx, hb, hml, hown, hts, ⟨hK, hN⟩, rfl, rfl, hA, hin⟩ := F
  intro H locs ls hP hD hS hh
  exact va_new hx hb hts hin0 ty hty hown (hts _ hcl) (hts _ hinst) (hts _ hini) hK hP hD hS hA hc hfs h1 h2 d0 (fun q H1 hP1 hD1 hS1 => kk q H1 locs ls hP1 hD1 hS1 hh)
theorem c_ctor (F : zCF Γ cI cZ cc rm nL' own) {y : MethodName} {cy : ByteArray} {mL idx ci q mc ms : Nat} {host : String} {rm2 : Room} {fs0 : List Value} {W0 : (Nat → Nat) → va_W} (hi : Cond.instanceMethod y ∈ WS) (hini : Cond.initialized y.cls ∈ WS) (hco : Cond.code y cy mL none ∈ WS) (hl : (own, idx, y, host) ∈ NWt) (hy : y.name = "<init>") (hd2 : y.cls ≠ "java/lang/invoke/MethodHandle" ∧ y.cls ≠ "java/lang/invoke/VarHandle" ∧ (parseMethodDescriptor y.desc).map (fun d => d.parameters.length) = some 0) (hM : ∀ l D, zCt l y cy mL rm2 D cI cZ ci fs0 W0 mc ms) (hR : rm2.cells = mc ∧ rm2.slots = ms ∧ rm2.frames + 1 ≤ rm.frames ∧ 8 + (mL + 11) + rm2.locals ≤ rm.locals) (hW : (st.map fun v => v.category).sum ≤ 8) (h1 : k + mc ≤ rm.cells) (h2 : n + ms ≤ rm.slots) (d0 : decode cc pc = .ok (.invokespecial idx, 3)) (kk : ∀ ad, ad 0 = q → zc Γ (k + mc) (n + ms) (ws ++ W0 ad) lv (pc + 3) (st)) : zc Γ (k) (n) (ws ++ [(q, .inr (ci, fs0))]) lv (pc) (.ref q :: st) := by
  obtain ⟨p, l, e, R, s, m, args, below, meth, c, Q, D, A, k0, n0, nL⟩ := Γ
  obtain ⟨hx, hb, hml, hown, hts, ⟨hK, hN⟩, rfl, rfl, hA, hin⟩ := F
  intro H locs ls hP hD hS hh
  have hg : GoodIn WS (Cond.code y cy mL none :: WS) := WS_sub (fun _ h => h) (fun w hw => by
    rcases List.mem_cons.mp hw with rfl | hw
    · exact hco
    · exact hw)
  have hlN : va_Nw (.methodLinkNest own idx y host) s := hN _ hl
  have hx0 : (ws ++ [(q, (.inr (ci, fs0) : va_E))])[ws.length]? = some (q, .inr (ci, fs0)) := by
    rw [List.getElem?_append_right (Nat.le_refl _), Nat.sub_self]; rfl
  have hAq : ∀ x, zAC q H.size x → A x := fun x hx9 => by
    rcases hx9 with rfl | hx9
    · exact hD.2 _ _ hx0
    · exact hA x (Nat.le_trans hS.1 hx9)
  have hPc : va_P D vwCl [(q, (.inr (ci, fs0) : va_E))] H := fun i z hz => by
    have hi1 : i < 1 := (List.getElem?_eq_some_iff.mp hz).1
    rw [show i = 0 by omega] at hz
    cases hz
    exact hP _ _ hx0
  refine va_callv (va_runIN (As := []) (rest := st) ⟨hx, hb, hml, hown, hts⟩ (hM l D q H.size) ⟨va_cnB 0 hts hg rfl hR.1 hR.2.1 hlN (hts _ hini) hd2 ⟨hR.2.2.1, hR.2.2.2⟩, hy, hts _ hi⟩ ⟨fun a U g mk z => ⟨z.1, z.2.1, z.2.2.1, zK.same (u := U) (U := U.calling g mk a) rfl z.2.2.2⟩, fun U hU hW => ⟨rfl, by rw [hU], by rw [hU]; exact hPc, zK.warm hW ⟨hK, hN⟩⟩⟩ rfl rfl hh.1 rfl (lv_room hW) d0 ⟨h1, h2⟩) hS (fun x _ h => hAq x h) hAq (fun ad t H1 locs1 ht hvm hw hB hz1 hk1 hS1 => ?_)
  obtain ⟨hB1, hB2⟩ := hB
  rw [ht] at hB1
  obtain ⟨hP9, hD9⟩ := zjoinC hP hD hk1 hAq hB1 hB2
  exact kk ad hw H1 locs1 ls hP9 hD9 hS1 hh
theorem c_ret (F : zCF Γ cI cZ cc rm nL' own) {h0 mc ms : Nat} {W0 : (Nat → Nat) → va_W} (hQ : zCQ Γ h0 W0 mc ms) (ad : Nat → Nat) (h9 : ad 0 = h0) (hw : ws = W0 ad) (d0 : decode cc pc = .ok (.return_, 1)) : zc Γ mc ms ws lv pc [] := by
  obtain ⟨p, l, e, R, s, m, args, below, meth, c, Q, D, A, k0, n0, nL⟩ := Γ
  obtain ⟨hx, hb, hml, hown, hts, ⟨hK, hN⟩, rfl, rfl, hA, hin⟩ := F
  intro H locs ls hP hD hS hh
  obtain ⟨rfl, hr, hlk, rfl⟩ := hQ
  subst hw
  exact W.vret hx hb hr (fun t ht hW => ⟨⟨ad, rfl, h9, by show va_P D vwCl (W0 ad) t.heap; rw [ht]; exact hP, hD⟩, hS.F ht⟩) hS.2.2 d0 hlk
end RowsC
def w0X4 (cI cZ : ClassId) (ad : Nat → Nat) : va_W := [(ad 0, .inr (4, [.ref (ad 1), .int (zI 0)])), (ad 1, .inl (cI, 12, .inl (zA (fun _ => 0))))]
theorem fsX4_0 : ∀ j, j < 2 → defaultValue (tyX4 j) = vp_V [.null, .int (zI 0)] j := by
  intro j hj
  match j, hj with
  | 0, _ => rfl
  | 1, _ => rfl
  | q + 2, h => exact absurd h (by omega)
set_option maxRecDepth 100000 in
theorem c_X4_init {l : Launch} {D : va_G} {cI cZ : ClassId} : zCt l yX4_init cX4_init 1 { frames := 1, cells := 1, slots := 12, locals := 12 } D cI cZ 4 [.null, .int (zI 0)] (w0X4 cI cZ) 1 12 := by
  refine c_start (by decide +kernel) rfl (Nat.le_of_ble_eq_true rfl) (fun Γ h0 F hQ => ?_)
  have F : zCF Γ cI cZ cX4_init { frames := 1, cells := 1, slots := 12, locals := 12 } 1 RX4 := F
  refine c_oi F (j := 0) wm_19 wm_15 wm_16 rfl (Nat.le_of_ble_eq_true rfl) (Nat.le_of_ble_eq_true rfl) dX4_init_0 dX4_init_1 ?_
  refine c_aload0 F (j := 0) rfl dX4_init_4 ?_
  refine c_bipush F bp_12 dX4_init_5 ?_
  refine c_newI F (N := 12) wm_17 (by decide) (by decide) (by decide) (Nat.le_of_ble_eq_true rfl) (Nat.le_of_ble_eq_true rfl) dX4_init_7 (fun q1 => ?_)
  refine c_putR F 0 0 inWX4 rfl rfl (by decide) wm_20 tyX4 tyX4_ok nmX4 rfl rfl (tyX4_ok 0 (by decide)) rfl rfl (Nat.le_of_ble_eq_true rfl) (ws2 := [(h0, .inr (4, [.ref q1, .int (zI 0)])), (q1, .inl (cI, 12, .inl (zA (fun _ => 0))))]) rfl dX4_init_9 ?_
  exact c_ret F hQ (fun k => ([h0, q1] : List Nat).getD k 0) rfl rfl dX4_init_12
def w0X7 (cI cZ : ClassId) (ad : Nat → Nat) : va_W := [(ad 0, .inr (7, [.ref (ad 1), .ref (ad 2), .ref (ad 3), .int (zI 0)])), (ad 1, .inl (cI, 240, .inl (zA (fun _ => 0)))), (ad 2, .inl (cI, 20, .inl (zA (fun _ => 0)))), (ad 3, .inl (cI, 13, .inl (zA (fun _ => 0))))]
theorem fsX7_0 : ∀ j, j < 4 → defaultValue (tyX7 j) = vp_V [.null, .null, .null, .int (zI 0)] j := by
  intro j hj
  match j, hj with
  | 0, _ => rfl
  | 1, _ => rfl
  | 2, _ => rfl
  | 3, _ => rfl
  | q + 4, h => exact absurd h (by omega)
set_option maxRecDepth 100000 in
theorem c_X7_init {l : Launch} {D : va_G} {cI cZ : ClassId} : zCt l yX7_init cX7_init 1 { frames := 1, cells := 3, slots := 273, locals := 12 } D cI cZ 7 [.null, .null, .null, .int (zI 0)] (w0X7 cI cZ) 3 273 := by
  refine c_start (by decide +kernel) rfl (Nat.le_of_ble_eq_true rfl) (fun Γ h0 F hQ => ?_)
  have F : zCF Γ cI cZ cX7_init { frames := 1, cells := 3, slots := 273, locals := 12 } 1 RX7 := F
  refine c_oi F (j := 0) wm_21 wm_15 wm_16 rfl (Nat.le_of_ble_eq_true rfl) (Nat.le_of_ble_eq_true rfl) dX7_init_0 dX7_init_1 ?_
  refine c_aload0 F (j := 0) rfl dX7_init_4 ?_
  refine c_sipush F sp_240 dX7_init_5 ?_
  refine c_newI F (N := 240) wm_17 (by decide) (by decide) (by decide) (Nat.le_of_ble_eq_true rfl) (Nat.le_of_ble_eq_true rfl) dX7_init_8 (fun q1 => ?_)
  refine c_putR F 0 0 inWX7 rfl rfl (by decide) wm_22 tyX7 tyX7_ok nmX7 rfl rfl (tyX7_ok 0 (by decide)) rfl rfl (Nat.le_of_ble_eq_true rfl) (ws2 := [(h0, .inr (7, [.ref q1, .null, .null, .int (zI 0)])), (q1, .inl (cI, 240, .inl (zA (fun _ => 0))))]) rfl dX7_init_10 ?_
  refine c_aload0 F (j := 0) rfl dX7_init_13 ?_
  refine c_bipush F bp_20 dX7_init_14 ?_
  refine c_newI F (N := 20) wm_17 (by decide) (by decide) (by decide) (Nat.le_of_ble_eq_true rfl) (Nat.le_of_ble_eq_true rfl) dX7_init_16 (fun q2 => ?_)
  refine c_putR F 0 1 inWX7 rfl rfl (by decide) wm_23 tyX7 tyX7_ok nmX7 rfl rfl (tyX7_ok 1 (by decide)) rfl rfl (Nat.le_of_ble_eq_true rfl) (ws2 := [(h0, .inr (7, [.ref q1, .ref q2, .null, .int (zI 0)])), (q1, .inl (cI, 240, .inl (zA (fun _ => 0)))), (q2, .inl (cI, 20, .inl (zA (fun _ => 0))))]) rfl dX7_init_18 ?_
  refine c_aload0 F (j := 0) rfl dX7_init_21 ?_
  refine c_bipush F bp_13 dX7_init_22 ?_
  refine c_newI F (N := 13) wm_17 (by decide) (by decide) (by decide) (Nat.le_of_ble_eq_true rfl) (Nat.le_of_ble_eq_true rfl) dX7_init_24 (fun q3 => ?_)
  refine c_putR F 0 2 inWX7 rfl rfl (by decide) wm_24 tyX7 tyX7_ok nmX7 rfl rfl (tyX7_ok 2 (by decide)) rfl rfl (Nat.le_of_ble_eq_true rfl) (ws2 := [(h0, .inr (7, [.ref q1, .ref q2, .ref q3, .int (zI 0)])), (q1, .inl (cI, 240, .inl (zA (fun _ => 0)))), (q2, .inl (cI, 20, .inl (zA (fun _ => 0)))), (q3, .inl (cI, 13, .inl (zA (fun _ => 0))))]) rfl dX7_init_26 ?_
  exact c_ret F hQ (fun k => ([h0, q1, q2, q3] : List Nat).getD k 0) rfl rfl dX7_init_29
def w0X0 (cI cZ : ClassId) (ad : Nat → Nat) : va_W := [(ad 0, .inr (0, [.ref (ad 1), .ref (ad 2), .ref (ad 3), .int (zI 0)])), (ad 1, .inl (cI, 12, .inl (zA (fun _ => 0)))), (ad 2, .inl (cI, 12, .inl (zA (fun _ => 0)))), (ad 3, .inl (cI, 12, .inl (zA (fun _ => 0))))]
theorem fsX0_0 : ∀ j, j < 4 → defaultValue (tyX0 j) = vp_V [.null, .null, .null, .int (zI 0)] j := by
  intro j hj
  match j, hj with
  | 0, _ => rfl
  | 1, _ => rfl
  | 2, _ => rfl
  | 3, _ => rfl
  | q + 4, h => exact absurd h (by omega)
set_option maxRecDepth 100000 in
theorem c_X0_init {l : Launch} {D : va_G} {cI cZ : ClassId} : zCt l yX0_init cX0_init 1 { frames := 1, cells := 3, slots := 36, locals := 12 } D cI cZ 0 [.null, .null, .null, .int (zI 0)] (w0X0 cI cZ) 3 36 := by
  refine c_start (by decide +kernel) rfl (Nat.le_of_ble_eq_true rfl) (fun Γ h0 F hQ => ?_)
  have F : zCF Γ cI cZ cX0_init { frames := 1, cells := 3, slots := 36, locals := 12 } 1 RX0 := F
  refine c_oi F (j := 0) wm_14 wm_15 wm_16 rfl (Nat.le_of_ble_eq_true rfl) (Nat.le_of_ble_eq_true rfl) dX0_init_0 dX0_init_1 ?_
  refine c_aload0 F (j := 0) rfl dX0_init_4 ?_
  refine c_bipush F bp_12 dX0_init_5 ?_
  refine c_newI F (N := 12) wm_17 (by decide) (by decide) (by decide) (Nat.le_of_ble_eq_true rfl) (Nat.le_of_ble_eq_true rfl) dX0_init_7 (fun q1 => ?_)
  refine c_putR F 0 0 inWX0 rfl rfl (by decide) wm_25 tyX0 tyX0_ok nmX0 rfl rfl (tyX0_ok 0 (by decide)) rfl rfl (Nat.le_of_ble_eq_true rfl) (ws2 := [(h0, .inr (0, [.ref q1, .null, .null, .int (zI 0)])), (q1, .inl (cI, 12, .inl (zA (fun _ => 0))))]) rfl dX0_init_9 ?_
  refine c_aload0 F (j := 0) rfl dX0_init_12 ?_
  refine c_bipush F bp_12 dX0_init_13 ?_
  refine c_newI F (N := 12) wm_17 (by decide) (by decide) (by decide) (Nat.le_of_ble_eq_true rfl) (Nat.le_of_ble_eq_true rfl) dX0_init_15 (fun q2 => ?_)
  refine c_putR F 0 1 inWX0 rfl rfl (by decide) wm_26 tyX0 tyX0_ok nmX0 rfl rfl (tyX0_ok 1 (by decide)) rfl rfl (Nat.le_of_ble_eq_true rfl) (ws2 := [(h0, .inr (0, [.ref q1, .ref q2, .null, .int (zI 0)])), (q1, .inl (cI, 12, .inl (zA (fun _ => 0)))), (q2, .inl (cI, 12, .inl (zA (fun _ => 0))))]) rfl dX0_init_17 ?_
  refine c_aload0 F (j := 0) rfl dX0_init_20 ?_
  refine c_bipush F bp_12 dX0_init_21 ?_
  refine c_newI F (N := 12) wm_17 (by decide) (by decide) (by decide) (Nat.le_of_ble_eq_true rfl) (Nat.le_of_ble_eq_true rfl) dX0_init_23 (fun q3 => ?_)
  refine c_putR F 0 2 inWX0 rfl rfl (by decide) wm_27 tyX0 tyX0_ok nmX0 rfl rfl (tyX0_ok 2 (by decide)) rfl rfl (Nat.le_of_ble_eq_true rfl) (ws2 := [(h0, .inr (0, [.ref q1, .ref q2, .ref q3, .int (zI 0)])), (q1, .inl (cI, 12, .inl (zA (fun _ => 0)))), (q2, .inl (cI, 12, .inl (zA (fun _ => 0)))), (q3, .inl (cI, 12, .inl (zA (fun _ => 0))))]) rfl dX0_init_25 ?_
  exact c_ret F hQ (fun k => ([h0, q1, q2, q3] : List Nat).getD k 0) rfl rfl dX0_init_28
def w0X1 (cI cZ : ClassId) (ad : Nat → Nat) : va_W := [(ad 0, .inr (1, [.ref (ad 1), .ref (ad 2), .ref (ad 3), .ref (ad 4), .ref (ad 5), .ref (ad 6), .ref (ad 7), .ref (ad 8), .ref (ad 9), .ref (ad 10), .ref (ad 11), .int (zI 0)])), (ad 1, .inl (cI, 60, .inl (zA (fun _ => 0)))), (ad 2, .inl (cI, 60, .inl (zA (fun _ => 0)))), (ad 3, .inl (cI, 60, .inl (zA (fun _ => 0)))), (ad 4, .inl (cI, 60, .inl (zA (fun _ => 0)))), (ad 5, .inl (cI, 60, .inl (zA (fun _ => 0)))), (ad 6, .inl (cI, 60, .inl (zA (fun _ => 0)))), (ad 7, .inl (cI, 60, .inl (zA (fun _ => 0)))), (ad 8, .inl (cI, 60, .inl (zA (fun _ => 0)))), (ad 9, .inl (cI, 60, .inl (zA (fun _ => 0)))), (ad 10, .inl (cZ, 60, .inl (zA (fun _ => 0)))), (ad 11, .inl (cI, 60, .inl (zA (fun _ => 0))))]
theorem fsX1_0 : ∀ j, j < 12 → defaultValue (tyX1 j) = vp_V [.null, .null, .null, .null, .null, .null, .null, .null, .null, .null, .null, .int (zI 0)] j := by
  intro j hj
  match j, hj with
  | 0, _ => rfl
  | 1, _ => rfl
  | 2, _ => rfl
  | 3, _ => rfl
  | 4, _ => rfl
  | 5, _ => rfl
  | 6, _ => rfl
  | 7, _ => rfl
  | 8, _ => rfl
  | 9, _ => rfl
  | 10, _ => rfl
  | 11, _ => rfl
  | q + 12, h => exact absurd h (by omega)
set_option maxRecDepth 100000 in
theorem c_X1_init {l : Launch} {D : va_G} {cI cZ : ClassId} : zCt l yX1_init cX1_init 1 { frames := 1, cells := 11, slots := 660, locals := 12 } D cI cZ 1 [.null, .null, .null, .null, .null, .null, .null, .null, .null, .null, .null, .int (zI 0)] (w0X1 cI cZ) 11 660 := by
  refine c_start (by decide +kernel) rfl (Nat.le_of_ble_eq_true rfl) (fun Γ h0 F hQ => ?_)
  have F : zCF Γ cI cZ cX1_init { frames := 1, cells := 11, slots := 660, locals := 12 } 1 RX1 := F
  refine c_oi F (j := 0) wm_28 wm_15 wm_16 rfl (Nat.le_of_ble_eq_true rfl) (Nat.le_of_ble_eq_true rfl) dX1_init_0 dX1_init_1 ?_
  refine c_aload0 F (j := 0) rfl dX1_init_4 ?_
  refine c_bipush F bp_60 dX1_init_5 ?_
  refine c_newI F (N := 60) wm_17 (by decide) (by decide) (by decide) (Nat.le_of_ble_eq_true rfl) (Nat.le_of_ble_eq_true rfl) dX1_init_7 (fun q1 => ?_)
  refine c_putR F 0 0 inWX1 rfl rfl (by decide) wm_29 tyX1 tyX1_ok nmX1 rfl rfl (tyX1_ok 0 (by decide)) rfl rfl (Nat.le_of_ble_eq_true rfl) (ws2 := [(h0, .inr (1, [.ref q1, .null, .null, .null, .null, .null, .null, .null, .null, .null, .null, .int (zI 0)])), (q1, .inl (cI, 60, .inl (zA (fun _ => 0))))]) rfl dX1_init_9 ?_
  refine c_aload0 F (j := 0) rfl dX1_init_12 ?_
  refine c_bipush F bp_60 dX1_init_13 ?_
  refine c_newI F (N := 60) wm_17 (by decide) (by decide) (by decide) (Nat.le_of_ble_eq_true rfl) (Nat.le_of_ble_eq_true rfl) dX1_init_15 (fun q2 => ?_)
  refine c_putR F 0 1 inWX1 rfl rfl (by decide) wm_30 tyX1 tyX1_ok nmX1 rfl rfl (tyX1_ok 1 (by decide)) rfl rfl (Nat.le_of_ble_eq_true rfl) (ws2 := [(h0, .inr (1, [.ref q1, .ref q2, .null, .null, .null, .null, .null, .null, .null, .null, .null, .int (zI 0)])), (q1, .inl (cI, 60, .inl (zA (fun _ => 0)))), (q2, .inl (cI, 60, .inl (zA (fun _ => 0))))]) rfl dX1_init_17 ?_
  refine c_aload0 F (j := 0) rfl dX1_init_20 ?_
  refine c_bipush F bp_60 dX1_init_21 ?_
  refine c_newI F (N := 60) wm_17 (by decide) (by decide) (by decide) (Nat.le_of_ble_eq_true rfl) (Nat.le_of_ble_eq_true rfl) dX1_init_23 (fun q3 => ?_)
  refine c_putR F 0 2 inWX1 rfl rfl (by decide) wm_31 tyX1 tyX1_ok nmX1 rfl rfl (tyX1_ok 2 (by decide)) rfl rfl (Nat.le_of_ble_eq_true rfl) (ws2 := [(h0, .inr (1, [.ref q1, .ref q2, .ref q3, .null, .null, .null, .null, .null, .null, .null, .null, .int (zI 0)])), (q1, .inl (cI, 60, .inl (zA (fun _ => 0)))), (q2, .inl (cI, 60, .inl (zA (fun _ => 0)))), (q3, .inl (cI, 60, .inl (zA (fun _ => 0))))]) rfl dX1_init_25 ?_
  refine c_aload0 F (j := 0) rfl dX1_init_28 ?_
  refine c_bipush F bp_60 dX1_init_29 ?_
  refine c_newI F (N := 60) wm_17 (by decide) (by decide) (by decide) (Nat.le_of_ble_eq_true rfl) (Nat.le_of_ble_eq_true rfl) dX1_init_31 (fun q4 => ?_)
  refine c_putR F 0 3 inWX1 rfl rfl (by decide) wm_32 tyX1 tyX1_ok nmX1 rfl rfl (tyX1_ok 3 (by decide)) rfl rfl (Nat.le_of_ble_eq_true rfl) (ws2 := [(h0, .inr (1, [.ref q1, .ref q2, .ref q3, .ref q4, .null, .null, .null, .null, .null, .null, .null, .int (zI 0)])), (q1, .inl (cI, 60, .inl (zA (fun _ => 0)))), (q2, .inl (cI, 60, .inl (zA (fun _ => 0)))), (q3, .inl (cI, 60, .inl (zA (fun _ => 0)))), (q4, .inl (cI, 60, .inl (zA (fun _ => 0))))]) rfl dX1_init_33 ?_
  refine c_aload0 F (j := 0) rfl dX1_init_36 ?_
  refine c_bipush F bp_60 dX1_init_37 ?_
  refine c_newI F (N := 60) wm_17 (by decide) (by decide) (by decide) (Nat.le_of_ble_eq_true rfl) (Nat.le_of_ble_eq_true rfl) dX1_init_39 (fun q5 => ?_)
  refine c_putR F 0 4 inWX1 rfl rfl (by decide) wm_33 tyX1 tyX1_ok nmX1 rfl rfl (tyX1_ok 4 (by decide)) rfl rfl (Nat.le_of_ble_eq_true rfl) (ws2 := [(h0, .inr (1, [.ref q1, .ref q2, .ref q3, .ref q4, .ref q5, .null, .null, .null, .null, .null, .null, .int (zI 0)])), (q1, .inl (cI, 60, .inl (zA (fun _ => 0)))), (q2, .inl (cI, 60, .inl (zA (fun _ => 0)))), (q3, .inl (cI, 60, .inl (zA (fun _ => 0)))), (q4, .inl (cI, 60, .inl (zA (fun _ => 0)))), (q5, .inl (cI, 60, .inl (zA (fun _ => 0))))]) rfl dX1_init_41 ?_
  refine c_aload0 F (j := 0) rfl dX1_init_44 ?_
  refine c_bipush F bp_60 dX1_init_45 ?_
  refine c_newI F (N := 60) wm_17 (by decide) (by decide) (by decide) (Nat.le_of_ble_eq_true rfl) (Nat.le_of_ble_eq_true rfl) dX1_init_47 (fun q6 => ?_)
  refine c_putR F 0 5 inWX1 rfl rfl (by decide) wm_34 tyX1 tyX1_ok nmX1 rfl rfl (tyX1_ok 5 (by decide)) rfl rfl (Nat.le_of_ble_eq_true rfl) (ws2 := [(h0, .inr (1, [.ref q1, .ref q2, .ref q3, .ref q4, .ref q5, .ref q6, .null, .null, .null, .null, .null, .int (zI 0)])), (q1, .inl (cI, 60, .inl (zA (fun _ => 0)))), (q2, .inl (cI, 60, .inl (zA (fun _ => 0)))), (q3, .inl (cI, 60, .inl (zA (fun _ => 0)))), (q4, .inl (cI, 60, .inl (zA (fun _ => 0)))), (q5, .inl (cI, 60, .inl (zA (fun _ => 0)))), (q6, .inl (cI, 60, .inl (zA (fun _ => 0))))]) rfl dX1_init_49 ?_
  refine c_aload0 F (j := 0) rfl dX1_init_52 ?_
  refine c_bipush F bp_60 dX1_init_53 ?_
  refine c_newI F (N := 60) wm_17 (by decide) (by decide) (by decide) (Nat.le_of_ble_eq_true rfl) (Nat.le_of_ble_eq_true rfl) dX1_init_55 (fun q7 => ?_)
  refine c_putR F 0 6 inWX1 rfl rfl (by decide) wm_35 tyX1 tyX1_ok nmX1 rfl rfl (tyX1_ok 6 (by decide)) rfl rfl (Nat.le_of_ble_eq_true rfl) (ws2 := [(h0, .inr (1, [.ref q1, .ref q2, .ref q3, .ref q4, .ref q5, .ref q6, .ref q7, .null, .null, .null, .null, .int (zI 0)])), (q1, .inl (cI, 60, .inl (zA (fun _ => 0)))), (q2, .inl (cI, 60, .inl (zA (fun _ => 0)))), (q3, .inl (cI, 60, .inl (zA (fun _ => 0)))), (q4, .inl (cI, 60, .inl (zA (fun _ => 0)))), (q5, .inl (cI, 60, .inl (zA (fun _ => 0)))), (q6, .inl (cI, 60, .inl (zA (fun _ => 0)))), (q7, .inl (cI, 60, .inl (zA (fun _ => 0))))]) rfl dX1_init_57 ?_
  refine c_aload0 F (j := 0) rfl dX1_init_60 ?_
  refine c_bipush F bp_60 dX1_init_61 ?_
  refine c_newI F (N := 60) wm_17 (by decide) (by decide) (by decide) (Nat.le_of_ble_eq_true rfl) (Nat.le_of_ble_eq_true rfl) dX1_init_63 (fun q8 => ?_)
  refine c_putR F 0 7 inWX1 rfl rfl (by decide) wm_36 tyX1 tyX1_ok nmX1 rfl rfl (tyX1_ok 7 (by decide)) rfl rfl (Nat.le_of_ble_eq_true rfl) (ws2 := [(h0, .inr (1, [.ref q1, .ref q2, .ref q3, .ref q4, .ref q5, .ref q6, .ref q7, .ref q8, .null, .null, .null, .int (zI 0)])), (q1, .inl (cI, 60, .inl (zA (fun _ => 0)))), (q2, .inl (cI, 60, .inl (zA (fun _ => 0)))), (q3, .inl (cI, 60, .inl (zA (fun _ => 0)))), (q4, .inl (cI, 60, .inl (zA (fun _ => 0)))), (q5, .inl (cI, 60, .inl (zA (fun _ => 0)))), (q6, .inl (cI, 60, .inl (zA (fun _ => 0)))), (q7, .inl (cI, 60, .inl (zA (fun _ => 0)))), (q8, .inl (cI, 60, .inl (zA (fun _ => 0))))]) rfl dX1_init_65 ?_
  refine c_aload0 F (j := 0) rfl dX1_init_68 ?_
  refine c_bipush F bp_60 dX1_init_69 ?_
  refine c_newI F (N := 60) wm_17 (by decide) (by decide) (by decide) (Nat.le_of_ble_eq_true rfl) (Nat.le_of_ble_eq_true rfl) dX1_init_71 (fun q9 => ?_)
  refine c_putR F 0 8 inWX1 rfl rfl (by decide) wm_37 tyX1 tyX1_ok nmX1 rfl rfl (tyX1_ok 8 (by decide)) rfl rfl (Nat.le_of_ble_eq_true rfl) (ws2 := [(h0, .inr (1, [.ref q1, .ref q2, .ref q3, .ref q4, .ref q5, .ref q6, .ref q7, .ref q8, .ref q9, .null, .null, .int (zI 0)])), (q1, .inl (cI, 60, .inl (zA (fun _ => 0)))), (q2, .inl (cI, 60, .inl (zA (fun _ => 0)))), (q3, .inl (cI, 60, .inl (zA (fun _ => 0)))), (q4, .inl (cI, 60, .inl (zA (fun _ => 0)))), (q5, .inl (cI, 60, .inl (zA (fun _ => 0)))), (q6, .inl (cI, 60, .inl (zA (fun _ => 0)))), (q7, .inl (cI, 60, .inl (zA (fun _ => 0)))), (q8, .inl (cI, 60, .inl (zA (fun _ => 0)))), (q9, .inl (cI, 60, .inl (zA (fun _ => 0))))]) rfl dX1_init_73 ?_
  refine c_aload0 F (j := 0) rfl dX1_init_76 ?_
  refine c_bipush F bp_60 dX1_init_77 ?_
  refine c_newZ F (N := 60) wm_18 (by decide) (by decide) (by decide) (Nat.le_of_ble_eq_true rfl) (Nat.le_of_ble_eq_true rfl) dX1_init_79 (fun q10 => ?_)
  refine c_putR F 0 9 inWX1 rfl rfl (by decide) wm_38 tyX1 tyX1_ok nmX1 rfl rfl (tyX1_ok 9 (by decide)) rfl rfl (Nat.le_of_ble_eq_true rfl) (ws2 := [(h0, .inr (1, [.ref q1, .ref q2, .ref q3, .ref q4, .ref q5, .ref q6, .ref q7, .ref q8, .ref q9, .ref q10, .null, .int (zI 0)])), (q1, .inl (cI, 60, .inl (zA (fun _ => 0)))), (q2, .inl (cI, 60, .inl (zA (fun _ => 0)))), (q3, .inl (cI, 60, .inl (zA (fun _ => 0)))), (q4, .inl (cI, 60, .inl (zA (fun _ => 0)))), (q5, .inl (cI, 60, .inl (zA (fun _ => 0)))), (q6, .inl (cI, 60, .inl (zA (fun _ => 0)))), (q7, .inl (cI, 60, .inl (zA (fun _ => 0)))), (q8, .inl (cI, 60, .inl (zA (fun _ => 0)))), (q9, .inl (cI, 60, .inl (zA (fun _ => 0)))), (q10, .inl (cZ, 60, .inl (zA (fun _ => 0))))]) rfl dX1_init_81 ?_
  refine c_aload0 F (j := 0) rfl dX1_init_84 ?_
  refine c_bipush F bp_60 dX1_init_85 ?_
  refine c_newI F (N := 60) wm_17 (by decide) (by decide) (by decide) (Nat.le_of_ble_eq_true rfl) (Nat.le_of_ble_eq_true rfl) dX1_init_87 (fun q11 => ?_)
  refine c_putR F 0 10 inWX1 rfl rfl (by decide) wm_39 tyX1 tyX1_ok nmX1 rfl rfl (tyX1_ok 10 (by decide)) rfl rfl (Nat.le_of_ble_eq_true rfl) (ws2 := [(h0, .inr (1, [.ref q1, .ref q2, .ref q3, .ref q4, .ref q5, .ref q6, .ref q7, .ref q8, .ref q9, .ref q10, .ref q11, .int (zI 0)])), (q1, .inl (cI, 60, .inl (zA (fun _ => 0)))), (q2, .inl (cI, 60, .inl (zA (fun _ => 0)))), (q3, .inl (cI, 60, .inl (zA (fun _ => 0)))), (q4, .inl (cI, 60, .inl (zA (fun _ => 0)))), (q5, .inl (cI, 60, .inl (zA (fun _ => 0)))), (q6, .inl (cI, 60, .inl (zA (fun _ => 0)))), (q7, .inl (cI, 60, .inl (zA (fun _ => 0)))), (q8, .inl (cI, 60, .inl (zA (fun _ => 0)))), (q9, .inl (cI, 60, .inl (zA (fun _ => 0)))), (q10, .inl (cZ, 60, .inl (zA (fun _ => 0)))), (q11, .inl (cI, 60, .inl (zA (fun _ => 0))))]) rfl dX1_init_89 ?_
  exact c_ret F hQ (fun k => ([h0, q1, q2, q3, q4, q5, q6, q7, q8, q9, q10, q11] : List Nat).getD k 0) rfl rfl dX1_init_92
def w0X5 (cI cZ : ClassId) (ad : Nat → Nat) : va_W := [(ad 0, .inr (5, [.ref (ad 1), .ref (ad 2), .ref (ad 3), .ref (ad 4), .int (zI 0)])), (ad 1, .inl (cI, 10, .inl (zA (fun _ => 0)))), (ad 2, .inl (cI, 10, .inl (zA (fun _ => 0)))), (ad 3, .inl (cI, 6, .inl (zA (fun _ => 0)))), (ad 4, .inl (cI, 6, .inl (zA (fun _ => 0))))]
theorem fsX5_0 : ∀ j, j < 5 → defaultValue (tyX5 j) = vp_V [.null, .null, .null, .null, .int (zI 0)] j := by
  intro j hj
  match j, hj with
  | 0, _ => rfl
  | 1, _ => rfl
  | 2, _ => rfl
  | 3, _ => rfl
  | 4, _ => rfl
  | q + 5, h => exact absurd h (by omega)
set_option maxRecDepth 100000 in
theorem c_X5_init {l : Launch} {D : va_G} {cI cZ : ClassId} : zCt l yX5_init cX5_init 1 { frames := 1, cells := 4, slots := 32, locals := 12 } D cI cZ 5 [.null, .null, .null, .null, .int (zI 0)] (w0X5 cI cZ) 4 32 := by
  refine c_start (by decide +kernel) rfl (Nat.le_of_ble_eq_true rfl) (fun Γ h0 F hQ => ?_)
  have F : zCF Γ cI cZ cX5_init { frames := 1, cells := 4, slots := 32, locals := 12 } 1 RX5 := F
  refine c_oi F (j := 0) wm_40 wm_15 wm_16 rfl (Nat.le_of_ble_eq_true rfl) (Nat.le_of_ble_eq_true rfl) dX5_init_0 dX5_init_1 ?_
  refine c_aload0 F (j := 0) rfl dX5_init_4 ?_
  refine c_bipush F bp_10 dX5_init_5 ?_
  refine c_newI F (N := 10) wm_17 (by decide) (by decide) (by decide) (Nat.le_of_ble_eq_true rfl) (Nat.le_of_ble_eq_true rfl) dX5_init_7 (fun q1 => ?_)
  refine c_putR F 0 0 inWX5 rfl rfl (by decide) wm_41 tyX5 tyX5_ok nmX5 rfl rfl (tyX5_ok 0 (by decide)) rfl rfl (Nat.le_of_ble_eq_true rfl) (ws2 := [(h0, .inr (5, [.ref q1, .null, .null, .null, .int (zI 0)])), (q1, .inl (cI, 10, .inl (zA (fun _ => 0))))]) rfl dX5_init_9 ?_
  refine c_aload0 F (j := 0) rfl dX5_init_12 ?_
  refine c_bipush F bp_10 dX5_init_13 ?_
  refine c_newI F (N := 10) wm_17 (by decide) (by decide) (by decide) (Nat.le_of_ble_eq_true rfl) (Nat.le_of_ble_eq_true rfl) dX5_init_15 (fun q2 => ?_)
  refine c_putR F 0 1 inWX5 rfl rfl (by decide) wm_42 tyX5 tyX5_ok nmX5 rfl rfl (tyX5_ok 1 (by decide)) rfl rfl (Nat.le_of_ble_eq_true rfl) (ws2 := [(h0, .inr (5, [.ref q1, .ref q2, .null, .null, .int (zI 0)])), (q1, .inl (cI, 10, .inl (zA (fun _ => 0)))), (q2, .inl (cI, 10, .inl (zA (fun _ => 0))))]) rfl dX5_init_17 ?_
  refine c_aload0 F (j := 0) rfl dX5_init_20 ?_
  refine c_bipush F bp_6 dX5_init_21 ?_
  refine c_newI F (N := 6) wm_17 (by decide) (by decide) (by decide) (Nat.le_of_ble_eq_true rfl) (Nat.le_of_ble_eq_true rfl) dX5_init_23 (fun q3 => ?_)
  refine c_putR F 0 2 inWX5 rfl rfl (by decide) wm_43 tyX5 tyX5_ok nmX5 rfl rfl (tyX5_ok 2 (by decide)) rfl rfl (Nat.le_of_ble_eq_true rfl) (ws2 := [(h0, .inr (5, [.ref q1, .ref q2, .ref q3, .null, .int (zI 0)])), (q1, .inl (cI, 10, .inl (zA (fun _ => 0)))), (q2, .inl (cI, 10, .inl (zA (fun _ => 0)))), (q3, .inl (cI, 6, .inl (zA (fun _ => 0))))]) rfl dX5_init_25 ?_
  refine c_aload0 F (j := 0) rfl dX5_init_28 ?_
  refine c_bipush F bp_6 dX5_init_29 ?_
  refine c_newI F (N := 6) wm_17 (by decide) (by decide) (by decide) (Nat.le_of_ble_eq_true rfl) (Nat.le_of_ble_eq_true rfl) dX5_init_31 (fun q4 => ?_)
  refine c_putR F 0 3 inWX5 rfl rfl (by decide) wm_44 tyX5 tyX5_ok nmX5 rfl rfl (tyX5_ok 3 (by decide)) rfl rfl (Nat.le_of_ble_eq_true rfl) (ws2 := [(h0, .inr (5, [.ref q1, .ref q2, .ref q3, .ref q4, .int (zI 0)])), (q1, .inl (cI, 10, .inl (zA (fun _ => 0)))), (q2, .inl (cI, 10, .inl (zA (fun _ => 0)))), (q3, .inl (cI, 6, .inl (zA (fun _ => 0)))), (q4, .inl (cI, 6, .inl (zA (fun _ => 0))))]) rfl dX5_init_33 ?_
  exact c_ret F hQ (fun k => ([h0, q1, q2, q3, q4] : List Nat).getD k 0) rfl rfl dX5_init_36
def w0X3 (cI cZ : ClassId) (ad : Nat → Nat) : va_W := [(ad 0, .inr (3, [.ref (ad 1), .int (zI 0)])), (ad 1, .inl (cI, 240, .inl (zA (fun _ => 0))))]
theorem fsX3_0 : ∀ j, j < 2 → defaultValue (tyX3 j) = vp_V [.null, .int (zI 0)] j := by
  intro j hj
  match j, hj with
  | 0, _ => rfl
  | 1, _ => rfl
  | q + 2, h => exact absurd h (by omega)
set_option maxRecDepth 100000 in
theorem c_X3_init {l : Launch} {D : va_G} {cI cZ : ClassId} : zCt l yX3_init cX3_init 1 { frames := 1, cells := 1, slots := 240, locals := 12 } D cI cZ 3 [.null, .int (zI 0)] (w0X3 cI cZ) 1 240 := by
  refine c_start (by decide +kernel) rfl (Nat.le_of_ble_eq_true rfl) (fun Γ h0 F hQ => ?_)
  have F : zCF Γ cI cZ cX3_init { frames := 1, cells := 1, slots := 240, locals := 12 } 1 RX3 := F
  refine c_oi F (j := 0) wm_45 wm_15 wm_16 rfl (Nat.le_of_ble_eq_true rfl) (Nat.le_of_ble_eq_true rfl) dX3_init_0 dX3_init_1 ?_
  refine c_aload0 F (j := 0) rfl dX3_init_4 ?_
  refine c_sipush F sp_240 dX3_init_5 ?_
  refine c_newI F (N := 240) wm_17 (by decide) (by decide) (by decide) (Nat.le_of_ble_eq_true rfl) (Nat.le_of_ble_eq_true rfl) dX3_init_8 (fun q1 => ?_)
  refine c_putR F 0 0 inWX3 rfl rfl (by decide) wm_46 tyX3 tyX3_ok nmX3 rfl rfl (tyX3_ok 0 (by decide)) rfl rfl (Nat.le_of_ble_eq_true rfl) (ws2 := [(h0, .inr (3, [.ref q1, .int (zI 0)])), (q1, .inl (cI, 240, .inl (zA (fun _ => 0))))]) rfl dX3_init_10 ?_
  exact c_ret F hQ (fun k => ([h0, q1] : List Nat).getD k 0) rfl rfl dX3_init_13
def w0X6 (cI cZ : ClassId) (ad : Nat → Nat) : va_W := [(ad 0, .inr (6, [.ref (ad 1), .ref (ad 3), .ref (ad 5), .int (zI 0), .int (zI 0)])), (ad 1, .inr (3, [.ref (ad 2), .int (zI 0)])), (ad 2, .inl (cI, 240, .inl (zA (fun _ => 0)))), (ad 3, .inr (3, [.ref (ad 4), .int (zI 0)])), (ad 4, .inl (cI, 240, .inl (zA (fun _ => 0)))), (ad 5, .inl (cI, 240, .inl (zA (fun _ => 0))))]
theorem fsX6_0 : ∀ j, j < 5 → defaultValue (tyX6 j) = vp_V [.null, .null, .null, .int (zI 0), .int (zI 0)] j := by
  intro j hj
  match j, hj with
  | 0, _ => rfl
  | 1, _ => rfl
  | 2, _ => rfl
  | 3, _ => rfl
  | 4, _ => rfl
  | q + 5, h => exact absurd h (by omega)
set_option maxRecDepth 100000 in
theorem c_X6_init {l : Launch} {D : va_G} {cI cZ : ClassId} : zCt l yX6_init cX6_init 1 { frames := 2, cells := 5, slots := 724, locals := 32 } D cI cZ 6 [.null, .null, .null, .int (zI 0), .int (zI 0)] (w0X6 cI cZ) 5 724 := by
  refine c_start (by decide +kernel) rfl (Nat.le_of_ble_eq_true rfl) (fun Γ h0 F hQ => ?_)
  have F : zCF Γ cI cZ cX6_init { frames := 2, cells := 5, slots := 724, locals := 32 } 1 RX6 := F
  refine c_oi F (j := 0) wm_47 wm_15 wm_16 rfl (Nat.le_of_ble_eq_true rfl) (Nat.le_of_ble_eq_true rfl) dX6_init_0 dX6_init_1 ?_
  refine c_aload0 F (j := 0) rfl dX6_init_4 ?_
  refine c_new F (fs := [.null, .int (zI 0)]) inWX3 tyX3 tyX3_ok wm_48 wm_49 wm_50 (ci := 3) rfl (fsX3_0) (Nat.le_of_ble_eq_true rfl) (Nat.le_of_ble_eq_true rfl) dX6_init_5 (fun q1 => ?_)
  refine c_dup F rfl dX6_init_8 ?_
  refine c_ctor F (W0 := w0X3 cI cZ) wm_51 wm_50 wm_52 nw_X6_11 rfl ⟨by decide, by decide, by decide +kernel⟩ (fun l D => c_X3_init) ⟨rfl, rfl, Nat.le_of_ble_eq_true rfl, Nat.le_of_ble_eq_true rfl⟩ (Nat.le_of_ble_eq_true rfl) (Nat.le_of_ble_eq_true rfl) (Nat.le_of_ble_eq_true rfl) dX6_init_9 (fun ad1 e1 => ?_)
  subst e1
  refine c_putR F 0 0 inWX6 rfl rfl (by decide) wm_53 tyX6 tyX6_ok nmX6 rfl rfl (tyX6_ok 0 (by decide)) rfl rfl (Nat.le_of_ble_eq_true rfl) (ws2 := [(h0, .inr (6, [.ref (ad1 0), .null, .null, .int (zI 0), .int (zI 0)])), (ad1 0, .inr (3, [.ref (ad1 1), .int (zI 0)])), (ad1 1, .inl (cI, 240, .inl (zA (fun _ => 0))))]) rfl dX6_init_12 ?_
  refine c_aload0 F (j := 0) rfl dX6_init_15 ?_
  refine c_new F (fs := [.null, .int (zI 0)]) inWX3 tyX3 tyX3_ok wm_48 wm_49 wm_50 (ci := 3) rfl (fsX3_0) (Nat.le_of_ble_eq_true rfl) (Nat.le_of_ble_eq_true rfl) dX6_init_16 (fun q2 => ?_)
  refine c_dup F rfl dX6_init_19 ?_
  refine c_ctor F (W0 := w0X3 cI cZ) wm_51 wm_50 wm_52 nw_X6_11 rfl ⟨by decide, by decide, by decide +kernel⟩ (fun l D => c_X3_init) ⟨rfl, rfl, Nat.le_of_ble_eq_true rfl, Nat.le_of_ble_eq_true rfl⟩ (Nat.le_of_ble_eq_true rfl) (Nat.le_of_ble_eq_true rfl) (Nat.le_of_ble_eq_true rfl) dX6_init_20 (fun ad2 e2 => ?_)
  subst e2
  refine c_putR F 0 1 inWX6 rfl rfl (by decide) wm_54 tyX6 tyX6_ok nmX6 rfl rfl (tyX6_ok 1 (by decide)) rfl rfl (Nat.le_of_ble_eq_true rfl) (ws2 := [(h0, .inr (6, [.ref (ad1 0), .ref (ad2 0), .null, .int (zI 0), .int (zI 0)])), (ad1 0, .inr (3, [.ref (ad1 1), .int (zI 0)])), (ad1 1, .inl (cI, 240, .inl (zA (fun _ => 0)))), (ad2 0, .inr (3, [.ref (ad2 1), .int (zI 0)])), (ad2 1, .inl (cI, 240, .inl (zA (fun _ => 0))))]) rfl dX6_init_23 ?_
  refine c_aload0 F (j := 0) rfl dX6_init_26 ?_
  refine c_sipush F sp_240 dX6_init_27 ?_
  refine c_newI F (N := 240) wm_17 (by decide) (by decide) (by decide) (Nat.le_of_ble_eq_true rfl) (Nat.le_of_ble_eq_true rfl) dX6_init_30 (fun q3 => ?_)
  refine c_putR F 0 2 inWX6 rfl rfl (by decide) wm_55 tyX6 tyX6_ok nmX6 rfl rfl (tyX6_ok 2 (by decide)) rfl rfl (Nat.le_of_ble_eq_true rfl) (ws2 := [(h0, .inr (6, [.ref (ad1 0), .ref (ad2 0), .ref q3, .int (zI 0), .int (zI 0)])), (ad1 0, .inr (3, [.ref (ad1 1), .int (zI 0)])), (ad1 1, .inl (cI, 240, .inl (zA (fun _ => 0)))), (ad2 0, .inr (3, [.ref (ad2 1), .int (zI 0)])), (ad2 1, .inl (cI, 240, .inl (zA (fun _ => 0)))), (q3, .inl (cI, 240, .inl (zA (fun _ => 0))))]) rfl dX6_init_32 ?_
  exact c_ret F hQ (fun k => ([h0, ad1 0, ad1 1, ad2 0, ad2 1, q3] : List Nat).getD k 0) rfl rfl dX6_init_35
def w0X2 (cI cZ : ClassId) (ad : Nat → Nat) : va_W := [(ad 0, .inr (2, [.ref (ad 1), .ref (ad 2), .ref (ad 3), .int (zI 0), .int (zI 0)])), (ad 1, .inl (cI, 160, .inl (zA (fun _ => 0)))), (ad 2, .inl (cI, 8, .inl (zA (fun _ => 0)))), (ad 3, .inl (cI, 8, .inl (zA (fun _ => 0))))]
theorem fsX2_0 : ∀ j, j < 5 → defaultValue (tyX2 j) = vp_V [.null, .null, .null, .int (zI 0), .int (zI 0)] j := by
  intro j hj
  match j, hj with
  | 0, _ => rfl
  | 1, _ => rfl
  | 2, _ => rfl
  | 3, _ => rfl
  | 4, _ => rfl
  | q + 5, h => exact absurd h (by omega)
set_option maxRecDepth 100000 in
theorem c_X2_init {l : Launch} {D : va_G} {cI cZ : ClassId} : zCt l yX2_init cX2_init 1 { frames := 1, cells := 3, slots := 176, locals := 12 } D cI cZ 2 [.null, .null, .null, .int (zI 0), .int (zI 0)] (w0X2 cI cZ) 3 176 := by
  refine c_start (by decide +kernel) rfl (Nat.le_of_ble_eq_true rfl) (fun Γ h0 F hQ => ?_)
  have F : zCF Γ cI cZ cX2_init { frames := 1, cells := 3, slots := 176, locals := 12 } 1 RX2 := F
  refine c_oi F (j := 0) wm_56 wm_15 wm_16 rfl (Nat.le_of_ble_eq_true rfl) (Nat.le_of_ble_eq_true rfl) dX2_init_0 dX2_init_1 ?_
  refine c_aload0 F (j := 0) rfl dX2_init_4 ?_
  refine c_sipush F sp_160 dX2_init_5 ?_
  refine c_newI F (N := 160) wm_17 (by decide) (by decide) (by decide) (Nat.le_of_ble_eq_true rfl) (Nat.le_of_ble_eq_true rfl) dX2_init_8 (fun q1 => ?_)
  refine c_putR F 0 0 inWX2 rfl rfl (by decide) wm_57 tyX2 tyX2_ok nmX2 rfl rfl (tyX2_ok 0 (by decide)) rfl rfl (Nat.le_of_ble_eq_true rfl) (ws2 := [(h0, .inr (2, [.ref q1, .null, .null, .int (zI 0), .int (zI 0)])), (q1, .inl (cI, 160, .inl (zA (fun _ => 0))))]) rfl dX2_init_10 ?_
  refine c_aload0 F (j := 0) rfl dX2_init_13 ?_
  refine c_bipush F bp_8 dX2_init_14 ?_
  refine c_newI F (N := 8) wm_17 (by decide) (by decide) (by decide) (Nat.le_of_ble_eq_true rfl) (Nat.le_of_ble_eq_true rfl) dX2_init_16 (fun q2 => ?_)
  refine c_putR F 0 1 inWX2 rfl rfl (by decide) wm_58 tyX2 tyX2_ok nmX2 rfl rfl (tyX2_ok 1 (by decide)) rfl rfl (Nat.le_of_ble_eq_true rfl) (ws2 := [(h0, .inr (2, [.ref q1, .ref q2, .null, .int (zI 0), .int (zI 0)])), (q1, .inl (cI, 160, .inl (zA (fun _ => 0)))), (q2, .inl (cI, 8, .inl (zA (fun _ => 0))))]) rfl dX2_init_18 ?_
  refine c_aload0 F (j := 0) rfl dX2_init_21 ?_
  refine c_bipush F bp_8 dX2_init_22 ?_
  refine c_newI F (N := 8) wm_17 (by decide) (by decide) (by decide) (Nat.le_of_ble_eq_true rfl) (Nat.le_of_ble_eq_true rfl) dX2_init_24 (fun q3 => ?_)
  refine c_putR F 0 2 inWX2 rfl rfl (by decide) wm_59 tyX2 tyX2_ok nmX2 rfl rfl (tyX2_ok 2 (by decide)) rfl rfl (Nat.le_of_ble_eq_true rfl) (ws2 := [(h0, .inr (2, [.ref q1, .ref q2, .ref q3, .int (zI 0), .int (zI 0)])), (q1, .inl (cI, 160, .inl (zA (fun _ => 0)))), (q2, .inl (cI, 8, .inl (zA (fun _ => 0)))), (q3, .inl (cI, 8, .inl (zA (fun _ => 0))))]) rfl dX2_init_26 ?_
  exact c_ret F hQ (fun k => ([h0, q1, q2, q3] : List Nat).getD k 0) rfl rfl dX2_init_29
def w0X8 (cI cZ : ClassId) (ad : Nat → Nat) : va_W := [(ad 0, .inr (8, [.ref (ad 1), .ref (ad 3), .ref (ad 7), .ref (ad 11), .ref (ad 23), .ref (ad 28), .ref (ad 34)])), (ad 1, .inr (4, [.ref (ad 2), .int (zI 0)])), (ad 2, .inl (cI, 12, .inl (zA (fun _ => 0)))), (ad 3, .inr (7, [.ref (ad 4), .ref (ad 5), .ref (ad 6), .int (zI 0)])), (ad 4, .inl (cI, 240, .inl (zA (fun _ => 0)))), (ad 5, .inl (cI, 20, .inl (zA (fun _ => 0)))), (ad 6, .inl (cI, 13, .inl (zA (fun _ => 0)))), (ad 7, .inr (0, [.ref (ad 8), .ref (ad 9), .ref (ad 10), .int (zI 0)])), (ad 8, .inl (cI, 12, .inl (zA (fun _ => 0)))), (ad 9, .inl (cI, 12, .inl (zA (fun _ => 0)))), (ad 10, .inl (cI, 12, .inl (zA (fun _ => 0)))), (ad 11, .inr (1, [.ref (ad 12), .ref (ad 13), .ref (ad 14), .ref (ad 15), .ref (ad 16), .ref (ad 17), .ref (ad 18), .ref (ad 19), .ref (ad 20), .ref (ad 21), .ref (ad 22), .int (zI 0)])), (ad 12, .inl (cI, 60, .inl (zA (fun _ => 0)))), (ad 13, .inl (cI, 60, .inl (zA (fun _ => 0)))), (ad 14, .inl (cI, 60, .inl (zA (fun _ => 0)))), (ad 15, .inl (cI, 60, .inl (zA (fun _ => 0)))), (ad 16, .inl (cI, 60, .inl (zA (fun _ => 0)))), (ad 17, .inl (cI, 60, .inl (zA (fun _ => 0)))), (ad 18, .inl (cI, 60, .inl (zA (fun _ => 0)))), (ad 19, .inl (cI, 60, .inl (zA (fun _ => 0)))), (ad 20, .inl (cI, 60, .inl (zA (fun _ => 0)))), (ad 21, .inl (cZ, 60, .inl (zA (fun _ => 0)))), (ad 22, .inl (cI, 60, .inl (zA (fun _ => 0)))), (ad 23, .inr (5, [.ref (ad 24), .ref (ad 25), .ref (ad 26), .ref (ad 27), .int (zI 0)])), (ad 24, .inl (cI, 10, .inl (zA (fun _ => 0)))), (ad 25, .inl (cI, 10, .inl (zA (fun _ => 0)))), (ad 26, .inl (cI, 6, .inl (zA (fun _ => 0)))), (ad 27, .inl (cI, 6, .inl (zA (fun _ => 0)))), (ad 28, .inr (6, [.ref (ad 29), .ref (ad 31), .ref (ad 33), .int (zI 0), .int (zI 0)])), (ad 29, .inr (3, [.ref (ad 30), .int (zI 0)])), (ad 30, .inl (cI, 240, .inl (zA (fun _ => 0)))), (ad 31, .inr (3, [.ref (ad 32), .int (zI 0)])), (ad 32, .inl (cI, 240, .inl (zA (fun _ => 0)))), (ad 33, .inl (cI, 240, .inl (zA (fun _ => 0)))), (ad 34, .inr (2, [.ref (ad 35), .ref (ad 36), .ref (ad 37), .int (zI 0), .int (zI 0)])), (ad 35, .inl (cI, 160, .inl (zA (fun _ => 0)))), (ad 36, .inl (cI, 8, .inl (zA (fun _ => 0)))), (ad 37, .inl (cI, 8, .inl (zA (fun _ => 0))))]
theorem fsX8_0 : ∀ j, j < 7 → defaultValue (tyX8 j) = vp_V [.null, .null, .null, .null, .null, .null, .null] j := by
  intro j hj
  match j, hj with
  | 0, _ => rfl
  | 1, _ => rfl
  | 2, _ => rfl
  | 3, _ => rfl
  | 4, _ => rfl
  | 5, _ => rfl
  | 6, _ => rfl
  | q + 7, h => exact absurd h (by omega)
set_option maxRecDepth 100000 in
theorem c_X8_init {l : Launch} {D : va_G} {cI cZ : ClassId} : zCt l yX8_init cX8_init 1 { frames := 3, cells := 37, slots := 1950, locals := 52 } D cI cZ 8 [.null, .null, .null, .null, .null, .null, .null] (w0X8 cI cZ) 37 1950 := by
  refine c_start (by decide +kernel) rfl (Nat.le_of_ble_eq_true rfl) (fun Γ h0 F hQ => ?_)
  have F : zCF Γ cI cZ cX8_init { frames := 3, cells := 37, slots := 1950, locals := 52 } 1 RX8 := F
  refine c_oi F (j := 0) wm_60 wm_15 wm_16 rfl (Nat.le_of_ble_eq_true rfl) (Nat.le_of_ble_eq_true rfl) dX8_init_0 dX8_init_1 ?_
  refine c_aload0 F (j := 0) rfl dX8_init_4 ?_
  refine c_new F (fs := [.null, .int (zI 0)]) inWX4 tyX4 tyX4_ok wm_61 wm_62 wm_63 (ci := 4) rfl (fsX4_0) (Nat.le_of_ble_eq_true rfl) (Nat.le_of_ble_eq_true rfl) dX8_init_5 (fun q1 => ?_)
  refine c_dup F rfl dX8_init_8 ?_
  refine c_ctor F (W0 := w0X4 cI cZ) wm_64 wm_63 wm_65 nw_X8_11 rfl ⟨by decide, by decide, by decide +kernel⟩ (fun l D => c_X4_init) ⟨rfl, rfl, Nat.le_of_ble_eq_true rfl, Nat.le_of_ble_eq_true rfl⟩ (Nat.le_of_ble_eq_true rfl) (Nat.le_of_ble_eq_true rfl) (Nat.le_of_ble_eq_true rfl) dX8_init_9 (fun ad1 e1 => ?_)
  subst e1
  refine c_putR F 0 0 inWX8 rfl rfl (by decide) wm_66 tyX8 tyX8_ok nmX8 rfl rfl (tyX8_ok 0 (by decide)) rfl rfl (Nat.le_of_ble_eq_true rfl) (ws2 := [(h0, .inr (8, [.ref (ad1 0), .null, .null, .null, .null, .null, .null])), (ad1 0, .inr (4, [.ref (ad1 1), .int (zI 0)])), (ad1 1, .inl (cI, 12, .inl (zA (fun _ => 0))))]) rfl dX8_init_12 ?_
  refine c_aload0 F (j := 0) rfl dX8_init_15 ?_
  refine c_new F (fs := [.null, .null, .null, .int (zI 0)]) inWX7 tyX7 tyX7_ok wm_67 wm_68 wm_69 (ci := 7) rfl (fsX7_0) (Nat.le_of_ble_eq_true rfl) (Nat.le_of_ble_eq_true rfl) dX8_init_16 (fun q2 => ?_)
  refine c_dup F rfl dX8_init_19 ?_
  refine c_ctor F (W0 := w0X7 cI cZ) wm_70 wm_69 wm_71 nw_X8_18 rfl ⟨by decide, by decide, by decide +kernel⟩ (fun l D => c_X7_init) ⟨rfl, rfl, Nat.le_of_ble_eq_true rfl, Nat.le_of_ble_eq_true rfl⟩ (Nat.le_of_ble_eq_true rfl) (Nat.le_of_ble_eq_true rfl) (Nat.le_of_ble_eq_true rfl) dX8_init_20 (fun ad2 e2 => ?_)
  subst e2
  refine c_putR F 0 1 inWX8 rfl rfl (by decide) wm_72 tyX8 tyX8_ok nmX8 rfl rfl (tyX8_ok 1 (by decide)) rfl rfl (Nat.le_of_ble_eq_true rfl) (ws2 := [(h0, .inr (8, [.ref (ad1 0), .ref (ad2 0), .null, .null, .null, .null, .null])), (ad1 0, .inr (4, [.ref (ad1 1), .int (zI 0)])), (ad1 1, .inl (cI, 12, .inl (zA (fun _ => 0)))), (ad2 0, .inr (7, [.ref (ad2 1), .ref (ad2 2), .ref (ad2 3), .int (zI 0)])), (ad2 1, .inl (cI, 240, .inl (zA (fun _ => 0)))), (ad2 2, .inl (cI, 20, .inl (zA (fun _ => 0)))), (ad2 3, .inl (cI, 13, .inl (zA (fun _ => 0))))]) rfl dX8_init_23 ?_
  refine c_aload0 F (j := 0) rfl dX8_init_26 ?_
  refine c_new F (fs := [.null, .null, .null, .int (zI 0)]) inWX0 tyX0 tyX0_ok wm_73 wm_74 wm_75 (ci := 0) rfl (fsX0_0) (Nat.le_of_ble_eq_true rfl) (Nat.le_of_ble_eq_true rfl) dX8_init_27 (fun q3 => ?_)
  refine c_dup F rfl dX8_init_30 ?_
  refine c_ctor F (W0 := w0X0 cI cZ) wm_76 wm_75 wm_77 nw_X8_25 rfl ⟨by decide, by decide, by decide +kernel⟩ (fun l D => c_X0_init) ⟨rfl, rfl, Nat.le_of_ble_eq_true rfl, Nat.le_of_ble_eq_true rfl⟩ (Nat.le_of_ble_eq_true rfl) (Nat.le_of_ble_eq_true rfl) (Nat.le_of_ble_eq_true rfl) dX8_init_31 (fun ad3 e3 => ?_)
  subst e3
  refine c_putR F 0 2 inWX8 rfl rfl (by decide) wm_78 tyX8 tyX8_ok nmX8 rfl rfl (tyX8_ok 2 (by decide)) rfl rfl (Nat.le_of_ble_eq_true rfl) (ws2 := [(h0, .inr (8, [.ref (ad1 0), .ref (ad2 0), .ref (ad3 0), .null, .null, .null, .null])), (ad1 0, .inr (4, [.ref (ad1 1), .int (zI 0)])), (ad1 1, .inl (cI, 12, .inl (zA (fun _ => 0)))), (ad2 0, .inr (7, [.ref (ad2 1), .ref (ad2 2), .ref (ad2 3), .int (zI 0)])), (ad2 1, .inl (cI, 240, .inl (zA (fun _ => 0)))), (ad2 2, .inl (cI, 20, .inl (zA (fun _ => 0)))), (ad2 3, .inl (cI, 13, .inl (zA (fun _ => 0)))), (ad3 0, .inr (0, [.ref (ad3 1), .ref (ad3 2), .ref (ad3 3), .int (zI 0)])), (ad3 1, .inl (cI, 12, .inl (zA (fun _ => 0)))), (ad3 2, .inl (cI, 12, .inl (zA (fun _ => 0)))), (ad3 3, .inl (cI, 12, .inl (zA (fun _ => 0))))]) rfl dX8_init_34 ?_
  refine c_aload0 F (j := 0) rfl dX8_init_37 ?_
  refine c_new F (fs := [.null, .null, .null, .null, .null, .null, .null, .null, .null, .null, .null, .int (zI 0)]) inWX1 tyX1 tyX1_ok wm_79 wm_80 wm_81 (ci := 1) rfl (fsX1_0) (Nat.le_of_ble_eq_true rfl) (Nat.le_of_ble_eq_true rfl) dX8_init_38 (fun q4 => ?_)
  refine c_dup F rfl dX8_init_41 ?_
  refine c_ctor F (W0 := w0X1 cI cZ) wm_82 wm_81 wm_83 nw_X8_32 rfl ⟨by decide, by decide, by decide +kernel⟩ (fun l D => c_X1_init) ⟨rfl, rfl, Nat.le_of_ble_eq_true rfl, Nat.le_of_ble_eq_true rfl⟩ (Nat.le_of_ble_eq_true rfl) (Nat.le_of_ble_eq_true rfl) (Nat.le_of_ble_eq_true rfl) dX8_init_42 (fun ad4 e4 => ?_)
  subst e4
  refine c_putR F 0 3 inWX8 rfl rfl (by decide) wm_84 tyX8 tyX8_ok nmX8 rfl rfl (tyX8_ok 3 (by decide)) rfl rfl (Nat.le_of_ble_eq_true rfl) (ws2 := [(h0, .inr (8, [.ref (ad1 0), .ref (ad2 0), .ref (ad3 0), .ref (ad4 0), .null, .null, .null])), (ad1 0, .inr (4, [.ref (ad1 1), .int (zI 0)])), (ad1 1, .inl (cI, 12, .inl (zA (fun _ => 0)))), (ad2 0, .inr (7, [.ref (ad2 1), .ref (ad2 2), .ref (ad2 3), .int (zI 0)])), (ad2 1, .inl (cI, 240, .inl (zA (fun _ => 0)))), (ad2 2, .inl (cI, 20, .inl (zA (fun _ => 0)))), (ad2 3, .inl (cI, 13, .inl (zA (fun _ => 0)))), (ad3 0, .inr (0, [.ref (ad3 1), .ref (ad3 2), .ref (ad3 3), .int (zI 0)])), (ad3 1, .inl (cI, 12, .inl (zA (fun _ => 0)))), (ad3 2, .inl (cI, 12, .inl (zA (fun _ => 0)))), (ad3 3, .inl (cI, 12, .inl (zA (fun _ => 0)))), (ad4 0, .inr (1, [.ref (ad4 1), .ref (ad4 2), .ref (ad4 3), .ref (ad4 4), .ref (ad4 5), .ref (ad4 6), .ref (ad4 7), .ref (ad4 8), .ref (ad4 9), .ref (ad4 10), .ref (ad4 11), .int (zI 0)])), (ad4 1, .inl (cI, 60, .inl (zA (fun _ => 0)))), (ad4 2, .inl (cI, 60, .inl (zA (fun _ => 0)))), (ad4 3, .inl (cI, 60, .inl (zA (fun _ => 0)))), (ad4 4, .inl (cI, 60, .inl (zA (fun _ => 0)))), (ad4 5, .inl (cI, 60, .inl (zA (fun _ => 0)))), (ad4 6, .inl (cI, 60, .inl (zA (fun _ => 0)))), (ad4 7, .inl (cI, 60, .inl (zA (fun _ => 0)))), (ad4 8, .inl (cI, 60, .inl (zA (fun _ => 0)))), (ad4 9, .inl (cI, 60, .inl (zA (fun _ => 0)))), (ad4 10, .inl (cZ, 60, .inl (zA (fun _ => 0)))), (ad4 11, .inl (cI, 60, .inl (zA (fun _ => 0))))]) rfl dX8_init_45 ?_
  refine c_aload0 F (j := 0) rfl dX8_init_48 ?_
  refine c_new F (fs := [.null, .null, .null, .null, .int (zI 0)]) inWX5 tyX5 tyX5_ok wm_85 wm_86 wm_87 (ci := 5) rfl (fsX5_0) (Nat.le_of_ble_eq_true rfl) (Nat.le_of_ble_eq_true rfl) dX8_init_49 (fun q5 => ?_)
  refine c_dup F rfl dX8_init_52 ?_
  refine c_ctor F (W0 := w0X5 cI cZ) wm_88 wm_87 wm_89 nw_X8_39 rfl ⟨by decide, by decide, by decide +kernel⟩ (fun l D => c_X5_init) ⟨rfl, rfl, Nat.le_of_ble_eq_true rfl, Nat.le_of_ble_eq_true rfl⟩ (Nat.le_of_ble_eq_true rfl) (Nat.le_of_ble_eq_true rfl) (Nat.le_of_ble_eq_true rfl) dX8_init_53 (fun ad5 e5 => ?_)
  subst e5
  refine c_putR F 0 4 inWX8 rfl rfl (by decide) wm_90 tyX8 tyX8_ok nmX8 rfl rfl (tyX8_ok 4 (by decide)) rfl rfl (Nat.le_of_ble_eq_true rfl) (ws2 := [(h0, .inr (8, [.ref (ad1 0), .ref (ad2 0), .ref (ad3 0), .ref (ad4 0), .ref (ad5 0), .null, .null])), (ad1 0, .inr (4, [.ref (ad1 1), .int (zI 0)])), (ad1 1, .inl (cI, 12, .inl (zA (fun _ => 0)))), (ad2 0, .inr (7, [.ref (ad2 1), .ref (ad2 2), .ref (ad2 3), .int (zI 0)])), (ad2 1, .inl (cI, 240, .inl (zA (fun _ => 0)))), (ad2 2, .inl (cI, 20, .inl (zA (fun _ => 0)))), (ad2 3, .inl (cI, 13, .inl (zA (fun _ => 0)))), (ad3 0, .inr (0, [.ref (ad3 1), .ref (ad3 2), .ref (ad3 3), .int (zI 0)])), (ad3 1, .inl (cI, 12, .inl (zA (fun _ => 0)))), (ad3 2, .inl (cI, 12, .inl (zA (fun _ => 0)))), (ad3 3, .inl (cI, 12, .inl (zA (fun _ => 0)))), (ad4 0, .inr (1, [.ref (ad4 1), .ref (ad4 2), .ref (ad4 3), .ref (ad4 4), .ref (ad4 5), .ref (ad4 6), .ref (ad4 7), .ref (ad4 8), .ref (ad4 9), .ref (ad4 10), .ref (ad4 11), .int (zI 0)])), (ad4 1, .inl (cI, 60, .inl (zA (fun _ => 0)))), (ad4 2, .inl (cI, 60, .inl (zA (fun _ => 0)))), (ad4 3, .inl (cI, 60, .inl (zA (fun _ => 0)))), (ad4 4, .inl (cI, 60, .inl (zA (fun _ => 0)))), (ad4 5, .inl (cI, 60, .inl (zA (fun _ => 0)))), (ad4 6, .inl (cI, 60, .inl (zA (fun _ => 0)))), (ad4 7, .inl (cI, 60, .inl (zA (fun _ => 0)))), (ad4 8, .inl (cI, 60, .inl (zA (fun _ => 0)))), (ad4 9, .inl (cI, 60, .inl (zA (fun _ => 0)))), (ad4 10, .inl (cZ, 60, .inl (zA (fun _ => 0)))), (ad4 11, .inl (cI, 60, .inl (zA (fun _ => 0)))), (ad5 0, .inr (5, [.ref (ad5 1), .ref (ad5 2), .ref (ad5 3), .ref (ad5 4), .int (zI 0)])), (ad5 1, .inl (cI, 10, .inl (zA (fun _ => 0)))), (ad5 2, .inl (cI, 10, .inl (zA (fun _ => 0)))), (ad5 3, .inl (cI, 6, .inl (zA (fun _ => 0)))), (ad5 4, .inl (cI, 6, .inl (zA (fun _ => 0))))]) rfl dX8_init_56 ?_
  refine c_aload0 F (j := 0) rfl dX8_init_59 ?_
  refine c_new F (fs := [.null, .null, .null, .int (zI 0), .int (zI 0)]) inWX6 tyX6 tyX6_ok wm_91 wm_92 wm_93 (ci := 6) rfl (fsX6_0) (Nat.le_of_ble_eq_true rfl) (Nat.le_of_ble_eq_true rfl) dX8_init_60 (fun q6 => ?_)
  refine c_dup F rfl dX8_init_63 ?_
  refine c_ctor F (W0 := w0X6 cI cZ) wm_94 wm_93 wm_95 nw_X8_46 rfl ⟨by decide, by decide, by decide +kernel⟩ (fun l D => c_X6_init) ⟨rfl, rfl, Nat.le_of_ble_eq_true rfl, Nat.le_of_ble_eq_true rfl⟩ (Nat.le_of_ble_eq_true rfl) (Nat.le_of_ble_eq_true rfl) (Nat.le_of_ble_eq_true rfl) dX8_init_64 (fun ad6 e6 => ?_)
  subst e6
  refine c_putR F 0 5 inWX8 rfl rfl (by decide) wm_96 tyX8 tyX8_ok nmX8 rfl rfl (tyX8_ok 5 (by decide)) rfl rfl (Nat.le_of_ble_eq_true rfl) (ws2 := [(h0, .inr (8, [.ref (ad1 0), .ref (ad2 0), .ref (ad3 0), .ref (ad4 0), .ref (ad5 0), .ref (ad6 0), .null])), (ad1 0, .inr (4, [.ref (ad1 1), .int (zI 0)])), (ad1 1, .inl (cI, 12, .inl (zA (fun _ => 0)))), (ad2 0, .inr (7, [.ref (ad2 1), .ref (ad2 2), .ref (ad2 3), .int (zI 0)])), (ad2 1, .inl (cI, 240, .inl (zA (fun _ => 0)))), (ad2 2, .inl (cI, 20, .inl (zA (fun _ => 0)))), (ad2 3, .inl (cI, 13, .inl (zA (fun _ => 0)))), (ad3 0, .inr (0, [.ref (ad3 1), .ref (ad3 2), .ref (ad3 3), .int (zI 0)])), (ad3 1, .inl (cI, 12, .inl (zA (fun _ => 0)))), (ad3 2, .inl (cI, 12, .inl (zA (fun _ => 0)))), (ad3 3, .inl (cI, 12, .inl (zA (fun _ => 0)))), (ad4 0, .inr (1, [.ref (ad4 1), .ref (ad4 2), .ref (ad4 3), .ref (ad4 4), .ref (ad4 5), .ref (ad4 6), .ref (ad4 7), .ref (ad4 8), .ref (ad4 9), .ref (ad4 10), .ref (ad4 11), .int (zI 0)])), (ad4 1, .inl (cI, 60, .inl (zA (fun _ => 0)))), (ad4 2, .inl (cI, 60, .inl (zA (fun _ => 0)))), (ad4 3, .inl (cI, 60, .inl (zA (fun _ => 0)))), (ad4 4, .inl (cI, 60, .inl (zA (fun _ => 0)))), (ad4 5, .inl (cI, 60, .inl (zA (fun _ => 0)))), (ad4 6, .inl (cI, 60, .inl (zA (fun _ => 0)))), (ad4 7, .inl (cI, 60, .inl (zA (fun _ => 0)))), (ad4 8, .inl (cI, 60, .inl (zA (fun _ => 0)))), (ad4 9, .inl (cI, 60, .inl (zA (fun _ => 0)))), (ad4 10, .inl (cZ, 60, .inl (zA (fun _ => 0)))), (ad4 11, .inl (cI, 60, .inl (zA (fun _ => 0)))), (ad5 0, .inr (5, [.ref (ad5 1), .ref (ad5 2), .ref (ad5 3), .ref (ad5 4), .int (zI 0)])), (ad5 1, .inl (cI, 10, .inl (zA (fun _ => 0)))), (ad5 2, .inl (cI, 10, .inl (zA (fun _ => 0)))), (ad5 3, .inl (cI, 6, .inl (zA (fun _ => 0)))), (ad5 4, .inl (cI, 6, .inl (zA (fun _ => 0)))), (ad6 0, .inr (6, [.ref (ad6 1), .ref (ad6 3), .ref (ad6 5), .int (zI 0), .int (zI 0)])), (ad6 1, .inr (3, [.ref (ad6 2), .int (zI 0)])), (ad6 2, .inl (cI, 240, .inl (zA (fun _ => 0)))), (ad6 3, .inr (3, [.ref (ad6 4), .int (zI 0)])), (ad6 4, .inl (cI, 240, .inl (zA (fun _ => 0)))), (ad6 5, .inl (cI, 240, .inl (zA (fun _ => 0))))]) rfl dX8_init_67 ?_
  refine c_aload0 F (j := 0) rfl dX8_init_70 ?_
  refine c_new F (fs := [.null, .null, .null, .int (zI 0), .int (zI 0)]) inWX2 tyX2 tyX2_ok wm_97 wm_98 wm_99 (ci := 2) rfl (fsX2_0) (Nat.le_of_ble_eq_true rfl) (Nat.le_of_ble_eq_true rfl) dX8_init_71 (fun q7 => ?_)
  refine c_dup F rfl dX8_init_74 ?_
  refine c_ctor F (W0 := w0X2 cI cZ) wm_100 wm_99 wm_101 nw_X8_53 rfl ⟨by decide, by decide, by decide +kernel⟩ (fun l D => c_X2_init) ⟨rfl, rfl, Nat.le_of_ble_eq_true rfl, Nat.le_of_ble_eq_true rfl⟩ (Nat.le_of_ble_eq_true rfl) (Nat.le_of_ble_eq_true rfl) (Nat.le_of_ble_eq_true rfl) dX8_init_75 (fun ad7 e7 => ?_)
  subst e7
  refine c_putR F 0 6 inWX8 rfl rfl (by decide) wm_102 tyX8 tyX8_ok nmX8 rfl rfl (tyX8_ok 6 (by decide)) rfl rfl (Nat.le_of_ble_eq_true rfl) (ws2 := [(h0, .inr (8, [.ref (ad1 0), .ref (ad2 0), .ref (ad3 0), .ref (ad4 0), .ref (ad5 0), .ref (ad6 0), .ref (ad7 0)])), (ad1 0, .inr (4, [.ref (ad1 1), .int (zI 0)])), (ad1 1, .inl (cI, 12, .inl (zA (fun _ => 0)))), (ad2 0, .inr (7, [.ref (ad2 1), .ref (ad2 2), .ref (ad2 3), .int (zI 0)])), (ad2 1, .inl (cI, 240, .inl (zA (fun _ => 0)))), (ad2 2, .inl (cI, 20, .inl (zA (fun _ => 0)))), (ad2 3, .inl (cI, 13, .inl (zA (fun _ => 0)))), (ad3 0, .inr (0, [.ref (ad3 1), .ref (ad3 2), .ref (ad3 3), .int (zI 0)])), (ad3 1, .inl (cI, 12, .inl (zA (fun _ => 0)))), (ad3 2, .inl (cI, 12, .inl (zA (fun _ => 0)))), (ad3 3, .inl (cI, 12, .inl (zA (fun _ => 0)))), (ad4 0, .inr (1, [.ref (ad4 1), .ref (ad4 2), .ref (ad4 3), .ref (ad4 4), .ref (ad4 5), .ref (ad4 6), .ref (ad4 7), .ref (ad4 8), .ref (ad4 9), .ref (ad4 10), .ref (ad4 11), .int (zI 0)])), (ad4 1, .inl (cI, 60, .inl (zA (fun _ => 0)))), (ad4 2, .inl (cI, 60, .inl (zA (fun _ => 0)))), (ad4 3, .inl (cI, 60, .inl (zA (fun _ => 0)))), (ad4 4, .inl (cI, 60, .inl (zA (fun _ => 0)))), (ad4 5, .inl (cI, 60, .inl (zA (fun _ => 0)))), (ad4 6, .inl (cI, 60, .inl (zA (fun _ => 0)))), (ad4 7, .inl (cI, 60, .inl (zA (fun _ => 0)))), (ad4 8, .inl (cI, 60, .inl (zA (fun _ => 0)))), (ad4 9, .inl (cI, 60, .inl (zA (fun _ => 0)))), (ad4 10, .inl (cZ, 60, .inl (zA (fun _ => 0)))), (ad4 11, .inl (cI, 60, .inl (zA (fun _ => 0)))), (ad5 0, .inr (5, [.ref (ad5 1), .ref (ad5 2), .ref (ad5 3), .ref (ad5 4), .int (zI 0)])), (ad5 1, .inl (cI, 10, .inl (zA (fun _ => 0)))), (ad5 2, .inl (cI, 10, .inl (zA (fun _ => 0)))), (ad5 3, .inl (cI, 6, .inl (zA (fun _ => 0)))), (ad5 4, .inl (cI, 6, .inl (zA (fun _ => 0)))), (ad6 0, .inr (6, [.ref (ad6 1), .ref (ad6 3), .ref (ad6 5), .int (zI 0), .int (zI 0)])), (ad6 1, .inr (3, [.ref (ad6 2), .int (zI 0)])), (ad6 2, .inl (cI, 240, .inl (zA (fun _ => 0)))), (ad6 3, .inr (3, [.ref (ad6 4), .int (zI 0)])), (ad6 4, .inl (cI, 240, .inl (zA (fun _ => 0)))), (ad6 5, .inl (cI, 240, .inl (zA (fun _ => 0)))), (ad7 0, .inr (2, [.ref (ad7 1), .ref (ad7 2), .ref (ad7 3), .int (zI 0), .int (zI 0)])), (ad7 1, .inl (cI, 160, .inl (zA (fun _ => 0)))), (ad7 2, .inl (cI, 8, .inl (zA (fun _ => 0)))), (ad7 3, .inl (cI, 8, .inl (zA (fun _ => 0))))]) rfl dX8_init_78 ?_
  exact c_ret F hQ (fun k => ([h0, ad1 0, ad1 1, ad2 0, ad2 1, ad2 2, ad2 3, ad3 0, ad3 1, ad3 2, ad3 3, ad4 0, ad4 1, ad4 2, ad4 3, ad4 4, ad4 5, ad4 6, ad4 7, ad4 8, ad4 9, ad4 10, ad4 11, ad5 0, ad5 1, ad5 2, ad5 3, ad5 4, ad6 0, ad6 1, ad6 2, ad6 3, ad6 4, ad6 5, ad7 0, ad7 1, ad7 2, ad7 3] : List Nat).getD k 0) rfl rfl dX8_init_81
def zS0 : zSt := (fun _ => 0, fun _ _ => 0)
theorem zS0_G (bs : List Nat) : RG bs zS0 := ⟨fun _ => by show inR 0; decide, fun _ _ => by show inR 0; decide, fun _ _ _ => Or.inl rfl⟩
theorem zD_same {D : va_G} {A : Nat → Prop} {w : zSt → va_W} (h : ∀ S S', (w S).map Prod.fst = (w S').map Prod.fst) {S S' : zSt} (hd : va_D A (w S)) : va_D A (w S') := by
  have key : ∀ {i : Nat} {p : Nat × va_E}, (w S')[i]? = some p → ∃ q, (w S)[i]? = some q ∧ q.1 = p.1 := by
    intro i p hp
    have e1 : ((w S').map Prod.fst)[i]? = some p.1 := by rw [List.getElem?_map, hp]; rfl
    rw [h S' S, List.getElem?_map] at e1
    cases hq : (w S)[i]? with
    | none => rw [hq] at e1; cases e1
    | some q => rw [hq] at e1; exact ⟨q, rfl, Option.some.inj e1⟩
  refine ⟨fun i j p q hp hq e => ?_, fun k q hq => ?_⟩
  · obtain ⟨p2, h1, h2⟩ := key hp
    obtain ⟨q2, h3, h4⟩ := key hq
    exact hd.1 i j p2 q2 h1 h3 (by rw [h2, h4]; exact e)
  · obtain ⟨q2, h3, h4⟩ := key hq
    rw [← h4]
    exact hd.2 k q2 h3
set_option maxRecDepth 100000 in
theorem wC_same (cI cZ : ClassId) (ad : Nat → Nat) (S S' : zSt) : (wC cI cZ ad S).map Prod.fst = (wC cI cZ ad S').map Prod.fst := rfl
end
section
/-! MIRRORS of the class -/
noncomputable def m_X0_count (S : zSt) : Option zRes := zlt (S.1 2) fun x1 => some (x1, S)
noncomputable def m_X0_isFull (S : zSt) : Option zRes := zlt (S.1 2) fun x1 => if x1 < 12 then (some (0, S)) else (some (1, S))
noncomputable def m_X0_has (S : zSt) (a1 : Int) : Option zRes := zj0 (fun (S1 : zSt) => some (0, S1)) fun j1 => if a1 < 0 then (j1 S) else (zlt (S.1 2) fun x1 => if x1 ≤ a1 then (j1 S) else (some (1, S)))
noncomputable def m_X0_add (S : zSt) (a1 : Int) (a2 : Int) (a3 : Int) : Option zRes := zbd (m_X0_isFull S) fun x1 S1 => if x1 = 0 then (zlt (S1.1 2) fun x2 => zst S1 4 12 x2 a1 fun S2 => zlt (S2.1 2) fun x3 => zst S2 5 12 x3 a2 fun S3 => zlt (S3.1 2) fun x4 => zst S3 6 12 x4 a3 fun S4 => zlt (S4.1 2) fun x5 => zar (x5 + 1) fun x6 => zlt (zset S4 2 x6) fun S5 => some (0, S5)) else (some (0, S1))
noncomputable def m_X1_isFull (S : zSt) : Option zRes := zlt (S.1 3) fun x1 => if x1 < 60 then (some (0, S)) else (some (1, S))
noncomputable def m_X1_has (S : zSt) (a1 : Int) : Option zRes := zj0 (fun (S1 : zSt) => some (0, S1)) fun j1 => if a1 < 0 then (j1 S) else (zlt (S.1 3) fun x1 => if x1 ≤ a1 then (j1 S) else (some (1, S)))
noncomputable def m_X1_add (S : zSt) (a1 : Int) (a2 : Int) (a3 : Int) (a4 : Int) : Option zRes := zbd (m_X1_isFull S) fun x1 S1 => if x1 = 0 then (zlt (S1.1 3) fun x2 => zst S1 7 60 x2 a1 fun S2 => zlt (S2.1 3) fun x3 => zst S2 8 60 x3 a2 fun S3 => zlt (S3.1 3) fun x4 => zst S3 9 60 x4 a3 fun S4 => zlt (S4.1 3) fun x5 => zst S4 10 60 x5 a4 fun S5 => zlt (S5.1 3) fun x6 => zar (x6 + 1) fun x7 => zlt (zset S5 3 x7) fun S6 => zlt (S6.1 3) fun x8 => zar (x8 - 1) fun x9 => some (x9, S6)) else (some ((-1), S1))
noncomputable def m_X1_hookTo (S : zSt) (a1 : Int) (a2 : Int) (a3 : Int) (a4 : Int) : Option zRes := zbd (m_X1_has S a1) fun x1 S1 => if x1 = 0 then (some (0, S1)) else (zst S1 11 60 a1 (-1) fun S2 => zst S2 12 60 a1 a1 fun S3 => zst S3 13 60 a1 a2 fun S4 => zst S4 14 60 a1 a3 fun S5 => zst S5 15 60 a1 a4 fun S6 => some (0, S6))
noncomputable def m_X1_authorOf (S : zSt) (a1 : Int) : Option zRes := zbd (m_at S 7 60 a1) fun x1 S1 => some (x1, S1)
noncomputable def m_X1_kindOf (S : zSt) (a1 : Int) : Option zRes := zbd (m_at S 8 60 a1) fun x1 S1 => some (x1, S1)
noncomputable def m_X1_parentOf (S : zSt) (a1 : Int) : Option zRes := zbd (m_at S 11 60 a1) fun x1 S1 => some (x1, S1)
noncomputable def m_X1_unitOf (S : zSt) (a1 : Int) : Option zRes := zbd (m_at S 12 60 a1) fun x1 S1 => zbd (m_at S1 13 60 x1) fun x2 S2 => some (x2, S2)
noncomputable def m_X1_placeOf (S : zSt) (a1 : Int) : Option zRes := zbd (m_at S 12 60 a1) fun x1 S1 => zbd (m_at S1 14 60 x1) fun x2 S2 => some (x2, S2)
noncomputable def m_X1_isLost (S : zSt) (a1 : Int) : Option zRes := zbd (m_at S 12 60 a1) fun x1 S1 => zbd (m_X1_has S1 x1) fun x2 S2 => zj0 (fun (S3 : zSt) => some (0, S3)) fun j1 => if x2 = 0 then (j1 S2) else (zld (S2.2 16) 60 x1 fun x3 => if x3 = 0 then (j1 S2) else (some (1, S2)))
noncomputable def m_X1_isHook (S : zSt) (a1 : Int) (a2 : Int) : Option zRes := zbd (m_X1_has S a1) fun x1 S1 => zj0 (fun (S2 : zSt) => some (0, S2)) fun j1 => if x1 = 0 then (j1 S1) else (zld (S1.2 11) 60 a1 fun x2 => if x2 = (-1) then (zld (S1.2 13) 60 a1 fun x3 => if x3 = a2 then (some (1, S1)) else (j1 S1)) else (j1 S1))
noncomputable def b_X1_closeGap_3 (a1 : Int) (a2 : Int) (a3 : Int) (rec1 : Int → zSt → Option zRes) (v1 : Int) (S1 : zSt) : Option zRes := zlt (S1.1 3) fun x1 => if x1 ≤ v1 then (some (0, S1)) else (zbd (m_X1_isHook S1 v1 a1) fun x2 S2 => zj0 (fun (S3 : zSt) => zar (v1 + 1) fun x3 => rec1 x3 S3) fun j1 => if x2 = 0 then (j1 S2) else (zld (S2.2 14) 60 v1 fun x4 => zj1 (fun (v2 : Int) (S4 : zSt) => zlt (if a3 < v2 then a3 else v2) fun x5 => zst S4 14 60 v1 x5 fun S5 => j1 S5) fun j2 => if x4 ≤ a2 then (j2 x4 S2) else (zar (x4 - 1) fun x6 => j2 x6 S2)))
noncomputable def m_X1_closeGap (S : zSt) (a1 : Int) (a2 : Int) (a3 : Int) : Option zRes := zl1 1000 (b_X1_closeGap_3 a1 a2 a3) 0 S
noncomputable def m_X7_has (S : zSt) (a1 : Int) : Option zRes := zj0 (fun (S1 : zSt) => some (0, S1)) fun j1 => if a1 < 0 then (j1 S) else (zlt (S.1 1) fun x1 => if x1 ≤ a1 then (j1 S) else (some (1, S)))
noncomputable def m_X7_sizeOf (S : zSt) (a1 : Int) : Option zRes := zbd (m_X7_has S a1) fun x1 S1 => if x1 = 0 then (some (0, S1)) else (zld (S1.2 2) 20 a1 fun x2 => some (x2, S1))
noncomputable def m_X7_hasPlace (S : zSt) (a1 : Int) (a2 : Int) : Option zRes := zj0 (fun (S1 : zSt) => some (0, S1)) fun j1 => if a2 < 0 then (j1 S) else (zbd (m_X7_sizeOf S a1) fun x1 S2 => if x1 ≤ a2 then (j1 S2) else (some (1, S2)))
noncomputable def m_X7_wordAt (S : zSt) (a1 : Int) (a2 : Int) : Option zRes := zbd (m_X7_hasPlace S a1 a2) fun x1 S1 => if x1 = 0 then (some ((-1), S1)) else (zar (a1 * 12) fun x2 => zar (x2 + a2) fun x3 => zld (S1.2 1) 240 x3 fun x4 => some (x4, S1))
noncomputable def b_X7_nearest_6 (a1 : Int) (a2 : Int) (a3 : Int) (j1 : Int → zSt → Option zRes) (rec1 : Int → Int → zSt → Option zRes) (v2 : Int) (v3 : Int) (S2 : zSt) : Option zRes := zbd (m_X7_sizeOf S2 a1) fun x1 S3 => if x1 ≤ v3 then (j1 v2 S3) else (zbd (m_X7_wordAt S3 a1 v3) fun x2 S4 => zj1 (fun (v4 : Int) (S5 : zSt) => zar (v3 + 1) fun x3 => rec1 v4 x3 S5) fun j2 => if x2 = a2 then (zj0 (fun (S6 : zSt) => j2 v3 S6) fun j3 => if v2 = (-1) then (j3 S4) else (zar (v3 - a3) fun x4 => zar (if 0 ≤ x4 then x4 else 0 - x4) fun x5 => zar (v2 - a3) fun x6 => zar (if 0 ≤ x6 then x6 else 0 - x6) fun x7 => if x7 ≤ x5 then (j2 v2 S4) else (j3 S4))) else (j2 v2 S4))
noncomputable def m_X7_nearest (S : zSt) (a1 : Int) (a2 : Int) (a3 : Int) : Option zRes := zj1 (fun (v1 : Int) (S1 : zSt) => some (v1, S1)) fun j1 => zl2 1000 (b_X7_nearest_6 a1 a2 a3 j1) (-1) 0 S
noncomputable def b_X1_hookAnew_5 (a1 : Int) (j1 : Int → zSt → Option zRes) (rec1 : Int → Int → zSt → Option zRes) (v2 : Int) (v3 : Int) (S2 : zSt) : Option zRes := zlt (S2.1 3) fun x1 => if x1 ≤ v3 then (j1 v2 S2) else (zbd (m_X1_isHook S2 v3 a1) fun x2 S3 => zj1 (fun (v4 : Int) (S4 : zSt) => zar (v3 + 1) fun x3 => rec1 v4 x3 S4) fun j2 => if x2 = 0 then (j2 v2 S3) else (zld (S3.2 15) 60 v3 fun x4 => zld (S3.2 14) 60 v3 fun x5 => zbd (m_X7_nearest S3 a1 x4 x5) fun x6 S5 => zj1 (fun (v5 : Int) (S6 : zSt) => zj0 (fun (S7 : zSt) => zld (S7.2 16) 60 v3 fun x7 => if v5 = x7 then (j2 v2 S7) else (zc01 v5 <| zst S7 16 60 v3 v5 fun S8 => zar (v2 + 1) fun x8 => j2 x8 S8)) fun j3 => if v5 = 0 then (zst S6 14 60 v3 x6 fun S9 => j3 S9) else (j3 S6)) fun j4 => if x6 = (-1) then (j4 1 S5) else (j4 0 S5)))
noncomputable def m_X1_hookAnew (S : zSt) (a1 : Int) : Option zRes := zj1 (fun (v1 : Int) (S1 : zSt) => some (v1, S1)) fun j1 => zl2 1000 (b_X1_hookAnew_5 a1 j1) 0 0 S
noncomputable def m_X1_isLight (S : zSt) (a1 : Int) : Option zRes := zbd (m_at S 17 60 a1) fun x1 S1 => if 1 ≤ x1 then (some (0, S1)) else (some (1, S1))
noncomputable def m_X1_burdenOf (S : zSt) (a1 : Int) : Option zRes := zj0 (fun (S1 : zSt) => some (1, S1)) fun j1 => if a1 = 1 then (j1 S) else (if a1 = 3 then (j1 S) else (if a1 = 2 then (some ((-1), S)) else (some (0, S))))
noncomputable def b_X1_weigh_15 (rec1 : Int → zSt → Option zRes) (v1 : Int) (S2 : zSt) : Option zRes := if v1 < 0 then (some (0, S2)) else (zld (S2.2 11) 60 v1 fun x3 => zbd (m_X1_has S2 x3) fun x4 S3 => zj0 (fun (S4 : zSt) => zar (v1 + (-1)) fun x5 => rec1 x5 S4) fun j1 => if x4 = 0 then (j1 S3) else (zbd (m_X1_isLight S3 v1) fun x6 S5 => if x6 = 0 then (j1 S5) else (zld (S5.2 17) 60 x3 fun x7 => zld (S5.2 8) 60 v1 fun x8 => zbd (m_X1_burdenOf S5 x8) fun x9 S6 => zar (x7 + x9) fun x10 => zst S6 17 60 x3 x10 fun S7 => j1 S7)))
noncomputable def m_X1_weigh (S : zSt) : Option zRes := zlt (zfl S 17 60 0) fun S1 => zlt (S1.1 3) fun x1 => zar (x1 - 1) fun x2 => zl1 1000 b_X1_weigh_15 x2 S1
noncomputable def m_X1_stands (S : zSt) (a1 : Int) : Option zRes := zbd (m_X1_weigh S) fun x1 S1 => zbd (m_X1_isLight S1 a1) fun x2 S2 => some (x2, S2)
noncomputable def m_X4_size (S : zSt) : Option zRes := zlt (S.1 0) fun x1 => some (x1, S)
noncomputable def m_X4_isFull (S : zSt) : Option zRes := zlt (S.1 0) fun x1 => if x1 < 12 then (some (0, S)) else (some (1, S))
noncomputable def m_X4_add (S : zSt) (a1 : Int) : Option zRes := zbd (m_X4_isFull S) fun x1 S1 => if x1 = 0 then (zlt (S1.1 0) fun x2 => zst S1 0 12 x2 a1 fun S2 => zlt (S2.1 0) fun x3 => zar (x3 + 1) fun x4 => zlt (zset S2 0 x4) fun S3 => some (0, S3)) else (some (0, S1))
noncomputable def m_X4_clear (S : zSt) : Option zRes := zlt (zset S 0 0) fun S1 => some (0, S1)
noncomputable def m_X4_wordAt (S : zSt) (a1 : Int) : Option zRes := zlt (S.1 0) fun x1 => if x1 ≤ a1 then (some ((-1), S)) else (zbd (m_at S 0 12 a1) fun x2 S1 => some (x2, S1))
noncomputable def m_X7_count (S : zSt) : Option zRes := zlt (S.1 1) fun x1 => some (x1, S)
noncomputable def m_X7_isFull (S : zSt) : Option zRes := zlt (S.1 1) fun x1 => if x1 < 20 then (some (0, S)) else (some (1, S))
noncomputable def m_X7_put (S : zSt) (a1 : Int) (a2 : Int) (a3 : Int) : Option zRes := zbd (m_X7_hasPlace S a1 a2) fun x1 S1 => if x1 = 0 then (some (0, S1)) else (zar (a1 * 12) fun x2 => zar (x2 + a2) fun x3 => zst S1 1 240 x3 a3 fun S2 => some (0, S2))
noncomputable def b_X7_add_35 (x2 : Int) (rec1 : Int → zSt → Option zRes) (v1 : Int) (S5 : zSt) : Option zRes := zbd (m_X4_size S5) fun x6 S6 => if x6 ≤ v1 then (some (0, S6)) else (zbd (m_X4_wordAt S6 v1) fun x7 S7 => zbd (m_X7_put S7 x2 v1 x7) fun x8 S8 => zar (v1 + 1) fun x9 => rec1 x9 S8)
noncomputable def m_X7_add (S : zSt) : Option zRes := zbd (m_X7_isFull S) fun x1 S1 => if x1 = 0 then (zlt (S1.1 1) fun x2 => zlt (S1.1 1) fun x3 => zar (x3 + 1) fun x4 => zlt (zset S1 1 x4) fun S2 => zbd (m_X4_size S2) fun x5 S3 => zst S3 2 20 x2 x5 fun S4 => zl1 1000 (b_X7_add_35 x2) 0 S4) else (some (0, S1))
noncomputable def b_X7_takeOut_12 (a1 : Int) (j1 : zSt → Option zRes) (rec1 : Int → zSt → Option zRes) (v1 : Int) (S4 : zSt) : Option zRes := zar (v1 + 1) fun x4 => zld (S4.2 2) 20 a1 fun x5 => if x5 ≤ x4 then (j1 S4) else (zar (v1 + 1) fun x6 => zbd (m_X7_wordAt S4 a1 x6) fun x7 S5 => zbd (m_X7_put S5 a1 v1 x7) fun x8 S6 => zar (v1 + 1) fun x9 => rec1 x9 S6)
noncomputable def m_X7_takeOut (S : zSt) (a1 : Int) (a2 : Int) : Option zRes := zbd (m_X7_hasPlace S a1 a2) fun x1 S1 => if x1 = 0 then (some (0, S1)) else (zj0 (fun (S2 : zSt) => zld (S2.2 2) 20 a1 fun x2 => zar (x2 - 1) fun x3 => zst S2 2 20 a1 x3 fun S3 => some (0, S3)) fun j1 => zl1 1000 (b_X7_takeOut_12 a1 j1) a2 S1)
noncomputable def b_X7_placeOf_6 (a1 : Int) (a2 : Int) (a3 : Int) (j1 : zSt → Option zRes) (rec1 : Int → Int → zSt → Option zRes) (v1 : Int) (v2 : Int) (S2 : zSt) : Option zRes := zbd (m_X7_sizeOf S2 a1) fun x1 S3 => if x1 ≤ v2 then (j1 S3) else (zbd (m_X7_wordAt S3 a1 v2) fun x2 S4 => zj1 (fun (v3 : Int) (S5 : zSt) => zar (v2 + 1) fun x3 => rec1 v3 x3 S5) fun j2 => if x2 = a2 then (zar (v1 + 1) fun x4 => if x4 = a3 then (some (v2, S4)) else (j2 x4 S4)) else (j2 v1 S4))
noncomputable def m_X7_placeOf (S : zSt) (a1 : Int) (a2 : Int) (a3 : Int) : Option zRes := zj0 (fun (S1 : zSt) => some ((-1), S1)) fun j1 => zl2 1000 (b_X7_placeOf_6 a1 a2 a3 j1) 0 0 S
end
section
/-! MIRRORS of the calls that may throw -/
noncomputable def m_X8_needArgument (S : zSt) (a1 : Int) (a2 : Int) (a3 : Int) : Option zRx := zj0 (fun (S1 : zSt) => some (.inr ("java/lang/IllegalArgumentException", S1))) fun j1 => if a1 < a2 then (j1 S) else (if a1 ≤ a3 then (some (.inl (0, S))) else (j1 S))
noncomputable def m_X8_needUnit (S : zSt) (a1 : Int) : Option zRx := zbd (m_X7_has S a1) fun x1 S1 => if x1 = 0 then (some (.inr ("java/lang/IndexOutOfBoundsException", S1))) else (some (.inl (0, S1)))
noncomputable def m_X8_needAuthor (S : zSt) (a1 : Int) : Option zRx := zbd (m_X0_has S a1) fun x1 S1 => if x1 = 0 then (some (.inr ("java/lang/IndexOutOfBoundsException", S1))) else (some (.inl (0, S1)))
noncomputable def m_X8_needComment (S : zSt) (a1 : Int) : Option zRx := zbd (m_X1_has S a1) fun x1 S1 => if x1 = 0 then (some (.inr ("java/lang/IndexOutOfBoundsException", S1))) else (some (.inl (0, S1)))
noncomputable def m_X8_needRoomForComment (S : zSt) : Option zRx := zbd (m_X1_isFull S) fun x1 S1 => if x1 = 0 then (some (.inl (0, S1))) else (some (.inr ("java/lang/IllegalStateException", S1)))
noncomputable def m_X8_word (S : zSt) (a1 : Int) : Option zRx := zbx (m_X8_needArgument S a1 0 59) fun x1 S1 => zbd (m_X4_isFull S1) fun x2 S2 => if x2 = 0 then (zbd (m_X4_add S2 a1) fun x3 S3 => zbd (m_X4_size S3) fun x4 S4 => some (.inl (x4, S4))) else (some (.inr ("java/lang/IllegalStateException", S2)))
noncomputable def m_X8_unit (S : zSt) : Option zRx := zbd (m_X4_size S) fun x1 S1 => if x1 = 0 then (some (.inr ("java/lang/IllegalStateException", S1))) else (zbd (m_X7_isFull S1) fun x2 S2 => if x2 = 0 then (zbd (m_X7_add S2) fun x3 S3 => zbd (m_X4_clear S3) fun x4 S4 => zbd (m_X7_count S4) fun x5 S5 => zar (x5 - 1) fun x6 => some (.inl (x6, S5))) else (some (.inr ("java/lang/IllegalStateException", S2))))
noncomputable def m_X8_emend (S : zSt) (a1 : Int) (a2 : Int) (a3 : Int) : Option zRx := zbd (m_X7_hasPlace S a1 a2) fun x1 S1 => if x1 = 0 then (some (.inr ("java/lang/IndexOutOfBoundsException", S1))) else (zbx (m_X8_needArgument S1 a3 (-1) 59) fun x2 S2 => if a3 = (-1) then (zbd (m_X7_sizeOf S2 a1) fun x3 S3 => if 1 < x3 then (zbd (m_X7_takeOut S3 a1 a2) fun x4 S4 => zbd (m_X7_sizeOf S4 a1) fun x5 S5 => zar (x5 - 1) fun x6 => zbd (m_X1_closeGap S5 a1 a2 x6) fun x7 S6 => zbd (m_X1_hookAnew S6 a1) fun x8 S7 => some (.inl (x8, S7))) else (some (.inr ("java/lang/IllegalStateException", S3)))) else (zbd (m_X7_put S2 a1 a2 a3) fun x9 S8 => zbd (m_X1_hookAnew S8 a1) fun x10 S9 => some (.inl (x10, S9))))
noncomputable def m_X8_textOf (S : zSt) (a1 : Int) (a2 : Int) : Option zRx := zbx (m_X8_needUnit S a1) fun x1 S1 => if 0 ≤ a2 then (zbd (m_X7_wordAt S1 a1 a2) fun x2 S2 => some (.inl (x2, S2))) else (some (.inr ("java/lang/IndexOutOfBoundsException", S1)))
noncomputable def m_X8_author (S : zSt) (a1 : Int) (a2 : Int) (a3 : Int) : Option zRx := zbx (m_X8_needArgument S a1 0 2000) fun x1 S1 => zbx (m_X8_needArgument S1 a2 0 3) fun x2 S2 => zbx (m_X8_needArgument S2 a3 0 99) fun x3 S3 => zbd (m_X0_isFull S3) fun x4 S4 => if x4 = 0 then (zbd (m_X0_add S4 a1 a2 a3) fun x5 S5 => zbd (m_X0_count S5) fun x6 S6 => zar (x6 - 1) fun x7 => some (.inl (x7, S6))) else (some (.inr ("java/lang/IllegalStateException", S4)))
noncomputable def m_X8_comment (S : zSt) (a1 : Int) (a2 : Int) (a3 : Int) (a4 : Int) (a5 : Int) (a6 : Int) (a7 : Int) : Option zRx := zbx (m_X8_needAuthor S a1) fun x1 S1 => zbx (m_X8_needUnit S1 a2) fun x2 S2 => zbx (m_X8_needArgument S2 a3 0 4) fun x3 S3 => zbx (m_X8_needArgument S3 a4 0 59) fun x4 S4 => zbx (m_X8_needArgument S4 a5 1 12) fun x5 S5 => zbx (m_X8_needArgument S5 a6 1 9) fun x6 S6 => zbx (m_X8_needArgument S6 a7 0 1) fun x7 S7 => zbx (m_X8_needRoomForComment S7) fun x8 S8 => zbd (m_X7_placeOf S8 a2 a4 a5) fun x9 S9 => if x9 = (-1) then (some (.inr ("java/lang/IllegalStateException", S9))) else (zbd (m_X1_add S9 a1 a3 a6 a7) fun x10 S10 => zbd (m_X1_hookTo S10 x10 a2 x9 a4) fun x11 S11 => some (.inl (x10, S11)))
noncomputable def m_X8_told (S : zSt) (a1 : Int) (a2 : Int) : Option zRx := zbx (m_X8_needComment S a1) fun x1 S1 => zbx (m_X8_needArgument S1 a2 0 6) fun x2 S2 => if a2 = 0 then (zbd (m_X1_authorOf S2 a1) fun x3 S3 => some (.inl (x3, S3))) else if a2 = 1 then (zbd (m_X1_unitOf S2 a1) fun x4 S4 => some (.inl (x4, S4))) else if a2 = 2 then (zbd (m_X1_placeOf S2 a1) fun x5 S5 => some (.inl (x5, S5))) else if a2 = 3 then (zbd (m_X1_isLost S2 a1) fun x6 S6 => if x6 = 0 then (some (.inl (0, S6))) else (some (.inl (1, S6)))) else if a2 = 4 then (zbd (m_X1_stands S2 a1) fun x7 S7 => if x7 = 0 then (some (.inl (0, S7))) else (some (.inl (1, S7)))) else if a2 = 5 then (zbd (m_X1_parentOf S2 a1) fun x8 S8 => some (.inl (x8, S8))) else (zbd (m_X1_kindOf S2 a1) fun x9 S9 => some (.inl (x9, S9)))
end
section
set_option maxRecDepth 100000 in
theorem c_X0_count {l : Launch} {D : va_G} {A : Nat → Prop} {cI cZ : ClassId} {ad : Nat → Nat} (hD : ∀ S, va_D A (wC cI cZ ad S)) {S : zSt} (hG : RG bsC S) {x : Int} {S' : zSt} (h : m_X0_count S  = some (x, S')) : zMi l yX0_count cX0_count 1 .int { frames := 0, cells := 0, slots := 0, locals := 0 } D cI cZ A (wC cI cZ ad) (RG bsC) [.ref (ad 7)] S x S' := by
  refine k_start_i (by decide +kernel) hD hG (Nat.le_of_ble_eq_true rfl) (fun Γ F hQ => ?_)
  have F : zF Γ (wC cI cZ ad) cI cZ cX0_count { frames := 0, cells := 0, slots := 0, locals := 0 } 1 RX0 := F
  refine k_sub [0] (lv' := [(0, .ref (ad 7))]) rfl ?_
  refine k_aload_n F dX0_count_0 rfl 0 rfl ?_
  refine kgX0_count F dX0_count_1 h (fun x1 r1 h1 => ?_)
  exact k_iret F hQ r1 dX0_count_4 h1
set_option maxRecDepth 100000 in
theorem c_X0_isFull {l : Launch} {D : va_G} {A : Nat → Prop} {cI cZ : ClassId} {ad : Nat → Nat} (hD : ∀ S, va_D A (wC cI cZ ad S)) {S : zSt} (hG : RG bsC S) {x : Int} {S' : zSt} (h : m_X0_isFull S  = some (x, S')) : zMi l yX0_isFull cX0_isFull 1 .boolean { frames := 0, cells := 0, slots := 0, locals := 0 } D cI cZ A (wC cI cZ ad) (RG bsC) [.ref (ad 7)] S x S' := by
  refine k_start_i (by decide +kernel) hD hG (Nat.le_of_ble_eq_true rfl) (fun Γ F hQ => ?_)
  have F : zF Γ (wC cI cZ ad) cI cZ cX0_isFull { frames := 0, cells := 0, slots := 0, locals := 0 } 1 RX0 := F
  refine k_sub [0] (lv' := [(0, .ref (ad 7))]) rfl ?_
  refine k_aload_n F dX0_isFull_0 rfl 0 rfl ?_
  refine kgX0_count F dX0_isFull_1 h (fun x1 r1 h1 => ?_)
  refine k_bipush F dX0_isFull_4 bp_12 ?_
  refine k_icmp_lt F r1 iR_12 (tgt := 13) dX0_isFull_6 (by decide) h1 (fun h2 => ?_) (fun h3 => ?_)
  · refine k_iconst F dX0_isFull_13 ?_
    exact k_zret F hQ (Or.inl rfl) dX0_isFull_14 h2
  · refine k_iconst F dX0_isFull_9 ?_
    refine k_goto F (tgt := 14) dX0_isFull_10 (by decide) ?_
    exact k_zret F hQ (Or.inr rfl) dX0_isFull_14 h3
set_option maxRecDepth 100000 in
theorem c_X0_has {l : Launch} {D : va_G} {A : Nat → Prop} {cI cZ : ClassId} {ad : Nat → Nat} (hD : ∀ S, va_D A (wC cI cZ ad S)) {S : zSt} (hG : RG bsC S) {a1 : Int} (ra1 : inR a1) {x : Int} {S' : zSt} (h : m_X0_has S a1 = some (x, S')) : zMi l yX0_has cX0_has 2 .boolean { frames := 0, cells := 0, slots := 0, locals := 0 } D cI cZ A (wC cI cZ ad) (RG bsC) [.ref (ad 7), .int (zI a1)] S x S' := by
  refine k_start_i (by decide +kernel) hD hG (Nat.le_of_ble_eq_true rfl) (fun Γ F hQ => ?_)
  have F : zF Γ (wC cI cZ ad) cI cZ cX0_has { frames := 0, cells := 0, slots := 0, locals := 0 } 2 RX0 := F
  refine k_sub [0, 1] (lv' := [(0, .ref (ad 7)), (1, .int (zI a1))]) rfl ?_
  refine k_iload_n F dX0_has_0 rfl 1 rfl ?_
  refine zj0_e (PJ := (fun S1 => zk Γ (wC cI cZ ad) (RG bsC) S1 [] 16 [])) h (fun S1 h1 => ?_) (fun j1 J1 h2 => ?_)
  · refine k_iconst F dX0_has_16 ?_
    exact k_zret F hQ (Or.inl rfl) dX0_has_17 h1
  · refine k_if_lt F ra1 (tgt := 16) dX0_has_1 (by decide) h2 (fun h3 => ?_) (fun h4 => ?_)
    · exact k_sub [] rfl (J1 S h3)
    · refine k_iload_n F dX0_has_4 rfl 1 rfl ?_
      refine k_aload_n F dX0_has_5 rfl 0 rfl ?_
      refine kgX0_count F dX0_has_6 h4 (fun x1 r1 h5 => ?_)
      refine k_icmp_ge F ra1 r1 (tgt := 16) dX0_has_9 (by decide) h5 (fun h6 => ?_) (fun h7 => ?_)
      · exact k_sub [] rfl (J1 S h6)
      · refine k_iconst F dX0_has_12 ?_
        refine k_goto F (tgt := 17) dX0_has_13 (by decide) ?_
        exact k_zret F hQ (Or.inr rfl) dX0_has_17 h7
set_option maxRecDepth 100000 in
theorem c_X0_add {l : Launch} {D : va_G} {A : Nat → Prop} {cI cZ : ClassId} {ad : Nat → Nat} (hD : ∀ S, va_D A (wC cI cZ ad S)) {S : zSt} (hG : RG bsC S) {a1 : Int} (ra1 : inR a1) {a2 : Int} (ra2 : inR a2) {a3 : Int} (ra3 : inR a3) {x : Int} {S' : zSt} (h : m_X0_add S a1 a2 a3 = some (x, S')) : zMv l yX0_add cX0_add 4 { frames := 1, cells := 0, slots := 0, locals := 20 } D cI cZ A (wC cI cZ ad) (RG bsC) [.ref (ad 7), .int (zI a1), .int (zI a2), .int (zI a3)] S S' := by
  refine k_start_v (by decide +kernel) hD hG (Nat.le_of_ble_eq_true rfl) (fun Γ F hQ => ?_)
  have F : zF Γ (wC cI cZ ad) cI cZ cX0_add { frames := 1, cells := 0, slots := 0, locals := 20 } 4 RX0 := F
  refine k_sub [0, 1, 2, 3] (lv' := [(0, .ref (ad 7)), (1, .int (zI a1)), (2, .int (zI a2)), (3, .int (zI a3))]) rfl ?_
  refine k_aload_n F dX0_add_0 rfl 0 rfl ?_
  refine k_callVi F cal_X0_isFull wm_107 (obC_7 cI cZ ad) (fun l D A hD hG x S' h => c_X0_isFull hD hG h) ⟨rfl, rfl, Nat.le_of_ble_eq_true rfl, Nat.le_of_ble_eq_true rfl⟩ rfl rfl (Nat.le_of_ble_eq_true rfl) dX0_add_1 h (fun x1 S1 r1 b1 h1 => ?_)
  refine k_if_ne F r1 (tgt := 47) dX0_add_4 (by decide) h1 (fun h2 => ?_) (fun h3 => ?_)
  · exact k_vret F hQ dX0_add_47 h2
  · refine k_aload_n F dX0_add_7 rfl 0 rfl ?_
    refine kgX0_years F dX0_add_8 ?_
    refine k_aload_n F dX0_add_11 rfl 0 rfl ?_
    refine kgX0_count F dX0_add_12 h3 (fun x2 r2 h4 => ?_)
    refine k_iload_n F dX0_add_15 rfl 1 rfl ?_
    refine k_iast F rfl 8 (aC_4 cI cZ ad) (sC_4 cI cZ ad) (by decide) r2 ra1 dX0_add_16 h4 (fun S2 h5 => ?_)
    refine k_aload_n F dX0_add_17 rfl 0 rfl ?_
    refine kgX0_schools F dX0_add_18 ?_
    refine k_aload_n F dX0_add_21 rfl 0 rfl ?_
    refine kgX0_count F dX0_add_22 h5 (fun x3 r3 h6 => ?_)
    refine k_iload_n F dX0_add_25 rfl 2 rfl ?_
    refine k_iast F rfl 9 (aC_5 cI cZ ad) (sC_5 cI cZ ad) (by decide) r3 ra2 dX0_add_26 h6 (fun S3 h7 => ?_)
    refine k_aload_n F dX0_add_27 rfl 0 rfl ?_
    refine kgX0_initials F dX0_add_28 ?_
    refine k_aload_n F dX0_add_31 rfl 0 rfl ?_
    refine kgX0_count F dX0_add_32 h7 (fun x4 r4 h8 => ?_)
    refine k_iload_n F dX0_add_35 rfl 3 rfl ?_
    refine k_iast F rfl 10 (aC_6 cI cZ ad) (sC_6 cI cZ ad) (by decide) r4 ra3 dX0_add_36 h8 (fun S4 h9 => ?_)
    refine k_aload_n F dX0_add_37 rfl 0 rfl ?_
    refine k_dup F dX0_add_38 rfl ?_
    refine kgX0_count F dX0_add_39 h9 (fun x5 r5 h10 => ?_)
    refine k_iconst F dX0_add_42 ?_
    refine k_iadd F dX0_add_43 h10 (fun x6 r6 h11 => ?_)
    refine kpX0_count F r6 dX0_add_44 h11 (fun S5 h12 => ?_)
    exact k_vret F hQ dX0_add_47 h12
set_option maxRecDepth 100000 in
theorem c_X1_isFull {l : Launch} {D : va_G} {A : Nat → Prop} {cI cZ : ClassId} {ad : Nat → Nat} (hD : ∀ S, va_D A (wC cI cZ ad S)) {S : zSt} (hG : RG bsC S) {x : Int} {S' : zSt} (h : m_X1_isFull S  = some (x, S')) : zMi l yX1_isFull cX1_isFull 1 .boolean { frames := 0, cells := 0, slots := 0, locals := 0 } D cI cZ A (wC cI cZ ad) (RG bsC) [.ref (ad 11)] S x S' := by
  refine k_start_i (by decide +kernel) hD hG (Nat.le_of_ble_eq_true rfl) (fun Γ F hQ => ?_)
  have F : zF Γ (wC cI cZ ad) cI cZ cX1_isFull { frames := 0, cells := 0, slots := 0, locals := 0 } 1 RX1 := F
  refine k_sub [0] (lv' := [(0, .ref (ad 11))]) rfl ?_
  refine k_aload_n F dX1_isFull_0 rfl 0 rfl ?_
  refine kgX1_count F dX1_isFull_1 h (fun x1 r1 h1 => ?_)
  refine k_bipush F dX1_isFull_4 bp_60 ?_
  refine k_icmp_lt F r1 iR_60 (tgt := 13) dX1_isFull_6 (by decide) h1 (fun h2 => ?_) (fun h3 => ?_)
  · refine k_iconst F dX1_isFull_13 ?_
    exact k_zret F hQ (Or.inl rfl) dX1_isFull_14 h2
  · refine k_iconst F dX1_isFull_9 ?_
    refine k_goto F (tgt := 14) dX1_isFull_10 (by decide) ?_
    exact k_zret F hQ (Or.inr rfl) dX1_isFull_14 h3
set_option maxRecDepth 100000 in
theorem c_X1_has {l : Launch} {D : va_G} {A : Nat → Prop} {cI cZ : ClassId} {ad : Nat → Nat} (hD : ∀ S, va_D A (wC cI cZ ad S)) {S : zSt} (hG : RG bsC S) {a1 : Int} (ra1 : inR a1) {x : Int} {S' : zSt} (h : m_X1_has S a1 = some (x, S')) : zMi l yX1_has cX1_has 2 .boolean { frames := 0, cells := 0, slots := 0, locals := 0 } D cI cZ A (wC cI cZ ad) (RG bsC) [.ref (ad 11), .int (zI a1)] S x S' := by
  refine k_start_i (by decide +kernel) hD hG (Nat.le_of_ble_eq_true rfl) (fun Γ F hQ => ?_)
  have F : zF Γ (wC cI cZ ad) cI cZ cX1_has { frames := 0, cells := 0, slots := 0, locals := 0 } 2 RX1 := F
  refine k_sub [0, 1] (lv' := [(0, .ref (ad 11)), (1, .int (zI a1))]) rfl ?_
  refine k_iload_n F dX1_has_0 rfl 1 rfl ?_
  refine zj0_e (PJ := (fun S1 => zk Γ (wC cI cZ ad) (RG bsC) S1 [] 16 [])) h (fun S1 h1 => ?_) (fun j1 J1 h2 => ?_)
  · refine k_iconst F dX1_has_16 ?_
    exact k_zret F hQ (Or.inl rfl) dX1_has_17 h1
  · refine k_if_lt F ra1 (tgt := 16) dX1_has_1 (by decide) h2 (fun h3 => ?_) (fun h4 => ?_)
    · exact k_sub [] rfl (J1 S h3)
    · refine k_iload_n F dX1_has_4 rfl 1 rfl ?_
      refine k_aload_n F dX1_has_5 rfl 0 rfl ?_
      refine kgX1_count F dX1_has_6 h4 (fun x1 r1 h5 => ?_)
      refine k_icmp_ge F ra1 r1 (tgt := 16) dX1_has_9 (by decide) h5 (fun h6 => ?_) (fun h7 => ?_)
      · exact k_sub [] rfl (J1 S h6)
      · refine k_iconst F dX1_has_12 ?_
        refine k_goto F (tgt := 17) dX1_has_13 (by decide) ?_
        exact k_zret F hQ (Or.inr rfl) dX1_has_17 h7
set_option maxRecDepth 100000 in
theorem c_X1_add {l : Launch} {D : va_G} {A : Nat → Prop} {cI cZ : ClassId} {ad : Nat → Nat} (hD : ∀ S, va_D A (wC cI cZ ad S)) {S : zSt} (hG : RG bsC S) {a1 : Int} (ra1 : inR a1) {a2 : Int} (ra2 : inR a2) {a3 : Int} (ra3 : inR a3) {a4 : Int} (ra4 : inR a4) {x : Int} {S' : zSt} (h : m_X1_add S a1 a2 a3 a4 = some (x, S')) : zMi l yX1_add cX1_add 5 .int { frames := 1, cells := 0, slots := 0, locals := 20 } D cI cZ A (wC cI cZ ad) (RG bsC) [.ref (ad 11), .int (zI a1), .int (zI a2), .int (zI a3), .int (zI a4)] S x S' := by
  refine k_start_i (by decide +kernel) hD hG (Nat.le_of_ble_eq_true rfl) (fun Γ F hQ => ?_)
  have F : zF Γ (wC cI cZ ad) cI cZ cX1_add { frames := 1, cells := 0, slots := 0, locals := 20 } 5 RX1 := F
  refine k_sub [0, 1, 2, 3, 4] (lv' := [(0, .ref (ad 11)), (1, .int (zI a1)), (2, .int (zI a2)), (3, .int (zI a3)), (4, .int (zI a4))]) rfl ?_
  refine k_aload_n F dX1_add_0 rfl 0 rfl ?_
  refine k_callVi F cal_X1_isFull wm_112 (obC_11 cI cZ ad) (fun l D A hD hG x S' h => c_X1_isFull hD hG h) ⟨rfl, rfl, Nat.le_of_ble_eq_true rfl, Nat.le_of_ble_eq_true rfl⟩ rfl rfl (Nat.le_of_ble_eq_true rfl) dX1_add_1 h (fun x1 S1 r1 b1 h1 => ?_)
  refine k_if_eq F r1 (tgt := 9) dX1_add_4 (by decide) h1 (fun h2 => ?_) (fun h3 => ?_)
  · refine k_aload_n F dX1_add_9 rfl 0 rfl ?_
    refine kgX1_writers F dX1_add_10 ?_
    refine k_aload_n F dX1_add_13 rfl 0 rfl ?_
    refine kgX1_count F dX1_add_14 h2 (fun x2 r2 h4 => ?_)
    refine k_iload_n F dX1_add_17 rfl 1 rfl ?_
    refine k_iast F rfl 12 (aC_7 cI cZ ad) (sC_7 cI cZ ad) (by decide) r2 ra1 dX1_add_18 h4 (fun S2 h5 => ?_)
    refine k_aload_n F dX1_add_19 rfl 0 rfl ?_
    refine kgX1_kinds F dX1_add_20 ?_
    refine k_aload_n F dX1_add_23 rfl 0 rfl ?_
    refine kgX1_count F dX1_add_24 h5 (fun x3 r3 h6 => ?_)
    refine k_iload_n F dX1_add_27 rfl 2 rfl ?_
    refine k_iast F rfl 13 (aC_8 cI cZ ad) (sC_8 cI cZ ad) (by decide) r3 ra2 dX1_add_28 h6 (fun S3 h7 => ?_)
    refine k_aload_n F dX1_add_29 rfl 0 rfl ?_
    refine kgX1_lines F dX1_add_30 ?_
    refine k_aload_n F dX1_add_33 rfl 0 rfl ?_
    refine kgX1_count F dX1_add_34 h7 (fun x4 r4 h8 => ?_)
    refine k_iload_n F dX1_add_37 rfl 3 rfl ?_
    refine k_iast F rfl 14 (aC_9 cI cZ ad) (sC_9 cI cZ ad) (by decide) r4 ra3 dX1_add_38 h8 (fun S4 h9 => ?_)
    refine k_aload_n F dX1_add_39 rfl 0 rfl ?_
    refine kgX1_margins F dX1_add_40 ?_
    refine k_aload_n F dX1_add_43 rfl 0 rfl ?_
    refine kgX1_count F dX1_add_44 h9 (fun x5 r5 h10 => ?_)
    refine k_iload F dX1_add_47 4 rfl ?_
    refine k_iast F rfl 15 (aC_10 cI cZ ad) (sC_10 cI cZ ad) (by decide) r5 ra4 dX1_add_49 h10 (fun S5 h11 => ?_)
    refine k_aload_n F dX1_add_50 rfl 0 rfl ?_
    refine k_dup F dX1_add_51 rfl ?_
    refine kgX1_count F dX1_add_52 h11 (fun x6 r6 h12 => ?_)
    refine k_iconst F dX1_add_55 ?_
    refine k_iadd F dX1_add_56 h12 (fun x7 r7 h13 => ?_)
    refine kpX1_count F r7 dX1_add_57 h13 (fun S6 h14 => ?_)
    refine k_aload_n F dX1_add_60 rfl 0 rfl ?_
    refine kgX1_count F dX1_add_61 h14 (fun x8 r8 h15 => ?_)
    refine k_iconst F dX1_add_64 ?_
    refine k_isub F dX1_add_65 h15 (fun x9 r9 h16 => ?_)
    exact k_iret F hQ r9 dX1_add_66 h16
  · refine k_iconst F dX1_add_7 ?_
    exact k_iret F hQ iR_m1 dX1_add_8 h3
set_option maxRecDepth 100000 in
theorem c_X1_hookTo {l : Launch} {D : va_G} {A : Nat → Prop} {cI cZ : ClassId} {ad : Nat → Nat} (hD : ∀ S, va_D A (wC cI cZ ad S)) {S : zSt} (hG : RG bsC S) {a1 : Int} (ra1 : inR a1) {a2 : Int} (ra2 : inR a2) {a3 : Int} (ra3 : inR a3) {a4 : Int} (ra4 : inR a4) {x : Int} {S' : zSt} (h : m_X1_hookTo S a1 a2 a3 a4 = some (x, S')) : zMv l yX1_hookTo cX1_hookTo 5 { frames := 1, cells := 0, slots := 0, locals := 21 } D cI cZ A (wC cI cZ ad) (RG bsC) [.ref (ad 11), .int (zI a1), .int (zI a2), .int (zI a3), .int (zI a4)] S S' := by
  refine k_start_v (by decide +kernel) hD hG (Nat.le_of_ble_eq_true rfl) (fun Γ F hQ => ?_)
  have F : zF Γ (wC cI cZ ad) cI cZ cX1_hookTo { frames := 1, cells := 0, slots := 0, locals := 21 } 5 RX1 := F
  refine k_sub [0, 1, 2, 3, 4] (lv' := [(0, .ref (ad 11)), (1, .int (zI a1)), (2, .int (zI a2)), (3, .int (zI a3)), (4, .int (zI a4))]) rfl ?_
  refine k_aload_n F dX1_hookTo_0 rfl 0 rfl ?_
  refine k_iload_n F dX1_hookTo_1 rfl 1 rfl ?_
  refine k_callVi F cal_X1_has wm_116 (obC_11 cI cZ ad) (fun l D A hD hG x S' h => c_X1_has hD hG ra1 h) ⟨rfl, rfl, Nat.le_of_ble_eq_true rfl, Nat.le_of_ble_eq_true rfl⟩ rfl rfl (Nat.le_of_ble_eq_true rfl) dX1_hookTo_2 h (fun x1 S1 r1 b1 h1 => ?_)
  refine k_if_eq F r1 (tgt := 44) dX1_hookTo_5 (by decide) h1 (fun h2 => ?_) (fun h3 => ?_)
  · exact k_vret F hQ dX1_hookTo_44 h2
  · refine k_aload_n F dX1_hookTo_8 rfl 0 rfl ?_
    refine kgX1_parents F dX1_hookTo_9 ?_
    refine k_iload_n F dX1_hookTo_12 rfl 1 rfl ?_
    refine k_iconst F dX1_hookTo_13 ?_
    refine k_iast F rfl 16 (aC_11 cI cZ ad) (sC_11 cI cZ ad) (by decide) ra1 iR_m1 dX1_hookTo_14 h3 (fun S2 h4 => ?_)
    refine k_aload_n F dX1_hookTo_15 rfl 0 rfl ?_
    refine kgX1_roots F dX1_hookTo_16 ?_
    refine k_iload_n F dX1_hookTo_19 rfl 1 rfl ?_
    refine k_iload_n F dX1_hookTo_20 rfl 1 rfl ?_
    refine k_iast F rfl 17 (aC_12 cI cZ ad) (sC_12 cI cZ ad) (by decide) ra1 ra1 dX1_hookTo_21 h4 (fun S3 h5 => ?_)
    refine k_aload_n F dX1_hookTo_22 rfl 0 rfl ?_
    refine kgX1_units F dX1_hookTo_23 ?_
    refine k_iload_n F dX1_hookTo_26 rfl 1 rfl ?_
    refine k_iload_n F dX1_hookTo_27 rfl 2 rfl ?_
    refine k_iast F rfl 18 (aC_13 cI cZ ad) (sC_13 cI cZ ad) (by decide) ra1 ra2 dX1_hookTo_28 h5 (fun S4 h6 => ?_)
    refine k_aload_n F dX1_hookTo_29 rfl 0 rfl ?_
    refine kgX1_places F dX1_hookTo_30 ?_
    refine k_iload_n F dX1_hookTo_33 rfl 1 rfl ?_
    refine k_iload_n F dX1_hookTo_34 rfl 3 rfl ?_
    refine k_iast F rfl 19 (aC_14 cI cZ ad) (sC_14 cI cZ ad) (by decide) ra1 ra3 dX1_hookTo_35 h6 (fun S5 h7 => ?_)
    refine k_aload_n F dX1_hookTo_36 rfl 0 rfl ?_
    refine kgX1_words F dX1_hookTo_37 ?_
    refine k_iload_n F dX1_hookTo_40 rfl 1 rfl ?_
    refine k_iload F dX1_hookTo_41 4 rfl ?_
    refine k_iast F rfl 20 (aC_15 cI cZ ad) (sC_15 cI cZ ad) (by decide) ra1 ra4 dX1_hookTo_43 h7 (fun S6 h8 => ?_)
    exact k_vret F hQ dX1_hookTo_44 h8
set_option maxRecDepth 100000 in
theorem c_X1_authorOf {l : Launch} {D : va_G} {A : Nat → Prop} {cI cZ : ClassId} {ad : Nat → Nat} (hD : ∀ S, va_D A (wC cI cZ ad S)) {S : zSt} (hG : RG bsC S) {a1 : Int} (ra1 : inR a1) {x : Int} {S' : zSt} (h : m_X1_authorOf S a1 = some (x, S')) : zMi l yX1_authorOf cX1_authorOf 2 .int { frames := 1, cells := 0, slots := 0, locals := 21 } D cI cZ A (wC cI cZ ad) (RG bsC) [.ref (ad 11), .int (zI a1)] S x S' := by
  refine k_start_i (by decide +kernel) hD hG (Nat.le_of_ble_eq_true rfl) (fun Γ F hQ => ?_)
  have F : zF Γ (wC cI cZ ad) cI cZ cX1_authorOf { frames := 1, cells := 0, slots := 0, locals := 21 } 2 RX1 := F
  refine k_sub [0, 1] (lv' := [(0, .ref (ad 11)), (1, .int (zI a1))]) rfl ?_
  refine k_aload_n F dX1_authorOf_0 rfl 0 rfl ?_
  refine kgX1_writers F dX1_authorOf_1 ?_
  refine k_iload_n F dX1_authorOf_4 rfl 1 rfl ?_
  refine k_callNi F cal_X8_at nw_X1_58 (fun l D A hD hG x S' h => c_at hD hG 12 (aC_7 cI cZ ad) (by decide) (by decide) ra1 h) ⟨rfl, rfl, Nat.le_of_ble_eq_true rfl, Nat.le_of_ble_eq_true rfl⟩ rfl rfl (Nat.le_of_ble_eq_true rfl) dX1_authorOf_5 h (fun x1 S1 r1 b1 h1 => ?_)
  exact k_iret F hQ r1 dX1_authorOf_8 h1
set_option maxRecDepth 100000 in
theorem c_X1_kindOf {l : Launch} {D : va_G} {A : Nat → Prop} {cI cZ : ClassId} {ad : Nat → Nat} (hD : ∀ S, va_D A (wC cI cZ ad S)) {S : zSt} (hG : RG bsC S) {a1 : Int} (ra1 : inR a1) {x : Int} {S' : zSt} (h : m_X1_kindOf S a1 = some (x, S')) : zMi l yX1_kindOf cX1_kindOf 2 .int { frames := 1, cells := 0, slots := 0, locals := 21 } D cI cZ A (wC cI cZ ad) (RG bsC) [.ref (ad 11), .int (zI a1)] S x S' := by
  refine k_start_i (by decide +kernel) hD hG (Nat.le_of_ble_eq_true rfl) (fun Γ F hQ => ?_)
  have F : zF Γ (wC cI cZ ad) cI cZ cX1_kindOf { frames := 1, cells := 0, slots := 0, locals := 21 } 2 RX1 := F
  refine k_sub [0, 1] (lv' := [(0, .ref (ad 11)), (1, .int (zI a1))]) rfl ?_
  refine k_aload_n F dX1_kindOf_0 rfl 0 rfl ?_
  refine kgX1_kinds F dX1_kindOf_1 ?_
  refine k_iload_n F dX1_kindOf_4 rfl 1 rfl ?_
  refine k_callNi F cal_X8_at nw_X1_58 (fun l D A hD hG x S' h => c_at hD hG 13 (aC_8 cI cZ ad) (by decide) (by decide) ra1 h) ⟨rfl, rfl, Nat.le_of_ble_eq_true rfl, Nat.le_of_ble_eq_true rfl⟩ rfl rfl (Nat.le_of_ble_eq_true rfl) dX1_kindOf_5 h (fun x1 S1 r1 b1 h1 => ?_)
  exact k_iret F hQ r1 dX1_kindOf_8 h1
set_option maxRecDepth 100000 in
theorem c_X1_parentOf {l : Launch} {D : va_G} {A : Nat → Prop} {cI cZ : ClassId} {ad : Nat → Nat} (hD : ∀ S, va_D A (wC cI cZ ad S)) {S : zSt} (hG : RG bsC S) {a1 : Int} (ra1 : inR a1) {x : Int} {S' : zSt} (h : m_X1_parentOf S a1 = some (x, S')) : zMi l yX1_parentOf cX1_parentOf 2 .int { frames := 1, cells := 0, slots := 0, locals := 21 } D cI cZ A (wC cI cZ ad) (RG bsC) [.ref (ad 11), .int (zI a1)] S x S' := by
  refine k_start_i (by decide +kernel) hD hG (Nat.le_of_ble_eq_true rfl) (fun Γ F hQ => ?_)
  have F : zF Γ (wC cI cZ ad) cI cZ cX1_parentOf { frames := 1, cells := 0, slots := 0, locals := 21 } 2 RX1 := F
  refine k_sub [0, 1] (lv' := [(0, .ref (ad 11)), (1, .int (zI a1))]) rfl ?_
  refine k_aload_n F dX1_parentOf_0 rfl 0 rfl ?_
  refine kgX1_parents F dX1_parentOf_1 ?_
  refine k_iload_n F dX1_parentOf_4 rfl 1 rfl ?_
  refine k_callNi F cal_X8_at nw_X1_58 (fun l D A hD hG x S' h => c_at hD hG 16 (aC_11 cI cZ ad) (by decide) (by decide) ra1 h) ⟨rfl, rfl, Nat.le_of_ble_eq_true rfl, Nat.le_of_ble_eq_true rfl⟩ rfl rfl (Nat.le_of_ble_eq_true rfl) dX1_parentOf_5 h (fun x1 S1 r1 b1 h1 => ?_)
  exact k_iret F hQ r1 dX1_parentOf_8 h1
set_option maxRecDepth 100000 in
theorem c_X1_unitOf {l : Launch} {D : va_G} {A : Nat → Prop} {cI cZ : ClassId} {ad : Nat → Nat} (hD : ∀ S, va_D A (wC cI cZ ad S)) {S : zSt} (hG : RG bsC S) {a1 : Int} (ra1 : inR a1) {x : Int} {S' : zSt} (h : m_X1_unitOf S a1 = some (x, S')) : zMi l yX1_unitOf cX1_unitOf 2 .int { frames := 1, cells := 0, slots := 0, locals := 21 } D cI cZ A (wC cI cZ ad) (RG bsC) [.ref (ad 11), .int (zI a1)] S x S' := by
  refine k_start_i (by decide +kernel) hD hG (Nat.le_of_ble_eq_true rfl) (fun Γ F hQ => ?_)
  have F : zF Γ (wC cI cZ ad) cI cZ cX1_unitOf { frames := 1, cells := 0, slots := 0, locals := 21 } 2 RX1 := F
  refine k_sub [0, 1] (lv' := [(0, .ref (ad 11)), (1, .int (zI a1))]) rfl ?_
  refine k_aload_n F dX1_unitOf_0 rfl 0 rfl ?_
  refine kgX1_units F dX1_unitOf_1 ?_
  refine k_aload_n F dX1_unitOf_4 rfl 0 rfl ?_
  refine kgX1_roots F dX1_unitOf_5 ?_
  refine k_iload_n F dX1_unitOf_8 rfl 1 rfl ?_
  refine k_callNi F cal_X8_at nw_X1_58 (fun l D A hD hG x S' h => c_at hD hG 17 (aC_12 cI cZ ad) (by decide) (by decide) ra1 h) ⟨rfl, rfl, Nat.le_of_ble_eq_true rfl, Nat.le_of_ble_eq_true rfl⟩ rfl rfl (Nat.le_of_ble_eq_true rfl) dX1_unitOf_9 h (fun x1 S1 r1 b1 h1 => ?_)
  refine k_callNi F cal_X8_at nw_X1_58 (fun l D A hD hG x S' h => c_at hD hG 18 (aC_13 cI cZ ad) (by decide) (by decide) r1 h) ⟨rfl, rfl, Nat.le_of_ble_eq_true rfl, Nat.le_of_ble_eq_true rfl⟩ rfl rfl (Nat.le_of_ble_eq_true rfl) dX1_unitOf_12 h1 (fun x2 S2 r2 b2 h2 => ?_)
  exact k_iret F hQ r2 dX1_unitOf_15 h2
set_option maxRecDepth 100000 in
theorem c_X1_placeOf {l : Launch} {D : va_G} {A : Nat → Prop} {cI cZ : ClassId} {ad : Nat → Nat} (hD : ∀ S, va_D A (wC cI cZ ad S)) {S : zSt} (hG : RG bsC S) {a1 : Int} (ra1 : inR a1) {x : Int} {S' : zSt} (h : m_X1_placeOf S a1 = some (x, S')) : zMi l yX1_placeOf cX1_placeOf 2 .int { frames := 1, cells := 0, slots := 0, locals := 21 } D cI cZ A (wC cI cZ ad) (RG bsC) [.ref (ad 11), .int (zI a1)] S x S' := by
  refine k_start_i (by decide +kernel) hD hG (Nat.le_of_ble_eq_true rfl) (fun Γ F hQ => ?_)
  have F : zF Γ (wC cI cZ ad) cI cZ cX1_placeOf { frames := 1, cells := 0, slots := 0, locals := 21 } 2 RX1 := F
  refine k_sub [0, 1] (lv' := [(0, .ref (ad 11)), (1, .int (zI a1))]) rfl ?_
  refine k_aload_n F dX1_placeOf_0 rfl 0 rfl ?_
  refine kgX1_places F dX1_placeOf_1 ?_
  refine k_aload_n F dX1_placeOf_4 rfl 0 rfl ?_
  refine kgX1_roots F dX1_placeOf_5 ?_
  refine k_iload_n F dX1_placeOf_8 rfl 1 rfl ?_
  refine k_callNi F cal_X8_at nw_X1_58 (fun l D A hD hG x S' h => c_at hD hG 17 (aC_12 cI cZ ad) (by decide) (by decide) ra1 h) ⟨rfl, rfl, Nat.le_of_ble_eq_true rfl, Nat.le_of_ble_eq_true rfl⟩ rfl rfl (Nat.le_of_ble_eq_true rfl) dX1_placeOf_9 h (fun x1 S1 r1 b1 h1 => ?_)
  refine k_callNi F cal_X8_at nw_X1_58 (fun l D A hD hG x S' h => c_at hD hG 19 (aC_14 cI cZ ad) (by decide) (by decide) r1 h) ⟨rfl, rfl, Nat.le_of_ble_eq_true rfl, Nat.le_of_ble_eq_true rfl⟩ rfl rfl (Nat.le_of_ble_eq_true rfl) dX1_placeOf_12 h1 (fun x2 S2 r2 b2 h2 => ?_)
  exact k_iret F hQ r2 dX1_placeOf_15 h2
set_option maxRecDepth 100000 in
theorem c_X1_isLost {l : Launch} {D : va_G} {A : Nat → Prop} {cI cZ : ClassId} {ad : Nat → Nat} (hD : ∀ S, va_D A (wC cI cZ ad S)) {S : zSt} (hG : RG bsC S) {a1 : Int} (ra1 : inR a1) {x : Int} {S' : zSt} (h : m_X1_isLost S a1 = some (x, S')) : zMi l yX1_isLost cX1_isLost 3 .boolean { frames := 1, cells := 0, slots := 0, locals := 21 } D cI cZ A (wC cI cZ ad) (RG bsC) [.ref (ad 11), .int (zI a1)] S x S' := by
  refine k_start_i (by decide +kernel) hD hG (Nat.le_of_ble_eq_true rfl) (fun Γ F hQ => ?_)
  have F : zF Γ (wC cI cZ ad) cI cZ cX1_isLost { frames := 1, cells := 0, slots := 0, locals := 21 } 3 RX1 := F
  refine k_sub [0, 1] (lv' := [(0, .ref (ad 11)), (1, .int (zI a1))]) rfl ?_
  refine k_aload_n F dX1_isLost_0 rfl 0 rfl ?_
  refine kgX1_roots F dX1_isLost_1 ?_
  refine k_iload_n F dX1_isLost_4 rfl 1 rfl ?_
  refine k_callNi F cal_X8_at nw_X1_58 (fun l D A hD hG x S' h => c_at hD hG 17 (aC_12 cI cZ ad) (by decide) (by decide) ra1 h) ⟨rfl, rfl, Nat.le_of_ble_eq_true rfl, Nat.le_of_ble_eq_true rfl⟩ rfl rfl (Nat.le_of_ble_eq_true rfl) dX1_isLost_5 h (fun x1 S1 r1 b1 h1 => ?_)
  refine k_istore_n F dX1_isLost_8 rfl (by decide) rfl ?_
  refine k_aload_n F dX1_isLost_9 rfl 1 rfl ?_
  refine k_iload_n F dX1_isLost_10 rfl 0 rfl ?_
  refine k_callVi F cal_X1_has wm_116 (obC_11 cI cZ ad) (fun l D A hD hG x S' h => c_X1_has hD hG r1 h) ⟨rfl, rfl, Nat.le_of_ble_eq_true rfl, Nat.le_of_ble_eq_true rfl⟩ rfl rfl (Nat.le_of_ble_eq_true rfl) dX1_isLost_11 h1 (fun x2 S2 r2 b2 h2 => ?_)
  refine zj0_e (PJ := (fun S3 => zk Γ (wC cI cZ ad) (RG bsC) S3 [] 30 [])) h2 (fun S3 h3 => ?_) (fun j1 J1 h4 => ?_)
  · refine k_iconst F dX1_isLost_30 ?_
    exact k_zret F hQ (Or.inl rfl) dX1_isLost_31 h3
  · refine k_if_eq F r2 (tgt := 30) dX1_isLost_14 (by decide) h4 (fun h5 => ?_) (fun h6 => ?_)
    · exact k_sub [] rfl (J1 S2 h5)
    · refine k_aload_n F dX1_isLost_17 rfl 1 rfl ?_
      refine kgX1_lost F dX1_isLost_18 ?_
      refine k_iload_n F dX1_isLost_21 rfl 0 rfl ?_
      refine k_zald01 F rfl 21 (by decide) (aC_16 cI cZ ad) r1 dX1_isLost_22 h6 (fun x3 r3 z1 h7 => ?_)
      refine k_if_eq F r3 (tgt := 30) dX1_isLost_23 (by decide) h7 (fun h8 => ?_) (fun h9 => ?_)
      · exact k_sub [] rfl (J1 S2 h8)
      · refine k_iconst F dX1_isLost_26 ?_
        refine k_goto F (tgt := 31) dX1_isLost_27 (by decide) ?_
        exact k_zret F hQ (Or.inr rfl) dX1_isLost_31 h9
set_option maxRecDepth 100000 in
theorem c_X1_isHook {l : Launch} {D : va_G} {A : Nat → Prop} {cI cZ : ClassId} {ad : Nat → Nat} (hD : ∀ S, va_D A (wC cI cZ ad S)) {S : zSt} (hG : RG bsC S) {a1 : Int} (ra1 : inR a1) {a2 : Int} (ra2 : inR a2) {x : Int} {S' : zSt} (h : m_X1_isHook S a1 a2 = some (x, S')) : zMi l yX1_isHook cX1_isHook 3 .boolean { frames := 1, cells := 0, slots := 0, locals := 21 } D cI cZ A (wC cI cZ ad) (RG bsC) [.ref (ad 11), .int (zI a1), .int (zI a2)] S x S' := by
  refine k_start_i (by decide +kernel) hD hG (Nat.le_of_ble_eq_true rfl) (fun Γ F hQ => ?_)
  have F : zF Γ (wC cI cZ ad) cI cZ cX1_isHook { frames := 1, cells := 0, slots := 0, locals := 21 } 3 RX1 := F
  refine k_sub [0, 1, 2] (lv' := [(0, .ref (ad 11)), (1, .int (zI a1)), (2, .int (zI a2))]) rfl ?_
  refine k_aload_n F dX1_isHook_0 rfl 0 rfl ?_
  refine k_iload_n F dX1_isHook_1 rfl 1 rfl ?_
  refine k_callVi F cal_X1_has wm_116 (obC_11 cI cZ ad) (fun l D A hD hG x S' h => c_X1_has hD hG ra1 h) ⟨rfl, rfl, Nat.le_of_ble_eq_true rfl, Nat.le_of_ble_eq_true rfl⟩ rfl rfl (Nat.le_of_ble_eq_true rfl) dX1_isHook_2 h (fun x1 S1 r1 b1 h1 => ?_)
  refine zj0_e (PJ := (fun S2 => zk Γ (wC cI cZ ad) (RG bsC) S2 [] 32 [])) h1 (fun S2 h2 => ?_) (fun j1 J1 h3 => ?_)
  · refine k_iconst F dX1_isHook_32 ?_
    exact k_zret F hQ (Or.inl rfl) dX1_isHook_33 h2
  · refine k_if_eq F r1 (tgt := 32) dX1_isHook_5 (by decide) h3 (fun h4 => ?_) (fun h5 => ?_)
    · exact k_sub [] rfl (J1 S1 h4)
    · refine k_aload_n F dX1_isHook_8 rfl 0 rfl ?_
      refine kgX1_parents F dX1_isHook_9 ?_
      refine k_iload_n F dX1_isHook_12 rfl 1 rfl ?_
      refine k_iald F rfl 16 (aC_11 cI cZ ad) ra1 dX1_isHook_13 h5 (fun x2 r2 h6 => ?_)
      refine k_iconst F dX1_isHook_14 ?_
      refine k_icmp_ne F r2 iR_m1 (tgt := 32) dX1_isHook_15 (by decide) h6 (fun h7 => ?_) (fun h8 => ?_)
      · exact k_sub [] rfl (J1 S1 h7)
      · refine k_aload_n F dX1_isHook_18 rfl 0 rfl ?_
        refine kgX1_units F dX1_isHook_19 ?_
        refine k_iload_n F dX1_isHook_22 rfl 1 rfl ?_
        refine k_iald F rfl 18 (aC_13 cI cZ ad) ra1 dX1_isHook_23 h8 (fun x3 r3 h9 => ?_)
        refine k_iload_n F dX1_isHook_24 rfl 2 rfl ?_
        refine k_icmp_ne F r3 ra2 (tgt := 32) dX1_isHook_25 (by decide) h9 (fun h10 => ?_) (fun h11 => ?_)
        · exact k_sub [] rfl (J1 S1 h10)
        · refine k_iconst F dX1_isHook_28 ?_
          refine k_goto F (tgt := 33) dX1_isHook_29 (by decide) ?_
          exact k_zret F hQ (Or.inr rfl) dX1_isHook_33 h11
set_option maxRecDepth 100000 in
theorem c_X1_closeGap {l : Launch} {D : va_G} {A : Nat → Prop} {cI cZ : ClassId} {ad : Nat → Nat} (hD : ∀ S, va_D A (wC cI cZ ad S)) {S : zSt} (hG : RG bsC S) {a1 : Int} (ra1 : inR a1) {a2 : Int} (ra2 : inR a2) {a3 : Int} (ra3 : inR a3) {x : Int} {S' : zSt} (h : m_X1_closeGap S a1 a2 a3 = some (x, S')) : zMv l yX1_closeGap cX1_closeGap 6 { frames := 2, cells := 0, slots := 0, locals := 43 } D cI cZ A (wC cI cZ ad) (RG bsC) [.ref (ad 11), .int (zI a1), .int (zI a2), .int (zI a3)] S S' := by
  refine k_start_v (by decide +kernel) hD hG (Nat.le_of_ble_eq_true rfl) (fun Γ F hQ => ?_)
  have F : zF Γ (wC cI cZ ad) cI cZ cX1_closeGap { frames := 2, cells := 0, slots := 0, locals := 43 } 6 RX1 := F
  refine k_sub [0, 1, 2, 3] (lv' := [(0, .ref (ad 11)), (1, .int (zI a1)), (2, .int (zI a2)), (3, .int (zI a3))]) rfl ?_
  refine k_iconst F dX1_closeGap_0 ?_
  refine k_istore F dX1_closeGap_1 (by decide) rfl ?_
  refine k_sub [1, 2, 3, 4, 0] rfl (zl1_e (F := (b_X1_closeGap_3 a1 a2 a3)) (fun v1 S1 => inR v1 → zk Γ (wC cI cZ ad) (RG bsC) S1 [(0, .ref (ad 11)), (1, .int (zI a1)), (2, .int (zI a2)), (3, .int (zI a3)), (4, .int (zI v1))] 3 []) (fun rec1 v1 S1 hrec1 h1 r1 => ?_) 1000 0 S h iR_0)
  refine k_iload F dX1_closeGap_3 4 rfl ?_
  refine k_aload_n F dX1_closeGap_5 rfl 0 rfl ?_
  refine kgX1_count F dX1_closeGap_6 h1 (fun x1 r2 h2 => ?_)
  refine k_icmp_ge F r1 r2 (tgt := 63) dX1_closeGap_9 (by decide) h2 (fun h3 => ?_) (fun h4 => ?_)
  · exact k_vret F hQ dX1_closeGap_63 h3
  · refine k_aload_n F dX1_closeGap_12 rfl 0 rfl ?_
    refine k_iload F dX1_closeGap_13 4 rfl ?_
    refine k_iload_n F dX1_closeGap_15 rfl 1 rfl ?_
    refine k_callVi F cal_X1_isHook wm_123 (obC_11 cI cZ ad) (fun l D A hD hG x S' h => c_X1_isHook hD hG r1 ra1 h) ⟨rfl, rfl, Nat.le_of_ble_eq_true rfl, Nat.le_of_ble_eq_true rfl⟩ rfl rfl (Nat.le_of_ble_eq_true rfl) dX1_closeGap_16 h4 (fun x2 S2 r3 b1 h5 => ?_)
    refine zj0_e (PJ := (fun S3 => zk Γ (wC cI cZ ad) (RG bsC) S3 [(0, .ref (ad 11)), (1, .int (zI a1)), (2, .int (zI a2)), (3, .int (zI a3)), (4, .int (zI v1))] 57 [])) h5 (fun S3 h6 => ?_) (fun j1 J1 h8 => ?_)
    · refine k_iinc F (k := 4) (lv' := fun y => [(4, .int (zI y)), (0, .ref (ad 11)), (1, .int (zI a1)), (2, .int (zI a2)), (3, .int (zI a3))]) dX1_closeGap_57 rfl (by decide) (fun _ => rfl) h6 (fun x3 r4 h7 => ?_)
      refine k_goto F (tgt := 3) dX1_closeGap_60 (by decide) ?_
      exact k_sub [1, 2, 3, 4, 0] rfl (hrec1 x3 S3 h7 r4)
    · refine k_if_eq F r3 (tgt := 57) dX1_closeGap_19 (by decide) h8 (fun h9 => ?_) (fun h10 => ?_)
      · exact k_sub [0, 1, 2, 3, 4] rfl (J1 S2 h9)
      · refine k_aload_n F dX1_closeGap_22 rfl 0 rfl ?_
        refine kgX1_places F dX1_closeGap_23 ?_
        refine k_iload F dX1_closeGap_26 4 rfl ?_
        refine k_iald F rfl 19 (aC_14 cI cZ ad) r1 dX1_closeGap_28 h10 (fun x4 r5 h11 => ?_)
        refine k_istore F dX1_closeGap_29 (by decide) rfl ?_
        refine k_aload_n F dX1_closeGap_31 rfl 1 rfl ?_
        refine kgX1_places F dX1_closeGap_32 ?_
        refine k_iload F dX1_closeGap_35 5 rfl ?_
        refine k_iload F dX1_closeGap_37 0 rfl ?_
        refine k_iload_n F dX1_closeGap_39 rfl 3 rfl ?_
        refine zj1_e (PJ := (fun v2 S4 => inR v2 → zk Γ (wC cI cZ ad) (RG bsC) S4 [(0, .ref (ad 11)), (1, .int (zI a1)), (2, .int (zI a2)), (3, .int (zI a3)), (4, .int (zI v1))] 52 [.int (zI v2), .int (zI v1), .ref (ad 19)])) h11 (fun v2 S4 h12 r6 => ?_) (fun j2 J2 h15 => ?_)
        · refine k_iload_n F dX1_closeGap_52 rfl 3 rfl ?_
          refine k_mmin F r6 ra3 wm_124 mal_min (Nat.le_of_ble_eq_true rfl) (Nat.le_of_ble_eq_true rfl) dX1_closeGap_53 h12 (fun x5 r7 h13 => ?_)
          refine k_iast F rfl 19 (aC_14 cI cZ ad) (sC_14 cI cZ ad) (by decide) r1 r7 dX1_closeGap_56 h13 (fun S5 h14 => ?_)
          exact k_sub [0, 1, 2, 3, 4] rfl (J1 S5 h14)
        · refine k_icmp_le F r5 ra2 (tgt := 50) dX1_closeGap_40 (by decide) h15 (fun h16 => ?_) (fun h17 => ?_)
          · refine k_iload F dX1_closeGap_50 0 rfl ?_
            exact k_sub [1, 2, 3, 4, 5] rfl (J2 x4 S2 h16 r5)
          · refine k_iload F dX1_closeGap_43 0 rfl ?_
            refine k_iconst F dX1_closeGap_45 ?_
            refine k_isub F dX1_closeGap_46 h17 (fun x6 r8 h18 => ?_)
            refine k_goto F (tgt := 52) dX1_closeGap_47 (by decide) ?_
            exact k_sub [1, 2, 3, 4, 5] rfl (J2 x6 S2 h18 r8)
set_option maxRecDepth 100000 in
theorem c_X7_has {l : Launch} {D : va_G} {A : Nat → Prop} {cI cZ : ClassId} {ad : Nat → Nat} (hD : ∀ S, va_D A (wC cI cZ ad S)) {S : zSt} (hG : RG bsC S) {a1 : Int} (ra1 : inR a1) {x : Int} {S' : zSt} (h : m_X7_has S a1 = some (x, S')) : zMi l yX7_has cX7_has 2 .boolean { frames := 0, cells := 0, slots := 0, locals := 0 } D cI cZ A (wC cI cZ ad) (RG bsC) [.ref (ad 3), .int (zI a1)] S x S' := by
  refine k_start_i (by decide +kernel) hD hG (Nat.le_of_ble_eq_true rfl) (fun Γ F hQ => ?_)
  have F : zF Γ (wC cI cZ ad) cI cZ cX7_has { frames := 0, cells := 0, slots := 0, locals := 0 } 2 RX7 := F
  refine k_sub [0, 1] (lv' := [(0, .ref (ad 3)), (1, .int (zI a1))]) rfl ?_
  refine k_iload_n F dX7_has_0 rfl 1 rfl ?_
  refine zj0_e (PJ := (fun S1 => zk Γ (wC cI cZ ad) (RG bsC) S1 [] 16 [])) h (fun S1 h1 => ?_) (fun j1 J1 h2 => ?_)
  · refine k_iconst F dX7_has_16 ?_
    exact k_zret F hQ (Or.inl rfl) dX7_has_17 h1
  · refine k_if_lt F ra1 (tgt := 16) dX7_has_1 (by decide) h2 (fun h3 => ?_) (fun h4 => ?_)
    · exact k_sub [] rfl (J1 S h3)
    · refine k_iload_n F dX7_has_4 rfl 1 rfl ?_
      refine k_aload_n F dX7_has_5 rfl 0 rfl ?_
      refine kgX7_count F dX7_has_6 h4 (fun x1 r1 h5 => ?_)
      refine k_icmp_ge F ra1 r1 (tgt := 16) dX7_has_9 (by decide) h5 (fun h6 => ?_) (fun h7 => ?_)
      · exact k_sub [] rfl (J1 S h6)
      · refine k_iconst F dX7_has_12 ?_
        refine k_goto F (tgt := 17) dX7_has_13 (by decide) ?_
        exact k_zret F hQ (Or.inr rfl) dX7_has_17 h7
set_option maxRecDepth 100000 in
theorem c_X7_sizeOf {l : Launch} {D : va_G} {A : Nat → Prop} {cI cZ : ClassId} {ad : Nat → Nat} (hD : ∀ S, va_D A (wC cI cZ ad S)) {S : zSt} (hG : RG bsC S) {a1 : Int} (ra1 : inR a1) {x : Int} {S' : zSt} (h : m_X7_sizeOf S a1 = some (x, S')) : zMi l yX7_sizeOf cX7_sizeOf 2 .int { frames := 1, cells := 0, slots := 0, locals := 21 } D cI cZ A (wC cI cZ ad) (RG bsC) [.ref (ad 3), .int (zI a1)] S x S' := by
  refine k_start_i (by decide +kernel) hD hG (Nat.le_of_ble_eq_true rfl) (fun Γ F hQ => ?_)
  have F : zF Γ (wC cI cZ ad) cI cZ cX7_sizeOf { frames := 1, cells := 0, slots := 0, locals := 21 } 2 RX7 := F
  refine k_sub [0, 1] (lv' := [(0, .ref (ad 3)), (1, .int (zI a1))]) rfl ?_
  refine k_aload_n F dX7_sizeOf_0 rfl 0 rfl ?_
  refine k_iload_n F dX7_sizeOf_1 rfl 1 rfl ?_
  refine k_callVi F cal_X7_has wm_129 (obC_3 cI cZ ad) (fun l D A hD hG x S' h => c_X7_has hD hG ra1 h) ⟨rfl, rfl, Nat.le_of_ble_eq_true rfl, Nat.le_of_ble_eq_true rfl⟩ rfl rfl (Nat.le_of_ble_eq_true rfl) dX7_sizeOf_2 h (fun x1 S1 r1 b1 h1 => ?_)
  refine k_if_eq F r1 (tgt := 17) dX7_sizeOf_5 (by decide) h1 (fun h2 => ?_) (fun h3 => ?_)
  · refine k_iconst F dX7_sizeOf_17 ?_
    exact k_iret F hQ iR_0 dX7_sizeOf_18 h2
  · refine k_aload_n F dX7_sizeOf_8 rfl 0 rfl ?_
    refine kgX7_sizes F dX7_sizeOf_9 ?_
    refine k_iload_n F dX7_sizeOf_12 rfl 1 rfl ?_
    refine k_iald F rfl 5 (aC_2 cI cZ ad) ra1 dX7_sizeOf_13 h3 (fun x2 r2 h4 => ?_)
    refine k_goto F (tgt := 18) dX7_sizeOf_14 (by decide) ?_
    exact k_iret F hQ r2 dX7_sizeOf_18 h4
set_option maxRecDepth 100000 in
theorem c_X7_hasPlace {l : Launch} {D : va_G} {A : Nat → Prop} {cI cZ : ClassId} {ad : Nat → Nat} (hD : ∀ S, va_D A (wC cI cZ ad S)) {S : zSt} (hG : RG bsC S) {a1 : Int} (ra1 : inR a1) {a2 : Int} (ra2 : inR a2) {x : Int} {S' : zSt} (h : m_X7_hasPlace S a1 a2 = some (x, S')) : zMi l yX7_hasPlace cX7_hasPlace 3 .boolean { frames := 2, cells := 0, slots := 0, locals := 42 } D cI cZ A (wC cI cZ ad) (RG bsC) [.ref (ad 3), .int (zI a1), .int (zI a2)] S x S' := by
  refine k_start_i (by decide +kernel) hD hG (Nat.le_of_ble_eq_true rfl) (fun Γ F hQ => ?_)
  have F : zF Γ (wC cI cZ ad) cI cZ cX7_hasPlace { frames := 2, cells := 0, slots := 0, locals := 42 } 3 RX7 := F
  refine k_sub [0, 1, 2] (lv' := [(0, .ref (ad 3)), (1, .int (zI a1)), (2, .int (zI a2))]) rfl ?_
  refine k_iload_n F dX7_hasPlace_0 rfl 2 rfl ?_
  refine zj0_e (PJ := (fun S1 => zk Γ (wC cI cZ ad) (RG bsC) S1 [] 17 [])) h (fun S1 h1 => ?_) (fun j1 J1 h2 => ?_)
  · refine k_iconst F dX7_hasPlace_17 ?_
    exact k_zret F hQ (Or.inl rfl) dX7_hasPlace_18 h1
  · refine k_if_lt F ra2 (tgt := 17) dX7_hasPlace_1 (by decide) h2 (fun h3 => ?_) (fun h4 => ?_)
    · exact k_sub [] rfl (J1 S h3)
    · refine k_iload_n F dX7_hasPlace_4 rfl 2 rfl ?_
      refine k_aload_n F dX7_hasPlace_5 rfl 0 rfl ?_
      refine k_iload_n F dX7_hasPlace_6 rfl 1 rfl ?_
      refine k_callVi F cal_X7_sizeOf wm_133 (obC_3 cI cZ ad) (fun l D A hD hG x S' h => c_X7_sizeOf hD hG ra1 h) ⟨rfl, rfl, Nat.le_of_ble_eq_true rfl, Nat.le_of_ble_eq_true rfl⟩ rfl rfl (Nat.le_of_ble_eq_true rfl) dX7_hasPlace_7 h4 (fun x1 S2 r1 b1 h5 => ?_)
      refine k_icmp_ge F ra2 r1 (tgt := 17) dX7_hasPlace_10 (by decide) h5 (fun h6 => ?_) (fun h7 => ?_)
      · exact k_sub [] rfl (J1 S2 h6)
      · refine k_iconst F dX7_hasPlace_13 ?_
        refine k_goto F (tgt := 18) dX7_hasPlace_14 (by decide) ?_
        exact k_zret F hQ (Or.inr rfl) dX7_hasPlace_18 h7
set_option maxRecDepth 100000 in
theorem c_X7_wordAt {l : Launch} {D : va_G} {A : Nat → Prop} {cI cZ : ClassId} {ad : Nat → Nat} (hD : ∀ S, va_D A (wC cI cZ ad S)) {S : zSt} (hG : RG bsC S) {a1 : Int} (ra1 : inR a1) {a2 : Int} (ra2 : inR a2) {x : Int} {S' : zSt} (h : m_X7_wordAt S a1 a2 = some (x, S')) : zMi l yX7_wordAt cX7_wordAt 3 .int { frames := 3, cells := 0, slots := 0, locals := 64 } D cI cZ A (wC cI cZ ad) (RG bsC) [.ref (ad 3), .int (zI a1), .int (zI a2)] S x S' := by
  refine k_start_i (by decide +kernel) hD hG (Nat.le_of_ble_eq_true rfl) (fun Γ F hQ => ?_)
  have F : zF Γ (wC cI cZ ad) cI cZ cX7_wordAt { frames := 3, cells := 0, slots := 0, locals := 64 } 3 RX7 := F
  refine k_sub [0, 1, 2] (lv' := [(0, .ref (ad 3)), (1, .int (zI a1)), (2, .int (zI a2))]) rfl ?_
  refine k_aload_n F dX7_wordAt_0 rfl 0 rfl ?_
  refine k_iload_n F dX7_wordAt_1 rfl 1 rfl ?_
  refine k_iload_n F dX7_wordAt_2 rfl 2 rfl ?_
  refine k_callVi F cal_X7_hasPlace wm_137 (obC_3 cI cZ ad) (fun l D A hD hG x S' h => c_X7_hasPlace hD hG ra1 ra2 h) ⟨rfl, rfl, Nat.le_of_ble_eq_true rfl, Nat.le_of_ble_eq_true rfl⟩ rfl rfl (Nat.le_of_ble_eq_true rfl) dX7_wordAt_3 h (fun x1 S1 r1 b1 h1 => ?_)
  refine k_if_eq F r1 (tgt := 23) dX7_wordAt_6 (by decide) h1 (fun h2 => ?_) (fun h3 => ?_)
  · refine k_iconst F dX7_wordAt_23 ?_
    exact k_iret F hQ iR_m1 dX7_wordAt_24 h2
  · refine k_aload_n F dX7_wordAt_9 rfl 0 rfl ?_
    refine kgX7_words F dX7_wordAt_10 ?_
    refine k_iload_n F dX7_wordAt_13 rfl 1 rfl ?_
    refine k_bipush F dX7_wordAt_14 bp_12 ?_
    refine k_imul F dX7_wordAt_16 h3 (fun x2 r2 h4 => ?_)
    refine k_iload_n F dX7_wordAt_17 rfl 2 rfl ?_
    refine k_iadd F dX7_wordAt_18 h4 (fun x3 r3 h5 => ?_)
    refine k_iald F rfl 4 (aC_1 cI cZ ad) r3 dX7_wordAt_19 h5 (fun x4 r4 h6 => ?_)
    refine k_goto F (tgt := 24) dX7_wordAt_20 (by decide) ?_
    exact k_iret F hQ r4 dX7_wordAt_24 h6
set_option maxRecDepth 100000 in
theorem c_X7_nearest {l : Launch} {D : va_G} {A : Nat → Prop} {cI cZ : ClassId} {ad : Nat → Nat} (hD : ∀ S, va_D A (wC cI cZ ad S)) {S : zSt} (hG : RG bsC S) {a1 : Int} (ra1 : inR a1) {a2 : Int} (ra2 : inR a2) {a3 : Int} (ra3 : inR a3) {x : Int} {S' : zSt} (h : m_X7_nearest S a1 a2 a3 = some (x, S')) : zMi l yX7_nearest cX7_nearest 6 .int { frames := 4, cells := 0, slots := 0, locals := 86 } D cI cZ A (wC cI cZ ad) (RG bsC) [.ref (ad 3), .int (zI a1), .int (zI a2), .int (zI a3)] S x S' := by
  refine k_start_i (by decide +kernel) hD hG (Nat.le_of_ble_eq_true rfl) (fun Γ F hQ => ?_)
  have F : zF Γ (wC cI cZ ad) cI cZ cX7_nearest { frames := 4, cells := 0, slots := 0, locals := 86 } 6 RX7 := F
  refine k_sub [0, 1, 2, 3] (lv' := [(0, .ref (ad 3)), (1, .int (zI a1)), (2, .int (zI a2)), (3, .int (zI a3))]) rfl ?_
  refine k_iconst F dX7_nearest_0 ?_
  refine k_istore F dX7_nearest_1 (by decide) rfl ?_
  refine k_iconst F dX7_nearest_3 ?_
  refine k_istore F dX7_nearest_4 (by decide) rfl ?_
  refine zj1_e (PJ := (fun v1 S1 => inR v1 → zk Γ (wC cI cZ ad) (RG bsC) S1 [(4, .int (zI v1))] 60 [])) h (fun v1 S1 h1 r1 => ?_) (fun j1 J1 h2 => ?_)
  · refine k_iload F dX7_nearest_60 0 rfl ?_
    exact k_iret F hQ r1 dX7_nearest_62 h1
  · refine k_sub [2, 3, 4, 5, 1, 0] rfl (zl2_e (F := (b_X7_nearest_6 a1 a2 a3 j1)) (fun v2 v3 S2 => inR v2 → inR v3 → zk Γ (wC cI cZ ad) (RG bsC) S2 [(0, .ref (ad 3)), (1, .int (zI a1)), (2, .int (zI a2)), (3, .int (zI a3)), (4, .int (zI v2)), (5, .int (zI v3))] 6 []) (fun rec1 v2 v3 S2 hrec1 h3 r2 r3 => ?_) 1000 (-1) 0 S h2 iR_m1 iR_0)
    refine k_iload F dX7_nearest_6 5 rfl ?_
    refine k_aload_n F dX7_nearest_8 rfl 0 rfl ?_
    refine k_iload_n F dX7_nearest_9 rfl 1 rfl ?_
    refine k_callVi F cal_X7_sizeOf wm_133 (obC_3 cI cZ ad) (fun l D A hD hG x S' h => c_X7_sizeOf hD hG ra1 h) ⟨rfl, rfl, Nat.le_of_ble_eq_true rfl, Nat.le_of_ble_eq_true rfl⟩ rfl rfl (Nat.le_of_ble_eq_true rfl) dX7_nearest_10 h3 (fun x1 S3 r4 b1 h4 => ?_)
    refine k_icmp_ge F r3 r4 (tgt := 60) dX7_nearest_13 (by decide) h4 (fun h5 => ?_) (fun h6 => ?_)
    · exact k_sub [4] rfl (J1 v2 S3 h5 r2)
    · refine k_aload_n F dX7_nearest_16 rfl 0 rfl ?_
      refine k_iload_n F dX7_nearest_17 rfl 1 rfl ?_
      refine k_iload F dX7_nearest_18 5 rfl ?_
      refine k_callVi F cal_X7_wordAt wm_141 (obC_3 cI cZ ad) (fun l D A hD hG x S' h => c_X7_wordAt hD hG ra1 r3 h) ⟨rfl, rfl, Nat.le_of_ble_eq_true rfl, Nat.le_of_ble_eq_true rfl⟩ rfl rfl (Nat.le_of_ble_eq_true rfl) dX7_nearest_20 h6 (fun x2 S4 r5 b2 h7 => ?_)
      refine k_iload_n F dX7_nearest_23 rfl 2 rfl ?_
      refine zj1_e (PJ := (fun v4 S5 => inR v4 → zk Γ (wC cI cZ ad) (RG bsC) S5 [(0, .ref (ad 3)), (1, .int (zI a1)), (2, .int (zI a2)), (3, .int (zI a3)), (4, .int (zI v4)), (5, .int (zI v3))] 54 [])) h7 (fun v4 S5 h8 r6 => ?_) (fun j2 J2 h10 => ?_)
      · refine k_iinc F (k := 5) (lv' := fun y => [(5, .int (zI y)), (0, .ref (ad 3)), (1, .int (zI a1)), (2, .int (zI a2)), (3, .int (zI a3)), (4, .int (zI v4))]) dX7_nearest_54 rfl (by decide) (fun _ => rfl) h8 (fun x3 r7 h9 => ?_)
        refine k_goto F (tgt := 6) dX7_nearest_57 (by decide) ?_
        exact k_sub [1, 2, 3, 4, 5, 0] rfl (hrec1 v4 x3 S5 h9 r6 r7)
      · refine k_icmp_ne F r5 ra2 (tgt := 54) dX7_nearest_24 (by decide) h10 (fun h11 => ?_) (fun h12 => ?_)
        · exact k_sub [0, 1, 2, 3, 4, 5] rfl (J2 v2 S4 h11 r2)
        · refine k_iload F dX7_nearest_27 4 rfl ?_
          refine k_iconst F dX7_nearest_29 ?_
          refine zj0_e (PJ := (fun S6 => zk Γ (wC cI cZ ad) (RG bsC) S6 [(0, .ref (ad 3)), (1, .int (zI a1)), (2, .int (zI a2)), (3, .int (zI a3)), (5, .int (zI v3))] 50 [])) h12 (fun S6 h13 => ?_) (fun j3 J3 h14 => ?_)
          · refine k_iload F dX7_nearest_50 4 rfl ?_
            refine k_istore F dX7_nearest_52 (by decide) rfl ?_
            exact k_sub [1, 2, 3, 4, 0, 5] rfl (J2 v3 S6 h13 r3)
          · refine k_icmp_eq F r2 iR_m1 (tgt := 50) dX7_nearest_30 (by decide) h14 (fun h15 => ?_) (fun h16 => ?_)
            · exact k_sub [0, 1, 2, 3, 5] rfl (J3 S4 h15)
            · refine k_iload F dX7_nearest_33 5 rfl ?_
              refine k_iload_n F dX7_nearest_35 rfl 3 rfl ?_
              refine k_isub F dX7_nearest_36 h16 (fun x4 r8 h17 => ?_)
              refine k_mabs F r8 wm_142 mal_abs (Nat.le_of_ble_eq_true rfl) (Nat.le_of_ble_eq_true rfl) dX7_nearest_37 h17 (fun x5 r9 h18 => ?_)
              refine k_iload F dX7_nearest_40 4 rfl ?_
              refine k_iload_n F dX7_nearest_42 rfl 3 rfl ?_
              refine k_isub F dX7_nearest_43 h18 (fun x6 r10 h19 => ?_)
              refine k_mabs F r10 wm_142 mal_abs (Nat.le_of_ble_eq_true rfl) (Nat.le_of_ble_eq_true rfl) dX7_nearest_44 h19 (fun x7 r11 h20 => ?_)
              refine k_icmp_ge F r9 r11 (tgt := 54) dX7_nearest_47 (by decide) h20 (fun h21 => ?_) (fun h22 => ?_)
              · exact k_sub [0, 1, 2, 3, 4, 5] rfl (J2 v2 S4 h21 r2)
              · exact k_sub [0, 1, 2, 3, 5] rfl (J3 S4 h22)
set_option maxRecDepth 100000 in
theorem c_X1_hookAnew {l : Launch} {D : va_G} {A : Nat → Prop} {cI cZ : ClassId} {ad : Nat → Nat} (hD : ∀ S, va_D A (wC cI cZ ad S)) {S : zSt} (hG : RG bsC S) {a1 : Int} (ra1 : inR a1) {x : Int} {S' : zSt} (h : m_X1_hookAnew S a1 = some (x, S')) : zMi l yX1_hookAnew cX1_hookAnew 7 .int { frames := 5, cells := 0, slots := 0, locals := 111 } D cI cZ A (wC cI cZ ad) (RG bsC) [.ref (ad 11), .int (zI a1), .ref (ad 3)] S x S' := by
  refine k_start_i (by decide +kernel) hD hG (Nat.le_of_ble_eq_true rfl) (fun Γ F hQ => ?_)
  have F : zF Γ (wC cI cZ ad) cI cZ cX1_hookAnew { frames := 5, cells := 0, slots := 0, locals := 111 } 7 RX1 := F
  refine k_sub [0, 1, 2] (lv' := [(0, .ref (ad 11)), (1, .int (zI a1)), (2, .ref (ad 3))]) rfl ?_
  refine k_iconst F dX1_hookAnew_0 ?_
  refine k_istore_n F dX1_hookAnew_1 rfl (by decide) rfl ?_
  refine k_iconst F dX1_hookAnew_2 ?_
  refine k_istore F dX1_hookAnew_3 (by decide) rfl ?_
  refine zj1_e (PJ := (fun v1 S1 => inR v1 → zk Γ (wC cI cZ ad) (RG bsC) S1 [(3, .int (zI v1))] 102 [])) h (fun v1 S1 h1 r1 => ?_) (fun j1 J1 h2 => ?_)
  · refine k_iload_n F dX1_hookAnew_102 rfl 0 rfl ?_
    exact k_iret F hQ r1 dX1_hookAnew_103 h1
  · refine k_sub [2, 3, 4, 1, 0] rfl (zl2_e (F := (b_X1_hookAnew_5 a1 j1)) (fun v2 v3 S2 => inR v2 → inR v3 → zk Γ (wC cI cZ ad) (RG bsC) S2 [(0, .ref (ad 11)), (1, .int (zI a1)), (2, .ref (ad 3)), (3, .int (zI v2)), (4, .int (zI v3))] 5 []) (fun rec1 v2 v3 S2 hrec1 h3 r2 r3 => ?_) 1000 0 0 S h2 iR_0 iR_0)
    refine k_iload F dX1_hookAnew_5 4 rfl ?_
    refine k_aload_n F dX1_hookAnew_7 rfl 0 rfl ?_
    refine kgX1_count F dX1_hookAnew_8 h3 (fun x1 r4 h4 => ?_)
    refine k_icmp_ge F r3 r4 (tgt := 102) dX1_hookAnew_11 (by decide) h4 (fun h5 => ?_) (fun h6 => ?_)
    · exact k_sub [3] rfl (J1 v2 S2 h5 r2)
    · refine k_aload_n F dX1_hookAnew_14 rfl 0 rfl ?_
      refine k_iload F dX1_hookAnew_15 4 rfl ?_
      refine k_iload_n F dX1_hookAnew_17 rfl 1 rfl ?_
      refine k_callVi F cal_X1_isHook wm_123 (obC_11 cI cZ ad) (fun l D A hD hG x S' h => c_X1_isHook hD hG r3 ra1 h) ⟨rfl, rfl, Nat.le_of_ble_eq_true rfl, Nat.le_of_ble_eq_true rfl⟩ rfl rfl (Nat.le_of_ble_eq_true rfl) dX1_hookAnew_18 h6 (fun x2 S3 r5 b1 h7 => ?_)
      refine zj1_e (PJ := (fun v4 S4 => inR v4 → zk Γ (wC cI cZ ad) (RG bsC) S4 [(0, .ref (ad 11)), (1, .int (zI a1)), (2, .ref (ad 3)), (3, .int (zI v4)), (4, .int (zI v3))] 96 [])) h7 (fun v4 S4 h8 r6 => ?_) (fun j2 J2 h10 => ?_)
      · refine k_iinc F (k := 4) (lv' := fun y => [(4, .int (zI y)), (0, .ref (ad 11)), (1, .int (zI a1)), (2, .ref (ad 3)), (3, .int (zI v4))]) dX1_hookAnew_96 rfl (by decide) (fun _ => rfl) h8 (fun x3 r7 h9 => ?_)
        refine k_goto F (tgt := 5) dX1_hookAnew_99 (by decide) ?_
        exact k_sub [1, 2, 3, 4, 0] rfl (hrec1 v4 x3 S4 h9 r6 r7)
      · refine k_if_eq F r5 (tgt := 96) dX1_hookAnew_21 (by decide) h10 (fun h11 => ?_) (fun h12 => ?_)
        · exact k_sub [0, 1, 2, 3, 4] rfl (J2 v2 S3 h11 r2)
        · refine k_aload_n F dX1_hookAnew_24 rfl 2 rfl ?_
          refine k_iload_n F dX1_hookAnew_25 rfl 1 rfl ?_
          refine k_aload_n F dX1_hookAnew_26 rfl 0 rfl ?_
          refine kgX1_words F dX1_hookAnew_27 ?_
          refine k_iload F dX1_hookAnew_30 4 rfl ?_
          refine k_iald F rfl 20 (aC_15 cI cZ ad) r3 dX1_hookAnew_32 h12 (fun x4 r8 h13 => ?_)
          refine k_aload_n F dX1_hookAnew_33 rfl 0 rfl ?_
          refine kgX1_places F dX1_hookAnew_34 ?_
          refine k_iload F dX1_hookAnew_37 4 rfl ?_
          refine k_iald F rfl 19 (aC_14 cI cZ ad) r3 dX1_hookAnew_39 h13 (fun x5 r9 h14 => ?_)
          refine k_callVi F cal_X7_nearest wm_146 (obC_3 cI cZ ad) (fun l D A hD hG x S' h => c_X7_nearest hD hG ra1 r8 r9 h) ⟨rfl, rfl, Nat.le_of_ble_eq_true rfl, Nat.le_of_ble_eq_true rfl⟩ rfl rfl (Nat.le_of_ble_eq_true rfl) dX1_hookAnew_40 h14 (fun x6 S5 r10 b2 h15 => ?_)
          refine k_istore F dX1_hookAnew_43 (by decide) rfl ?_
          refine k_iload F dX1_hookAnew_45 0 rfl ?_
          refine k_iconst F dX1_hookAnew_47 ?_
          refine zj1_e (PJ := (fun v5 S6 => inR v5 → zk Γ (wC cI cZ ad) (RG bsC) S6 [(0, .ref (ad 11)), (1, .int (zI a1)), (2, .ref (ad 3)), (3, .int (zI v2)), (4, .int (zI v3)), (5, .int (zI x6))] 56 [.int (zI v5)])) h15 (fun v5 S6 h16 r11 => ?_) (fun j4 J4 h28 => ?_)
          · refine k_istore F dX1_hookAnew_56 (by decide) rfl ?_
            refine k_iload F dX1_hookAnew_58 0 rfl ?_
            refine zj0_e (PJ := (fun S7 => zk Γ (wC cI cZ ad) (RG bsC) S7 [(0, .ref (ad 11)), (1, .int (zI a1)), (2, .ref (ad 3)), (3, .int (zI v2)), (4, .int (zI v3)), (6, .int (zI v5))] 72 [])) h16 (fun S7 h17 => ?_) (fun j3 J3 h24 => ?_)
            · refine k_iload F dX1_hookAnew_72 5 rfl ?_
              refine k_aload_n F dX1_hookAnew_74 rfl 0 rfl ?_
              refine kgX1_lost F dX1_hookAnew_75 ?_
              refine k_iload F dX1_hookAnew_78 4 rfl ?_
              refine k_zald01 F rfl 21 (by decide) (aC_16 cI cZ ad) r3 dX1_hookAnew_80 h17 (fun x7 r12 z1 h18 => ?_)
              refine k_icmp_eq F r11 r12 (tgt := 96) dX1_hookAnew_81 (by decide) h18 (fun h19 => ?_) (fun h20 => ?_)
              · exact k_sub [0, 1, 2, 3, 4] rfl (J2 v2 S7 h19 r2)
              · refine k_aload_n F dX1_hookAnew_84 rfl 0 rfl ?_
                refine kgX1_lost F dX1_hookAnew_85 ?_
                refine k_iload F dX1_hookAnew_88 4 rfl ?_
                refine k_iload F dX1_hookAnew_90 5 rfl ?_
                obtain ⟨z2, h21⟩ := zc01_e h20
                refine k_zast F rfl 21 (aC_16 cI cZ ad) (sC_16 cI cZ ad) r3 z2 dX1_hookAnew_92 h21 (fun S8 h22 => ?_)
                refine k_iinc F (k := 3) (lv' := fun y => [(3, .int (zI y)), (0, .ref (ad 11)), (1, .int (zI a1)), (2, .ref (ad 3)), (4, .int (zI v3)), (6, .int (zI v5))]) dX1_hookAnew_93 rfl (by decide) (fun _ => rfl) h22 (fun x8 r13 h23 => ?_)
                exact k_sub [1, 2, 3, 0, 4] rfl (J2 x8 S8 h23 r13)
            · refine k_if_ne F r11 (tgt := 72) dX1_hookAnew_60 (by decide) h24 (fun h25 => ?_) (fun h26 => ?_)
              · exact k_sub [1, 2, 3, 4, 5, 0] rfl (J3 S6 h25)
              · refine k_aload_n F dX1_hookAnew_63 rfl 1 rfl ?_
                refine kgX1_places F dX1_hookAnew_64 ?_
                refine k_iload F dX1_hookAnew_67 5 rfl ?_
                refine k_iload F dX1_hookAnew_69 6 rfl ?_
                refine k_iast F rfl 19 (aC_14 cI cZ ad) (sC_14 cI cZ ad) (by decide) r3 r10 dX1_hookAnew_71 h26 (fun S9 h27 => ?_)
                exact k_sub [1, 2, 3, 4, 5, 0] rfl (J3 S9 h27)
          · refine k_icmp_ne F r10 iR_m1 (tgt := 55) dX1_hookAnew_48 (by decide) h28 (fun h29 => ?_) (fun h30 => ?_)
            · refine k_iconst F dX1_hookAnew_55 ?_
              exact k_sub [1, 2, 3, 4, 5, 0] rfl (J4 0 S5 h29 iR_0)
            · refine k_iconst F dX1_hookAnew_51 ?_
              refine k_goto F (tgt := 56) dX1_hookAnew_52 (by decide) ?_
              exact k_sub [1, 2, 3, 4, 5, 0] rfl (J4 1 S5 h30 iR_1)
set_option maxRecDepth 100000 in
theorem c_X1_isLight {l : Launch} {D : va_G} {A : Nat → Prop} {cI cZ : ClassId} {ad : Nat → Nat} (hD : ∀ S, va_D A (wC cI cZ ad S)) {S : zSt} (hG : RG bsC S) {a1 : Int} (ra1 : inR a1) {x : Int} {S' : zSt} (h : m_X1_isLight S a1 = some (x, S')) : zMi l yX1_isLight cX1_isLight 2 .boolean { frames := 1, cells := 0, slots := 0, locals := 21 } D cI cZ A (wC cI cZ ad) (RG bsC) [.ref (ad 11), .int (zI a1)] S x S' := by
  refine k_start_i (by decide +kernel) hD hG (Nat.le_of_ble_eq_true rfl) (fun Γ F hQ => ?_)
  have F : zF Γ (wC cI cZ ad) cI cZ cX1_isLight { frames := 1, cells := 0, slots := 0, locals := 21 } 2 RX1 := F
  refine k_sub [0, 1] (lv' := [(0, .ref (ad 11)), (1, .int (zI a1))]) rfl ?_
  refine k_aload_n F dX1_isLight_0 rfl 0 rfl ?_
  refine kgX1_burdens F dX1_isLight_1 ?_
  refine k_iload_n F dX1_isLight_4 rfl 1 rfl ?_
  refine k_callNi F cal_X8_at nw_X1_58 (fun l D A hD hG x S' h => c_at hD hG 22 (aC_17 cI cZ ad) (by decide) (by decide) ra1 h) ⟨rfl, rfl, Nat.le_of_ble_eq_true rfl, Nat.le_of_ble_eq_true rfl⟩ rfl rfl (Nat.le_of_ble_eq_true rfl) dX1_isLight_5 h (fun x1 S1 r1 b1 h1 => ?_)
  refine k_iconst F dX1_isLight_8 ?_
  refine k_icmp_ge F r1 iR_1 (tgt := 16) dX1_isLight_9 (by decide) h1 (fun h2 => ?_) (fun h3 => ?_)
  · refine k_iconst F dX1_isLight_16 ?_
    exact k_zret F hQ (Or.inl rfl) dX1_isLight_17 h2
  · refine k_iconst F dX1_isLight_12 ?_
    refine k_goto F (tgt := 17) dX1_isLight_13 (by decide) ?_
    exact k_zret F hQ (Or.inr rfl) dX1_isLight_17 h3
set_option maxRecDepth 100000 in
theorem c_X1_burdenOf {l : Launch} {D : va_G} {A : Nat → Prop} {cI cZ : ClassId} {ad : Nat → Nat} (hD : ∀ S, va_D A (wC cI cZ ad S)) {S : zSt} (hG : RG bsC S) {a1 : Int} (ra1 : inR a1) {x : Int} {S' : zSt} (h : m_X1_burdenOf S a1 = some (x, S')) : zMi l yX1_burdenOf cX1_burdenOf 1 .int { frames := 0, cells := 0, slots := 0, locals := 0 } D cI cZ A (wC cI cZ ad) (RG bsC) [.int (zI a1)] S x S' := by
  refine k_start_i (by decide +kernel) hD hG (Nat.le_of_ble_eq_true rfl) (fun Γ F hQ => ?_)
  have F : zF Γ (wC cI cZ ad) cI cZ cX1_burdenOf { frames := 0, cells := 0, slots := 0, locals := 0 } 1 RX1 := F
  refine k_sub [0] (lv' := [(0, .int (zI a1))]) rfl ?_
  refine k_iload_n F dX1_burdenOf_0 rfl 0 rfl ?_
  refine k_iconst F dX1_burdenOf_1 ?_
  refine zj0_e (PJ := (fun S1 => zk Γ (wC cI cZ ad) (RG bsC) S1 [] 10 [])) h (fun S1 h1 => ?_) (fun j1 J1 h2 => ?_)
  · refine k_iconst F dX1_burdenOf_10 ?_
    exact k_iret F hQ iR_1 dX1_burdenOf_11 h1
  · refine k_icmp_eq F ra1 iR_1 (tgt := 10) dX1_burdenOf_2 (by decide) h2 (fun h3 => ?_) (fun h4 => ?_)
    · exact k_sub [] rfl (J1 S h3)
    · refine k_iload_n F dX1_burdenOf_5 rfl 0 rfl ?_
      refine k_iconst F dX1_burdenOf_6 ?_
      refine k_icmp_ne F ra1 iR_3 (tgt := 12) dX1_burdenOf_7 (by decide) h4 (fun h5 => ?_) (fun h6 => ?_)
      · refine k_iload_n F dX1_burdenOf_12 rfl 0 rfl ?_
        refine k_iconst F dX1_burdenOf_13 ?_
        refine k_icmp_ne F ra1 iR_2 (tgt := 21) dX1_burdenOf_14 (by decide) h5 (fun h7 => ?_) (fun h8 => ?_)
        · refine k_iconst F dX1_burdenOf_21 ?_
          exact k_iret F hQ iR_0 dX1_burdenOf_22 h7
        · refine k_iconst F dX1_burdenOf_17 ?_
          refine k_goto F (tgt := 22) dX1_burdenOf_18 (by decide) ?_
          exact k_iret F hQ iR_m1 dX1_burdenOf_22 h8
      · exact k_sub [] rfl (J1 S h6)
set_option maxRecDepth 100000 in
theorem c_X1_weigh {l : Launch} {D : va_G} {A : Nat → Prop} {cI cZ : ClassId} {ad : Nat → Nat} (hD : ∀ S, va_D A (wC cI cZ ad S)) {S : zSt} (hG : RG bsC S) {x : Int} {S' : zSt} (h : m_X1_weigh S  = some (x, S')) : zMv l yX1_weigh cX1_weigh 3 { frames := 2, cells := 0, slots := 0, locals := 42 } D cI cZ A (wC cI cZ ad) (RG bsC) [.ref (ad 11)] S S' := by
  refine k_start_v (by decide +kernel) hD hG (Nat.le_of_ble_eq_true rfl) (fun Γ F hQ => ?_)
  have F : zF Γ (wC cI cZ ad) cI cZ cX1_weigh { frames := 2, cells := 0, slots := 0, locals := 42 } 3 RX1 := F
  refine k_sub [0] (lv' := [(0, .ref (ad 11))]) rfl ?_
  refine k_aload_n F dX1_weigh_0 rfl 0 rfl ?_
  refine kgX1_burdens F dX1_weigh_1 ?_
  refine k_iconst F dX1_weigh_4 ?_
  refine k_fill F rfl 22 (aC_17 cI cZ ad) (sC_17 cI cZ ad) (by decide) (by decide) iR_0 wm_147 ⟨Nat.le_of_ble_eq_true rfl, Nat.le_of_ble_eq_true rfl⟩ (Nat.le_of_ble_eq_true rfl) dX1_weigh_5 h (fun S1 h1 => ?_)
  refine k_aload_n F dX1_weigh_8 rfl 0 rfl ?_
  refine kgX1_count F dX1_weigh_9 h1 (fun x1 r1 h2 => ?_)
  refine k_iconst F dX1_weigh_12 ?_
  refine k_isub F dX1_weigh_13 h2 (fun x2 r2 h3 => ?_)
  refine k_istore_n F dX1_weigh_14 rfl (by decide) rfl ?_
  refine k_sub [1, 0] rfl (zl1_e (F := b_X1_weigh_15) (fun v1 S2 => inR v1 → zk Γ (wC cI cZ ad) (RG bsC) S2 [(0, .ref (ad 11)), (1, .int (zI v1))] 15 []) (fun rec1 v1 S2 hrec1 h4 r3 => ?_) 1000 x2 S1 h3 r2)
  refine k_iload_n F dX1_weigh_15 rfl 1 rfl ?_
  refine k_if_lt F r3 (tgt := 66) dX1_weigh_16 (by decide) h4 (fun h5 => ?_) (fun h6 => ?_)
  · exact k_vret F hQ dX1_weigh_66 h5
  · refine k_aload_n F dX1_weigh_19 rfl 0 rfl ?_
    refine kgX1_parents F dX1_weigh_20 ?_
    refine k_iload_n F dX1_weigh_23 rfl 1 rfl ?_
    refine k_iald F rfl 16 (aC_11 cI cZ ad) r3 dX1_weigh_24 h6 (fun x3 r4 h7 => ?_)
    refine k_istore_n F dX1_weigh_25 rfl (by decide) rfl ?_
    refine k_aload_n F dX1_weigh_26 rfl 1 rfl ?_
    refine k_iload_n F dX1_weigh_27 rfl 0 rfl ?_
    refine k_callVi F cal_X1_has wm_116 (obC_11 cI cZ ad) (fun l D A hD hG x S' h => c_X1_has hD hG r4 h) ⟨rfl, rfl, Nat.le_of_ble_eq_true rfl, Nat.le_of_ble_eq_true rfl⟩ rfl rfl (Nat.le_of_ble_eq_true rfl) dX1_weigh_28 h7 (fun x4 S3 r5 b1 h8 => ?_)
    refine zj0_e (PJ := (fun S4 => zk Γ (wC cI cZ ad) (RG bsC) S4 [(0, .ref (ad 11)), (1, .int (zI v1))] 60 [])) h8 (fun S4 h9 => ?_) (fun j1 J1 h11 => ?_)
    · refine k_iinc F (k := 1) (lv' := fun y => [(1, .int (zI y)), (0, .ref (ad 11))]) dX1_weigh_60 rfl (by decide) (fun _ => rfl) h9 (fun x5 r6 h10 => ?_)
      refine k_goto F (tgt := 15) dX1_weigh_63 (by decide) ?_
      exact k_sub [1, 0] rfl (hrec1 x5 S4 h10 r6)
    · refine k_if_eq F r5 (tgt := 60) dX1_weigh_31 (by decide) h11 (fun h12 => ?_) (fun h13 => ?_)
      · exact k_sub [1, 2] rfl (J1 S3 h12)
      · refine k_aload_n F dX1_weigh_34 rfl 1 rfl ?_
        refine k_iload_n F dX1_weigh_35 rfl 2 rfl ?_
        refine k_callVi F cal_X1_isLight wm_151 (obC_11 cI cZ ad) (fun l D A hD hG x S' h => c_X1_isLight hD hG r3 h) ⟨rfl, rfl, Nat.le_of_ble_eq_true rfl, Nat.le_of_ble_eq_true rfl⟩ rfl rfl (Nat.le_of_ble_eq_true rfl) dX1_weigh_36 h13 (fun x6 S5 r7 b2 h14 => ?_)
        refine k_if_eq F r7 (tgt := 60) dX1_weigh_39 (by decide) h14 (fun h15 => ?_) (fun h16 => ?_)
        · exact k_sub [1, 2] rfl (J1 S5 h15)
        · refine k_aload_n F dX1_weigh_42 rfl 1 rfl ?_
          refine kgX1_burdens F dX1_weigh_43 ?_
          refine k_iload_n F dX1_weigh_46 rfl 0 rfl ?_
          refine k_dup2 F dX1_weigh_47 rfl rfl ?_
          refine k_iald F rfl 22 (aC_17 cI cZ ad) r4 dX1_weigh_48 h16 (fun x7 r8 h17 => ?_)
          refine k_aload_n F dX1_weigh_49 rfl 1 rfl ?_
          refine kgX1_kinds F dX1_weigh_50 ?_
          refine k_iload_n F dX1_weigh_53 rfl 2 rfl ?_
          refine k_iald F rfl 13 (aC_8 cI cZ ad) r3 dX1_weigh_54 h17 (fun x8 r9 h18 => ?_)
          refine k_callSi F cal_X1_burdenOf wm_154 (fun l D A hD hG x S' h => c_X1_burdenOf hD hG r9 h) ⟨rfl, rfl, Nat.le_of_ble_eq_true rfl, Nat.le_of_ble_eq_true rfl⟩ rfl rfl (Nat.le_of_ble_eq_true rfl) dX1_weigh_55 h18 (fun x9 S6 r10 b3 h19 => ?_)
          refine k_iadd F dX1_weigh_58 h19 (fun x10 r11 h20 => ?_)
          refine k_iast F rfl 22 (aC_17 cI cZ ad) (sC_17 cI cZ ad) (by decide) r4 r11 dX1_weigh_59 h20 (fun S7 h21 => ?_)
          exact k_sub [1, 2] rfl (J1 S7 h21)
set_option maxRecDepth 100000 in
theorem c_X1_stands {l : Launch} {D : va_G} {A : Nat → Prop} {cI cZ : ClassId} {ad : Nat → Nat} (hD : ∀ S, va_D A (wC cI cZ ad S)) {S : zSt} (hG : RG bsC S) {a1 : Int} (ra1 : inR a1) {x : Int} {S' : zSt} (h : m_X1_stands S a1 = some (x, S')) : zMi l yX1_stands cX1_stands 2 .boolean { frames := 3, cells := 0, slots := 0, locals := 64 } D cI cZ A (wC cI cZ ad) (RG bsC) [.ref (ad 11), .int (zI a1)] S x S' := by
  refine k_start_i (by decide +kernel) hD hG (Nat.le_of_ble_eq_true rfl) (fun Γ F hQ => ?_)
  have F : zF Γ (wC cI cZ ad) cI cZ cX1_stands { frames := 3, cells := 0, slots := 0, locals := 64 } 2 RX1 := F
  refine k_sub [0, 1] (lv' := [(0, .ref (ad 11)), (1, .int (zI a1))]) rfl ?_
  refine k_aload_n F dX1_stands_0 rfl 0 rfl ?_
  refine k_callVv F cal_X1_weigh wm_158 (obC_11 cI cZ ad) (fun l D A hD hG x S' h => c_X1_weigh hD hG h) ⟨rfl, rfl, Nat.le_of_ble_eq_true rfl, Nat.le_of_ble_eq_true rfl⟩ rfl rfl (Nat.le_of_ble_eq_true rfl) dX1_stands_1 h (fun x1 S1 h1 => ?_)
  refine k_aload_n F dX1_stands_4 rfl 0 rfl ?_
  refine k_iload_n F dX1_stands_5 rfl 1 rfl ?_
  refine k_callVi F cal_X1_isLight wm_151 (obC_11 cI cZ ad) (fun l D A hD hG x S' h => c_X1_isLight hD hG ra1 h) ⟨rfl, rfl, Nat.le_of_ble_eq_true rfl, Nat.le_of_ble_eq_true rfl⟩ rfl rfl (Nat.le_of_ble_eq_true rfl) dX1_stands_6 h1 (fun x2 S2 r2 b2 h2 => ?_)
  exact k_zret F hQ (b2 rfl) dX1_stands_9 h2
set_option maxRecDepth 100000 in
theorem c_X4_size {l : Launch} {D : va_G} {A : Nat → Prop} {cI cZ : ClassId} {ad : Nat → Nat} (hD : ∀ S, va_D A (wC cI cZ ad S)) {S : zSt} (hG : RG bsC S) {x : Int} {S' : zSt} (h : m_X4_size S  = some (x, S')) : zMi l yX4_size cX4_size 1 .int { frames := 0, cells := 0, slots := 0, locals := 0 } D cI cZ A (wC cI cZ ad) (RG bsC) [.ref (ad 1)] S x S' := by
  refine k_start_i (by decide +kernel) hD hG (Nat.le_of_ble_eq_true rfl) (fun Γ F hQ => ?_)
  have F : zF Γ (wC cI cZ ad) cI cZ cX4_size { frames := 0, cells := 0, slots := 0, locals := 0 } 1 RX4 := F
  refine k_sub [0] (lv' := [(0, .ref (ad 1))]) rfl ?_
  refine k_aload_n F dX4_size_0 rfl 0 rfl ?_
  refine kgX4_size F dX4_size_1 h (fun x1 r1 h1 => ?_)
  exact k_iret F hQ r1 dX4_size_4 h1
set_option maxRecDepth 100000 in
theorem c_X4_isFull {l : Launch} {D : va_G} {A : Nat → Prop} {cI cZ : ClassId} {ad : Nat → Nat} (hD : ∀ S, va_D A (wC cI cZ ad S)) {S : zSt} (hG : RG bsC S) {x : Int} {S' : zSt} (h : m_X4_isFull S  = some (x, S')) : zMi l yX4_isFull cX4_isFull 1 .boolean { frames := 0, cells := 0, slots := 0, locals := 0 } D cI cZ A (wC cI cZ ad) (RG bsC) [.ref (ad 1)] S x S' := by
  refine k_start_i (by decide +kernel) hD hG (Nat.le_of_ble_eq_true rfl) (fun Γ F hQ => ?_)
  have F : zF Γ (wC cI cZ ad) cI cZ cX4_isFull { frames := 0, cells := 0, slots := 0, locals := 0 } 1 RX4 := F
  refine k_sub [0] (lv' := [(0, .ref (ad 1))]) rfl ?_
  refine k_aload_n F dX4_isFull_0 rfl 0 rfl ?_
  refine kgX4_size F dX4_isFull_1 h (fun x1 r1 h1 => ?_)
  refine k_aload_n F dX4_isFull_4 rfl 0 rfl ?_
  refine kgX4_words F dX4_isFull_5 ?_
  refine k_alen F 2 (aC_0 cI cZ ad) (by decide) dX4_isFull_8 ?_
  refine k_icmp_lt F r1 iR_12 (tgt := 16) dX4_isFull_9 (by decide) h1 (fun h2 => ?_) (fun h3 => ?_)
  · refine k_iconst F dX4_isFull_16 ?_
    exact k_zret F hQ (Or.inl rfl) dX4_isFull_17 h2
  · refine k_iconst F dX4_isFull_12 ?_
    refine k_goto F (tgt := 17) dX4_isFull_13 (by decide) ?_
    exact k_zret F hQ (Or.inr rfl) dX4_isFull_17 h3
set_option maxRecDepth 100000 in
theorem c_X4_add {l : Launch} {D : va_G} {A : Nat → Prop} {cI cZ : ClassId} {ad : Nat → Nat} (hD : ∀ S, va_D A (wC cI cZ ad S)) {S : zSt} (hG : RG bsC S) {a1 : Int} (ra1 : inR a1) {x : Int} {S' : zSt} (h : m_X4_add S a1 = some (x, S')) : zMv l yX4_add cX4_add 2 { frames := 1, cells := 0, slots := 0, locals := 20 } D cI cZ A (wC cI cZ ad) (RG bsC) [.ref (ad 1), .int (zI a1)] S S' := by
  refine k_start_v (by decide +kernel) hD hG (Nat.le_of_ble_eq_true rfl) (fun Γ F hQ => ?_)
  have F : zF Γ (wC cI cZ ad) cI cZ cX4_add { frames := 1, cells := 0, slots := 0, locals := 20 } 2 RX4 := F
  refine k_sub [0, 1] (lv' := [(0, .ref (ad 1)), (1, .int (zI a1))]) rfl ?_
  refine k_aload_n F dX4_add_0 rfl 0 rfl ?_
  refine k_callVi F cal_X4_isFull wm_163 (obC_1 cI cZ ad) (fun l D A hD hG x S' h => c_X4_isFull hD hG h) ⟨rfl, rfl, Nat.le_of_ble_eq_true rfl, Nat.le_of_ble_eq_true rfl⟩ rfl rfl (Nat.le_of_ble_eq_true rfl) dX4_add_1 h (fun x1 S1 r1 b1 h1 => ?_)
  refine k_if_ne F r1 (tgt := 27) dX4_add_4 (by decide) h1 (fun h2 => ?_) (fun h3 => ?_)
  · exact k_vret F hQ dX4_add_27 h2
  · refine k_aload_n F dX4_add_7 rfl 0 rfl ?_
    refine kgX4_words F dX4_add_8 ?_
    refine k_aload_n F dX4_add_11 rfl 0 rfl ?_
    refine kgX4_size F dX4_add_12 h3 (fun x2 r2 h4 => ?_)
    refine k_iload_n F dX4_add_15 rfl 1 rfl ?_
    refine k_iast F rfl 2 (aC_0 cI cZ ad) (sC_0 cI cZ ad) (by decide) r2 ra1 dX4_add_16 h4 (fun S2 h5 => ?_)
    refine k_aload_n F dX4_add_17 rfl 0 rfl ?_
    refine k_dup F dX4_add_18 rfl ?_
    refine kgX4_size F dX4_add_19 h5 (fun x3 r3 h6 => ?_)
    refine k_iconst F dX4_add_22 ?_
    refine k_iadd F dX4_add_23 h6 (fun x4 r4 h7 => ?_)
    refine kpX4_size F r4 dX4_add_24 h7 (fun S3 h8 => ?_)
    exact k_vret F hQ dX4_add_27 h8
set_option maxRecDepth 100000 in
theorem c_X4_clear {l : Launch} {D : va_G} {A : Nat → Prop} {cI cZ : ClassId} {ad : Nat → Nat} (hD : ∀ S, va_D A (wC cI cZ ad S)) {S : zSt} (hG : RG bsC S) {x : Int} {S' : zSt} (h : m_X4_clear S  = some (x, S')) : zMv l yX4_clear cX4_clear 1 { frames := 0, cells := 0, slots := 0, locals := 0 } D cI cZ A (wC cI cZ ad) (RG bsC) [.ref (ad 1)] S S' := by
  refine k_start_v (by decide +kernel) hD hG (Nat.le_of_ble_eq_true rfl) (fun Γ F hQ => ?_)
  have F : zF Γ (wC cI cZ ad) cI cZ cX4_clear { frames := 0, cells := 0, slots := 0, locals := 0 } 1 RX4 := F
  refine k_sub [0] (lv' := [(0, .ref (ad 1))]) rfl ?_
  refine k_aload_n F dX4_clear_0 rfl 0 rfl ?_
  refine k_iconst F dX4_clear_1 ?_
  refine kpX4_size F iR_0 dX4_clear_2 h (fun S1 h1 => ?_)
  exact k_vret F hQ dX4_clear_5 h1
set_option maxRecDepth 100000 in
theorem c_X4_wordAt {l : Launch} {D : va_G} {A : Nat → Prop} {cI cZ : ClassId} {ad : Nat → Nat} (hD : ∀ S, va_D A (wC cI cZ ad S)) {S : zSt} (hG : RG bsC S) {a1 : Int} (ra1 : inR a1) {x : Int} {S' : zSt} (h : m_X4_wordAt S a1 = some (x, S')) : zMi l yX4_wordAt cX4_wordAt 2 .int { frames := 1, cells := 0, slots := 0, locals := 21 } D cI cZ A (wC cI cZ ad) (RG bsC) [.ref (ad 1), .int (zI a1)] S x S' := by
  refine k_start_i (by decide +kernel) hD hG (Nat.le_of_ble_eq_true rfl) (fun Γ F hQ => ?_)
  have F : zF Γ (wC cI cZ ad) cI cZ cX4_wordAt { frames := 1, cells := 0, slots := 0, locals := 21 } 2 RX4 := F
  refine k_sub [0, 1] (lv' := [(0, .ref (ad 1)), (1, .int (zI a1))]) rfl ?_
  refine k_iload_n F dX4_wordAt_0 rfl 1 rfl ?_
  refine k_aload_n F dX4_wordAt_1 rfl 0 rfl ?_
  refine kgX4_size F dX4_wordAt_2 h (fun x1 r1 h1 => ?_)
  refine k_icmp_ge F ra1 r1 (tgt := 19) dX4_wordAt_5 (by decide) h1 (fun h2 => ?_) (fun h3 => ?_)
  · refine k_iconst F dX4_wordAt_19 ?_
    exact k_iret F hQ iR_m1 dX4_wordAt_20 h2
  · refine k_aload_n F dX4_wordAt_8 rfl 0 rfl ?_
    refine kgX4_words F dX4_wordAt_9 ?_
    refine k_iload_n F dX4_wordAt_12 rfl 1 rfl ?_
    refine k_callNi F cal_X8_at nw_X4_23 (fun l D A hD hG x S' h => c_at hD hG 2 (aC_0 cI cZ ad) (by decide) (by decide) ra1 h) ⟨rfl, rfl, Nat.le_of_ble_eq_true rfl, Nat.le_of_ble_eq_true rfl⟩ rfl rfl (Nat.le_of_ble_eq_true rfl) dX4_wordAt_13 h3 (fun x2 S1 r2 b1 h4 => ?_)
    refine k_goto F (tgt := 20) dX4_wordAt_16 (by decide) ?_
    exact k_iret F hQ r2 dX4_wordAt_20 h4
set_option maxRecDepth 100000 in
theorem c_X7_count {l : Launch} {D : va_G} {A : Nat → Prop} {cI cZ : ClassId} {ad : Nat → Nat} (hD : ∀ S, va_D A (wC cI cZ ad S)) {S : zSt} (hG : RG bsC S) {x : Int} {S' : zSt} (h : m_X7_count S  = some (x, S')) : zMi l yX7_count cX7_count 1 .int { frames := 0, cells := 0, slots := 0, locals := 0 } D cI cZ A (wC cI cZ ad) (RG bsC) [.ref (ad 3)] S x S' := by
  refine k_start_i (by decide +kernel) hD hG (Nat.le_of_ble_eq_true rfl) (fun Γ F hQ => ?_)
  have F : zF Γ (wC cI cZ ad) cI cZ cX7_count { frames := 0, cells := 0, slots := 0, locals := 0 } 1 RX7 := F
  refine k_sub [0] (lv' := [(0, .ref (ad 3))]) rfl ?_
  refine k_aload_n F dX7_count_0 rfl 0 rfl ?_
  refine kgX7_count F dX7_count_1 h (fun x1 r1 h1 => ?_)
  exact k_iret F hQ r1 dX7_count_4 h1
set_option maxRecDepth 100000 in
theorem c_X7_isFull {l : Launch} {D : va_G} {A : Nat → Prop} {cI cZ : ClassId} {ad : Nat → Nat} (hD : ∀ S, va_D A (wC cI cZ ad S)) {S : zSt} (hG : RG bsC S) {x : Int} {S' : zSt} (h : m_X7_isFull S  = some (x, S')) : zMi l yX7_isFull cX7_isFull 1 .boolean { frames := 0, cells := 0, slots := 0, locals := 0 } D cI cZ A (wC cI cZ ad) (RG bsC) [.ref (ad 3)] S x S' := by
  refine k_start_i (by decide +kernel) hD hG (Nat.le_of_ble_eq_true rfl) (fun Γ F hQ => ?_)
  have F : zF Γ (wC cI cZ ad) cI cZ cX7_isFull { frames := 0, cells := 0, slots := 0, locals := 0 } 1 RX7 := F
  refine k_sub [0] (lv' := [(0, .ref (ad 3))]) rfl ?_
  refine k_aload_n F dX7_isFull_0 rfl 0 rfl ?_
  refine kgX7_count F dX7_isFull_1 h (fun x1 r1 h1 => ?_)
  refine k_aload_n F dX7_isFull_4 rfl 0 rfl ?_
  refine kgX7_sizes F dX7_isFull_5 ?_
  refine k_alen F 5 (aC_2 cI cZ ad) (by decide) dX7_isFull_8 ?_
  refine k_icmp_lt F r1 iR_20 (tgt := 16) dX7_isFull_9 (by decide) h1 (fun h2 => ?_) (fun h3 => ?_)
  · refine k_iconst F dX7_isFull_16 ?_
    exact k_zret F hQ (Or.inl rfl) dX7_isFull_17 h2
  · refine k_iconst F dX7_isFull_12 ?_
    refine k_goto F (tgt := 17) dX7_isFull_13 (by decide) ?_
    exact k_zret F hQ (Or.inr rfl) dX7_isFull_17 h3
set_option maxRecDepth 100000 in
theorem c_X7_put {l : Launch} {D : va_G} {A : Nat → Prop} {cI cZ : ClassId} {ad : Nat → Nat} (hD : ∀ S, va_D A (wC cI cZ ad S)) {S : zSt} (hG : RG bsC S) {a1 : Int} (ra1 : inR a1) {a2 : Int} (ra2 : inR a2) {a3 : Int} (ra3 : inR a3) {x : Int} {S' : zSt} (h : m_X7_put S a1 a2 a3 = some (x, S')) : zMv l yX7_put cX7_put 4 { frames := 3, cells := 0, slots := 0, locals := 64 } D cI cZ A (wC cI cZ ad) (RG bsC) [.ref (ad 3), .int (zI a1), .int (zI a2), .int (zI a3)] S S' := by
  refine k_start_v (by decide +kernel) hD hG (Nat.le_of_ble_eq_true rfl) (fun Γ F hQ => ?_)
  have F : zF Γ (wC cI cZ ad) cI cZ cX7_put { frames := 3, cells := 0, slots := 0, locals := 64 } 4 RX7 := F
  refine k_sub [0, 1, 2, 3] (lv' := [(0, .ref (ad 3)), (1, .int (zI a1)), (2, .int (zI a2)), (3, .int (zI a3))]) rfl ?_
  refine k_aload_n F dX7_put_0 rfl 0 rfl ?_
  refine k_iload_n F dX7_put_1 rfl 1 rfl ?_
  refine k_iload_n F dX7_put_2 rfl 2 rfl ?_
  refine k_callVi F cal_X7_hasPlace wm_137 (obC_3 cI cZ ad) (fun l D A hD hG x S' h => c_X7_hasPlace hD hG ra1 ra2 h) ⟨rfl, rfl, Nat.le_of_ble_eq_true rfl, Nat.le_of_ble_eq_true rfl⟩ rfl rfl (Nat.le_of_ble_eq_true rfl) dX7_put_3 h (fun x1 S1 r1 b1 h1 => ?_)
  refine k_if_eq F r1 (tgt := 21) dX7_put_6 (by decide) h1 (fun h2 => ?_) (fun h3 => ?_)
  · exact k_vret F hQ dX7_put_21 h2
  · refine k_aload_n F dX7_put_9 rfl 0 rfl ?_
    refine kgX7_words F dX7_put_10 ?_
    refine k_iload_n F dX7_put_13 rfl 1 rfl ?_
    refine k_bipush F dX7_put_14 bp_12 ?_
    refine k_imul F dX7_put_16 h3 (fun x2 r2 h4 => ?_)
    refine k_iload_n F dX7_put_17 rfl 2 rfl ?_
    refine k_iadd F dX7_put_18 h4 (fun x3 r3 h5 => ?_)
    refine k_iload_n F dX7_put_19 rfl 3 rfl ?_
    refine k_iast F rfl 4 (aC_1 cI cZ ad) (sC_1 cI cZ ad) (by decide) r3 ra3 dX7_put_20 h5 (fun S2 h6 => ?_)
    exact k_vret F hQ dX7_put_21 h6
set_option maxRecDepth 100000 in
theorem c_X7_add {l : Launch} {D : va_G} {A : Nat → Prop} {cI cZ : ClassId} {ad : Nat → Nat} (hD : ∀ S, va_D A (wC cI cZ ad S)) {S : zSt} (hG : RG bsC S) {x : Int} {S' : zSt} (h : m_X7_add S  = some (x, S')) : zMv l yX7_add cX7_add 4 { frames := 4, cells := 0, slots := 0, locals := 87 } D cI cZ A (wC cI cZ ad) (RG bsC) [.ref (ad 3), .ref (ad 1)] S S' := by
  refine k_start_v (by decide +kernel) hD hG (Nat.le_of_ble_eq_true rfl) (fun Γ F hQ => ?_)
  have F : zF Γ (wC cI cZ ad) cI cZ cX7_add { frames := 4, cells := 0, slots := 0, locals := 87 } 4 RX7 := F
  refine k_sub [0, 1] (lv' := [(0, .ref (ad 3)), (1, .ref (ad 1))]) rfl ?_
  refine k_aload_n F dX7_add_0 rfl 0 rfl ?_
  refine k_callVi F cal_X7_isFull wm_167 (obC_3 cI cZ ad) (fun l D A hD hG x S' h => c_X7_isFull hD hG h) ⟨rfl, rfl, Nat.le_of_ble_eq_true rfl, Nat.le_of_ble_eq_true rfl⟩ rfl rfl (Nat.le_of_ble_eq_true rfl) dX7_add_1 h (fun x1 S1 r1 b1 h1 => ?_)
  refine k_if_eq F r1 (tgt := 8) dX7_add_4 (by decide) h1 (fun h2 => ?_) (fun h3 => ?_)
  · refine k_aload_n F dX7_add_8 rfl 0 rfl ?_
    refine kgX7_count F dX7_add_9 h2 (fun x2 r2 h4 => ?_)
    refine k_istore_n F dX7_add_12 rfl (by decide) rfl ?_
    refine k_aload_n F dX7_add_13 rfl 1 rfl ?_
    refine k_dup F dX7_add_14 rfl ?_
    refine kgX7_count F dX7_add_15 h4 (fun x3 r3 h5 => ?_)
    refine k_iconst F dX7_add_18 ?_
    refine k_iadd F dX7_add_19 h5 (fun x4 r4 h6 => ?_)
    refine kpX7_count F r4 dX7_add_20 h6 (fun S2 h7 => ?_)
    refine k_aload_n F dX7_add_23 rfl 1 rfl ?_
    refine kgX7_sizes F dX7_add_24 ?_
    refine k_iload_n F dX7_add_27 rfl 0 rfl ?_
    refine k_aload_n F dX7_add_28 rfl 2 rfl ?_
    refine k_callVi F cal_X4_size wm_171 (obC_1 cI cZ ad) (fun l D A hD hG x S' h => c_X4_size hD hG h) ⟨rfl, rfl, Nat.le_of_ble_eq_true rfl, Nat.le_of_ble_eq_true rfl⟩ rfl rfl (Nat.le_of_ble_eq_true rfl) dX7_add_29 h7 (fun x5 S3 r5 b2 h8 => ?_)
    refine k_iast F rfl 5 (aC_2 cI cZ ad) (sC_2 cI cZ ad) (by decide) r2 r5 dX7_add_32 h8 (fun S4 h9 => ?_)
    refine k_iconst F dX7_add_33 ?_
    refine k_istore_n F dX7_add_34 rfl (by decide) rfl ?_
    refine k_sub [2, 3, 1, 0] rfl (zl1_e (F := (b_X7_add_35 x2)) (fun v1 S5 => inR v1 → zk Γ (wC cI cZ ad) (RG bsC) S5 [(0, .ref (ad 3)), (1, .ref (ad 1)), (2, .int (zI x2)), (3, .int (zI v1))] 35 []) (fun rec1 v1 S5 hrec1 h10 r6 => ?_) 1000 0 S4 h9 iR_0)
    refine k_iload_n F dX7_add_35 rfl 3 rfl ?_
    refine k_aload_n F dX7_add_36 rfl 1 rfl ?_
    refine k_callVi F cal_X4_size wm_171 (obC_1 cI cZ ad) (fun l D A hD hG x S' h => c_X4_size hD hG h) ⟨rfl, rfl, Nat.le_of_ble_eq_true rfl, Nat.le_of_ble_eq_true rfl⟩ rfl rfl (Nat.le_of_ble_eq_true rfl) dX7_add_37 h10 (fun x6 S6 r7 b3 h11 => ?_)
    refine k_icmp_ge F r6 r7 (tgt := 60) dX7_add_40 (by decide) h11 (fun h12 => ?_) (fun h13 => ?_)
    · exact k_vret F hQ dX7_add_60 h12
    · refine k_aload_n F dX7_add_43 rfl 0 rfl ?_
      refine k_iload_n F dX7_add_44 rfl 2 rfl ?_
      refine k_iload_n F dX7_add_45 rfl 3 rfl ?_
      refine k_aload_n F dX7_add_46 rfl 1 rfl ?_
      refine k_iload_n F dX7_add_47 rfl 3 rfl ?_
      refine k_callVi F cal_X4_wordAt wm_175 (obC_1 cI cZ ad) (fun l D A hD hG x S' h => c_X4_wordAt hD hG r6 h) ⟨rfl, rfl, Nat.le_of_ble_eq_true rfl, Nat.le_of_ble_eq_true rfl⟩ rfl rfl (Nat.le_of_ble_eq_true rfl) dX7_add_48 h13 (fun x7 S7 r8 b4 h14 => ?_)
      refine k_callVv F cal_X7_put wm_179 (obC_3 cI cZ ad) (fun l D A hD hG x S' h => c_X7_put hD hG r2 r6 r8 h) ⟨rfl, rfl, Nat.le_of_ble_eq_true rfl, Nat.le_of_ble_eq_true rfl⟩ rfl rfl (Nat.le_of_ble_eq_true rfl) dX7_add_51 h14 (fun x8 S8 h15 => ?_)
      refine k_iinc F (k := 3) (lv' := fun y => [(3, .int (zI y)), (0, .ref (ad 3)), (1, .ref (ad 1)), (2, .int (zI x2))]) dX7_add_54 rfl (by decide) (fun _ => rfl) h15 (fun x9 r10 h16 => ?_)
      refine k_goto F (tgt := 35) dX7_add_57 (by decide) ?_
      exact k_sub [1, 2, 3, 0] rfl (hrec1 x9 S8 h16 r10)
  · exact k_vret F hQ dX7_add_7 h3
set_option maxRecDepth 100000 in
theorem c_X7_takeOut {l : Launch} {D : va_G} {A : Nat → Prop} {cI cZ : ClassId} {ad : Nat → Nat} (hD : ∀ S, va_D A (wC cI cZ ad S)) {S : zSt} (hG : RG bsC S) {a1 : Int} (ra1 : inR a1) {a2 : Int} (ra2 : inR a2) {x : Int} {S' : zSt} (h : m_X7_takeOut S a1 a2 = some (x, S')) : zMv l yX7_takeOut cX7_takeOut 4 { frames := 4, cells := 0, slots := 0, locals := 87 } D cI cZ A (wC cI cZ ad) (RG bsC) [.ref (ad 3), .int (zI a1), .int (zI a2)] S S' := by
  refine k_start_v (by decide +kernel) hD hG (Nat.le_of_ble_eq_true rfl) (fun Γ F hQ => ?_)
  have F : zF Γ (wC cI cZ ad) cI cZ cX7_takeOut { frames := 4, cells := 0, slots := 0, locals := 87 } 4 RX7 := F
  refine k_sub [0, 1, 2] (lv' := [(0, .ref (ad 3)), (1, .int (zI a1)), (2, .int (zI a2))]) rfl ?_
  refine k_aload_n F dX7_takeOut_0 rfl 0 rfl ?_
  refine k_iload_n F dX7_takeOut_1 rfl 1 rfl ?_
  refine k_iload_n F dX7_takeOut_2 rfl 2 rfl ?_
  refine k_callVi F cal_X7_hasPlace wm_137 (obC_3 cI cZ ad) (fun l D A hD hG x S' h => c_X7_hasPlace hD hG ra1 ra2 h) ⟨rfl, rfl, Nat.le_of_ble_eq_true rfl, Nat.le_of_ble_eq_true rfl⟩ rfl rfl (Nat.le_of_ble_eq_true rfl) dX7_takeOut_3 h (fun x1 S1 r1 b1 h1 => ?_)
  refine k_if_ne F r1 (tgt := 10) dX7_takeOut_6 (by decide) h1 (fun h2 => ?_) (fun h3 => ?_)
  · refine k_iload_n F dX7_takeOut_10 rfl 2 rfl ?_
    refine k_istore_n F dX7_takeOut_11 rfl (by decide) rfl ?_
    refine zj0_e (PJ := (fun S2 => zk Γ (wC cI cZ ad) (RG bsC) S2 [(0, .ref (ad 3)), (1, .int (zI a1))] 44 [])) h2 (fun S2 h4 => ?_) (fun j1 J1 h8 => ?_)
    · refine k_aload_n F dX7_takeOut_44 rfl 0 rfl ?_
      refine kgX7_sizes F dX7_takeOut_45 ?_
      refine k_iload_n F dX7_takeOut_48 rfl 1 rfl ?_
      refine k_dup2 F dX7_takeOut_49 rfl rfl ?_
      refine k_iald F rfl 5 (aC_2 cI cZ ad) ra1 dX7_takeOut_50 h4 (fun x2 r2 h5 => ?_)
      refine k_iconst F dX7_takeOut_51 ?_
      refine k_isub F dX7_takeOut_52 h5 (fun x3 r3 h6 => ?_)
      refine k_iast F rfl 5 (aC_2 cI cZ ad) (sC_2 cI cZ ad) (by decide) ra1 r3 dX7_takeOut_53 h6 (fun S3 h7 => ?_)
      exact k_vret F hQ dX7_takeOut_54 h7
    · refine k_sub [1, 2, 0] rfl (zl1_e (F := (b_X7_takeOut_12 a1 j1)) (fun v1 S4 => inR v1 → zk Γ (wC cI cZ ad) (RG bsC) S4 [(0, .ref (ad 3)), (1, .int (zI a1)), (3, .int (zI v1))] 12 []) (fun rec1 v1 S4 hrec1 h9 r4 => ?_) 1000 a2 S1 h8 ra2)
      refine k_iload_n F dX7_takeOut_12 rfl 2 rfl ?_
      refine k_iconst F dX7_takeOut_13 ?_
      refine k_iadd F dX7_takeOut_14 h9 (fun x4 r5 h10 => ?_)
      refine k_aload_n F dX7_takeOut_15 rfl 0 rfl ?_
      refine kgX7_sizes F dX7_takeOut_16 ?_
      refine k_iload_n F dX7_takeOut_19 rfl 1 rfl ?_
      refine k_iald F rfl 5 (aC_2 cI cZ ad) ra1 dX7_takeOut_20 h10 (fun x5 r6 h11 => ?_)
      refine k_icmp_ge F r5 r6 (tgt := 44) dX7_takeOut_21 (by decide) h11 (fun h12 => ?_) (fun h13 => ?_)
      · exact k_sub [0, 1] rfl (J1 S4 h12)
      · refine k_aload_n F dX7_takeOut_24 rfl 0 rfl ?_
        refine k_iload_n F dX7_takeOut_25 rfl 1 rfl ?_
        refine k_iload_n F dX7_takeOut_26 rfl 2 rfl ?_
        refine k_aload_n F dX7_takeOut_27 rfl 0 rfl ?_
        refine k_iload_n F dX7_takeOut_28 rfl 1 rfl ?_
        refine k_iload_n F dX7_takeOut_29 rfl 2 rfl ?_
        refine k_iconst F dX7_takeOut_30 ?_
        refine k_iadd F dX7_takeOut_31 h13 (fun x6 r7 h14 => ?_)
        refine k_callVi F cal_X7_wordAt wm_141 (obC_3 cI cZ ad) (fun l D A hD hG x S' h => c_X7_wordAt hD hG ra1 r7 h) ⟨rfl, rfl, Nat.le_of_ble_eq_true rfl, Nat.le_of_ble_eq_true rfl⟩ rfl rfl (Nat.le_of_ble_eq_true rfl) dX7_takeOut_32 h14 (fun x7 S5 r8 b2 h15 => ?_)
        refine k_callVv F cal_X7_put wm_179 (obC_3 cI cZ ad) (fun l D A hD hG x S' h => c_X7_put hD hG ra1 r4 r8 h) ⟨rfl, rfl, Nat.le_of_ble_eq_true rfl, Nat.le_of_ble_eq_true rfl⟩ rfl rfl (Nat.le_of_ble_eq_true rfl) dX7_takeOut_35 h15 (fun x8 S6 h16 => ?_)
        refine k_iinc F (k := 2) (lv' := fun y => [(3, .int (zI y)), (0, .ref (ad 3)), (1, .int (zI a1))]) dX7_takeOut_38 rfl (by decide) (fun _ => rfl) h16 (fun x9 r10 h17 => ?_)
        refine k_goto F (tgt := 12) dX7_takeOut_41 (by decide) ?_
        exact k_sub [1, 2, 0] rfl (hrec1 x9 S6 h17 r10)
  · exact k_vret F hQ dX7_takeOut_9 h3
set_option maxRecDepth 100000 in
theorem c_X7_placeOf {l : Launch} {D : va_G} {A : Nat → Prop} {cI cZ : ClassId} {ad : Nat → Nat} (hD : ∀ S, va_D A (wC cI cZ ad S)) {S : zSt} (hG : RG bsC S) {a1 : Int} (ra1 : inR a1) {a2 : Int} (ra2 : inR a2) {a3 : Int} (ra3 : inR a3) {x : Int} {S' : zSt} (h : m_X7_placeOf S a1 a2 a3 = some (x, S')) : zMi l yX7_placeOf cX7_placeOf 6 .int { frames := 4, cells := 0, slots := 0, locals := 86 } D cI cZ A (wC cI cZ ad) (RG bsC) [.ref (ad 3), .int (zI a1), .int (zI a2), .int (zI a3)] S x S' := by
  refine k_start_i (by decide +kernel) hD hG (Nat.le_of_ble_eq_true rfl) (fun Γ F hQ => ?_)
  have F : zF Γ (wC cI cZ ad) cI cZ cX7_placeOf { frames := 4, cells := 0, slots := 0, locals := 86 } 6 RX7 := F
  refine k_sub [0, 1, 2, 3] (lv' := [(0, .ref (ad 3)), (1, .int (zI a1)), (2, .int (zI a2)), (3, .int (zI a3))]) rfl ?_
  refine k_iconst F dX7_placeOf_0 ?_
  refine k_istore F dX7_placeOf_1 (by decide) rfl ?_
  refine k_iconst F dX7_placeOf_3 ?_
  refine k_istore F dX7_placeOf_4 (by decide) rfl ?_
  refine zj0_e (PJ := (fun S1 => zk Γ (wC cI cZ ad) (RG bsC) S1 [] 45 [])) h (fun S1 h1 => ?_) (fun j1 J1 h2 => ?_)
  · refine k_iconst F dX7_placeOf_45 ?_
    exact k_iret F hQ iR_m1 dX7_placeOf_46 h1
  · refine k_sub [2, 3, 4, 5, 1, 0] rfl (zl2_e (F := (b_X7_placeOf_6 a1 a2 a3 j1)) (fun v1 v2 S2 => inR v1 → inR v2 → zk Γ (wC cI cZ ad) (RG bsC) S2 [(0, .ref (ad 3)), (1, .int (zI a1)), (2, .int (zI a2)), (3, .int (zI a3)), (4, .int (zI v1)), (5, .int (zI v2))] 6 []) (fun rec1 v1 v2 S2 hrec1 h3 r1 r2 => ?_) 1000 0 0 S h2 iR_0 iR_0)
    refine k_iload F dX7_placeOf_6 5 rfl ?_
    refine k_aload_n F dX7_placeOf_8 rfl 0 rfl ?_
    refine k_iload_n F dX7_placeOf_9 rfl 1 rfl ?_
    refine k_callVi F cal_X7_sizeOf wm_133 (obC_3 cI cZ ad) (fun l D A hD hG x S' h => c_X7_sizeOf hD hG ra1 h) ⟨rfl, rfl, Nat.le_of_ble_eq_true rfl, Nat.le_of_ble_eq_true rfl⟩ rfl rfl (Nat.le_of_ble_eq_true rfl) dX7_placeOf_10 h3 (fun x1 S3 r3 b1 h4 => ?_)
    refine k_icmp_ge F r2 r3 (tgt := 45) dX7_placeOf_13 (by decide) h4 (fun h5 => ?_) (fun h6 => ?_)
    · exact k_sub [] rfl (J1 S3 h5)
    · refine k_aload_n F dX7_placeOf_16 rfl 0 rfl ?_
      refine k_iload_n F dX7_placeOf_17 rfl 1 rfl ?_
      refine k_iload F dX7_placeOf_18 5 rfl ?_
      refine k_callVi F cal_X7_wordAt wm_141 (obC_3 cI cZ ad) (fun l D A hD hG x S' h => c_X7_wordAt hD hG ra1 r2 h) ⟨rfl, rfl, Nat.le_of_ble_eq_true rfl, Nat.le_of_ble_eq_true rfl⟩ rfl rfl (Nat.le_of_ble_eq_true rfl) dX7_placeOf_20 h6 (fun x2 S4 r4 b2 h7 => ?_)
      refine k_iload_n F dX7_placeOf_23 rfl 2 rfl ?_
      refine zj1_e (PJ := (fun v3 S5 => inR v3 → zk Γ (wC cI cZ ad) (RG bsC) S5 [(0, .ref (ad 3)), (1, .int (zI a1)), (2, .int (zI a2)), (3, .int (zI a3)), (4, .int (zI v3)), (5, .int (zI v2))] 39 [])) h7 (fun v3 S5 h8 r5 => ?_) (fun j2 J2 h10 => ?_)
      · refine k_iinc F (k := 5) (lv' := fun y => [(5, .int (zI y)), (0, .ref (ad 3)), (1, .int (zI a1)), (2, .int (zI a2)), (3, .int (zI a3)), (4, .int (zI v3))]) dX7_placeOf_39 rfl (by decide) (fun _ => rfl) h8 (fun x3 r6 h9 => ?_)
        refine k_goto F (tgt := 6) dX7_placeOf_42 (by decide) ?_
        exact k_sub [1, 2, 3, 4, 5, 0] rfl (hrec1 v3 x3 S5 h9 r5 r6)
      · refine k_icmp_ne F r4 ra2 (tgt := 39) dX7_placeOf_24 (by decide) h10 (fun h11 => ?_) (fun h12 => ?_)
        · exact k_sub [0, 1, 2, 3, 4, 5] rfl (J2 v1 S4 h11 r1)
        · refine k_iinc F (k := 4) (lv' := fun y => [(4, .int (zI y)), (0, .ref (ad 3)), (1, .int (zI a1)), (2, .int (zI a2)), (3, .int (zI a3)), (5, .int (zI v2))]) dX7_placeOf_27 rfl (by decide) (fun _ => rfl) h12 (fun x4 r7 h13 => ?_)
          refine k_iload F dX7_placeOf_30 0 rfl ?_
          refine k_iload_n F dX7_placeOf_32 rfl 4 rfl ?_
          refine k_icmp_ne F r7 ra3 (tgt := 39) dX7_placeOf_33 (by decide) h13 (fun h14 => ?_) (fun h15 => ?_)
          · exact k_sub [1, 2, 3, 4, 0, 5] rfl (J2 x4 S4 h14 r7)
          · refine k_iload F dX7_placeOf_36 5 rfl ?_
            exact k_iret F hQ r2 dX7_placeOf_38 h15
end
section
set_option maxRecDepth 100000 in
theorem c_X8_needArgument {l : Launch} {D : va_G} {A : Nat → Prop} {cI cZ : ClassId} {ad ads : Nat → Nat} (hst : l.stackTraces = false) (hD : ∀ S, va_D A (wC cI cZ ad S)) {S : zSt} (hG : RG bsC S) {a1 : Int} (ra1 : inR a1) {a2 : Int} (ra2 : inR a2) {a3 : Int} (ra3 : inR a3) {r : zRx} (h : m_X8_needArgument S a1 a2 a3 = some r) : zMr l yX8_needArgument cX8_needArgument 3 none 6 90 D cI cZ ads A (wC cI cZ ad) (RG bsC) [.int (zI a1), .int (zI a2), .int (zI a3)] S r := by
  refine k_startX (by decide +kernel) hst hD hG (Nat.le_of_ble_eq_true rfl) (fun Γ F X hQ => ?_)
  have F : zF Γ (wC cI cZ ad) cI cZ cX8_needArgument (zroom 6 90 r) 3 RX8 := F
  refine k_sub [0, 1, 2] (lv' := [(0, .int (zI a1)), (1, .int (zI a2)), (2, .int (zI a3))]) rfl ?_
  refine k_iload_n F dX8_needArgument_0 rfl 0 rfl ?_
  refine k_iload_n F dX8_needArgument_1 rfl 1 rfl ?_
  refine zj0_e (PJ := (fun S1 => zk Γ (wC cI cZ ad) (RG bsC) S1 [] 10 [])) h (fun S1 h1 => ?_) (fun j1 J1 h2 => ?_)
  · exact k_throwW F X hQ (text := "an argument is out of its range") zthr_IAE (by decide) (by decide) (Nat.le_of_ble_eq_true rfl) dX8_needArgument_10 dX8_needArgument_13 dX8_needArgument_14 dX8_needArgument_17 dX8_needArgument_20 h1
  · refine k_icmp_lt F ra1 ra2 (tgt := 10) dX8_needArgument_2 (by decide) h2 (fun h3 => ?_) (fun h4 => ?_)
    · exact k_sub [] rfl (J1 S h3)
    · refine k_iload_n F dX8_needArgument_5 rfl 0 rfl ?_
      refine k_iload_n F dX8_needArgument_6 rfl 2 rfl ?_
      refine k_icmp_le F ra1 ra3 (tgt := 21) dX8_needArgument_7 (by decide) h4 (fun h5 => ?_) (fun h6 => ?_)
      · exact k_vretX F hQ dX8_needArgument_21 h5
      · exact k_sub [] rfl (J1 S h6)
set_option maxRecDepth 100000 in
theorem c_X8_needUnit {l : Launch} {D : va_G} {A : Nat → Prop} {cI cZ : ClassId} {ad ads : Nat → Nat} (hst : l.stackTraces = false) (hD : ∀ S, va_D A (wC cI cZ ad S)) {S : zSt} (hG : RG bsC S) {a1 : Int} (ra1 : inR a1) {r : zRx} (h : m_X8_needUnit S a1 = some r) : zMr l yX8_needUnit cX8_needUnit 2 none 6 90 D cI cZ ads A (wC cI cZ ad) (RG bsC) [.ref (ad 0), .int (zI a1)] S r := by
  refine k_startX (by decide +kernel) hst hD hG (Nat.le_of_ble_eq_true rfl) (fun Γ F X hQ => ?_)
  have F : zF Γ (wC cI cZ ad) cI cZ cX8_needUnit (zroom 6 90 r) 2 RX8 := F
  refine k_sub [0, 1] (lv' := [(0, .ref (ad 0)), (1, .int (zI a1))]) rfl ?_
  refine k_aload_n F dX8_needUnit_0 rfl 0 rfl ?_
  refine kgX8_text F dX8_needUnit_1 ?_
  refine k_iload_n F dX8_needUnit_4 rfl 1 rfl ?_
  refine k_callVi F cal_X7_has wm_180 (obC_3 cI cZ ad) (fun l D A hD hG x S' h => c_X7_has hD hG ra1 h) ⟨rfl, rfl, Nat.le_of_ble_eq_true rfl, Nat.le_of_ble_eq_true rfl⟩ rfl rfl (Nat.le_of_ble_eq_true rfl) dX8_needUnit_5 h (fun x1 S1 r1 b1 h1 => ?_)
  refine k_if_ne F r1 (tgt := 22) dX8_needUnit_8 (by decide) h1 (fun h2 => ?_) (fun h3 => ?_)
  · exact k_vretX F hQ dX8_needUnit_22 h2
  · exact k_throwW F X hQ (text := "no such unit") zthr_IOB (by decide) (by decide) (Nat.le_of_ble_eq_true rfl) dX8_needUnit_11 dX8_needUnit_14 dX8_needUnit_15 dX8_needUnit_18 dX8_needUnit_21 h3
set_option maxRecDepth 100000 in
theorem c_X8_needAuthor {l : Launch} {D : va_G} {A : Nat → Prop} {cI cZ : ClassId} {ad ads : Nat → Nat} (hst : l.stackTraces = false) (hD : ∀ S, va_D A (wC cI cZ ad S)) {S : zSt} (hG : RG bsC S) {a1 : Int} (ra1 : inR a1) {r : zRx} (h : m_X8_needAuthor S a1 = some r) : zMr l yX8_needAuthor cX8_needAuthor 2 none 6 90 D cI cZ ads A (wC cI cZ ad) (RG bsC) [.ref (ad 0), .int (zI a1)] S r := by
  refine k_startX (by decide +kernel) hst hD hG (Nat.le_of_ble_eq_true rfl) (fun Γ F X hQ => ?_)
  have F : zF Γ (wC cI cZ ad) cI cZ cX8_needAuthor (zroom 6 90 r) 2 RX8 := F
  refine k_sub [0, 1] (lv' := [(0, .ref (ad 0)), (1, .int (zI a1))]) rfl ?_
  refine k_aload_n F dX8_needAuthor_0 rfl 0 rfl ?_
  refine kgX8_authors F dX8_needAuthor_1 ?_
  refine k_iload_n F dX8_needAuthor_4 rfl 1 rfl ?_
  refine k_callVi F cal_X0_has wm_184 (obC_7 cI cZ ad) (fun l D A hD hG x S' h => c_X0_has hD hG ra1 h) ⟨rfl, rfl, Nat.le_of_ble_eq_true rfl, Nat.le_of_ble_eq_true rfl⟩ rfl rfl (Nat.le_of_ble_eq_true rfl) dX8_needAuthor_5 h (fun x1 S1 r1 b1 h1 => ?_)
  refine k_if_ne F r1 (tgt := 22) dX8_needAuthor_8 (by decide) h1 (fun h2 => ?_) (fun h3 => ?_)
  · exact k_vretX F hQ dX8_needAuthor_22 h2
  · exact k_throwW F X hQ (text := "no such author") zthr_IOB (by decide) (by decide) (Nat.le_of_ble_eq_true rfl) dX8_needAuthor_11 dX8_needAuthor_14 dX8_needAuthor_15 dX8_needAuthor_18 dX8_needAuthor_21 h3
set_option maxRecDepth 100000 in
theorem c_X8_needComment {l : Launch} {D : va_G} {A : Nat → Prop} {cI cZ : ClassId} {ad ads : Nat → Nat} (hst : l.stackTraces = false) (hD : ∀ S, va_D A (wC cI cZ ad S)) {S : zSt} (hG : RG bsC S) {a1 : Int} (ra1 : inR a1) {r : zRx} (h : m_X8_needComment S a1 = some r) : zMr l yX8_needComment cX8_needComment 2 none 6 90 D cI cZ ads A (wC cI cZ ad) (RG bsC) [.ref (ad 0), .int (zI a1)] S r := by
  refine k_startX (by decide +kernel) hst hD hG (Nat.le_of_ble_eq_true rfl) (fun Γ F X hQ => ?_)
  have F : zF Γ (wC cI cZ ad) cI cZ cX8_needComment (zroom 6 90 r) 2 RX8 := F
  refine k_sub [0, 1] (lv' := [(0, .ref (ad 0)), (1, .int (zI a1))]) rfl ?_
  refine k_aload_n F dX8_needComment_0 rfl 0 rfl ?_
  refine kgX8_comments F dX8_needComment_1 ?_
  refine k_iload_n F dX8_needComment_4 rfl 1 rfl ?_
  refine k_callVi F cal_X1_has wm_185 (obC_11 cI cZ ad) (fun l D A hD hG x S' h => c_X1_has hD hG ra1 h) ⟨rfl, rfl, Nat.le_of_ble_eq_true rfl, Nat.le_of_ble_eq_true rfl⟩ rfl rfl (Nat.le_of_ble_eq_true rfl) dX8_needComment_5 h (fun x1 S1 r1 b1 h1 => ?_)
  refine k_if_ne F r1 (tgt := 22) dX8_needComment_8 (by decide) h1 (fun h2 => ?_) (fun h3 => ?_)
  · exact k_vretX F hQ dX8_needComment_22 h2
  · exact k_throwW F X hQ (text := "no such comment") zthr_IOB (by decide) (by decide) (Nat.le_of_ble_eq_true rfl) dX8_needComment_11 dX8_needComment_14 dX8_needComment_15 dX8_needComment_18 dX8_needComment_21 h3
set_option maxRecDepth 100000 in
theorem c_X8_needRoomForComment {l : Launch} {D : va_G} {A : Nat → Prop} {cI cZ : ClassId} {ad ads : Nat → Nat} (hst : l.stackTraces = false) (hD : ∀ S, va_D A (wC cI cZ ad S)) {S : zSt} (hG : RG bsC S) {r : zRx} (h : m_X8_needRoomForComment S  = some r) : zMr l yX8_needRoomForComment cX8_needRoomForComment 1 none 6 90 D cI cZ ads A (wC cI cZ ad) (RG bsC) [.ref (ad 0)] S r := by
  refine k_startX (by decide +kernel) hst hD hG (Nat.le_of_ble_eq_true rfl) (fun Γ F X hQ => ?_)
  have F : zF Γ (wC cI cZ ad) cI cZ cX8_needRoomForComment (zroom 6 90 r) 1 RX8 := F
  refine k_sub [0] (lv' := [(0, .ref (ad 0))]) rfl ?_
  refine k_aload_n F dX8_needRoomForComment_0 rfl 0 rfl ?_
  refine kgX8_comments F dX8_needRoomForComment_1 ?_
  refine k_callVi F cal_X1_isFull wm_186 (obC_11 cI cZ ad) (fun l D A hD hG x S' h => c_X1_isFull hD hG h) ⟨rfl, rfl, Nat.le_of_ble_eq_true rfl, Nat.le_of_ble_eq_true rfl⟩ rfl rfl (Nat.le_of_ble_eq_true rfl) dX8_needRoomForComment_4 h (fun x1 S1 r1 b1 h1 => ?_)
  refine k_if_eq F r1 (tgt := 21) dX8_needRoomForComment_7 (by decide) h1 (fun h2 => ?_) (fun h3 => ?_)
  · exact k_vretX F hQ dX8_needRoomForComment_21 h2
  · exact k_throwW F X hQ (text := "no more comments") zthr_ISE (by decide) (by decide) (Nat.le_of_ble_eq_true rfl) dX8_needRoomForComment_10 dX8_needRoomForComment_13 dX8_needRoomForComment_14 dX8_needRoomForComment_17 dX8_needRoomForComment_20 h3
set_option maxRecDepth 100000 in
theorem c_X8_word {l : Launch} {D : va_G} {A : Nat → Prop} {cI cZ : ClassId} {ad ads : Nat → Nat} (hst : l.stackTraces = false) (hD : ∀ S, va_D A (wC cI cZ ad S)) {S : zSt} (hG : RG bsC S) {a1 : Int} (ra1 : inR a1) {r : zRx} (h : m_X8_word S a1 = some r) : zMr l yX8_word cX8_word 2 (some .int) 7 112 D cI cZ ads A (wC cI cZ ad) (RG bsC) [.ref (ad 0), .int (zI a1)] S r := by
  refine k_startX (by decide +kernel) hst hD hG (Nat.le_of_ble_eq_true rfl) (fun Γ F X hQ => ?_)
  have F : zF Γ (wC cI cZ ad) cI cZ cX8_word (zroom 7 112 r) 2 RX8 := F
  refine k_sub [0, 1] (lv' := [(0, .ref (ad 0)), (1, .int (zI a1))]) rfl ?_
  refine k_iload_n F dX8_word_0 rfl 1 rfl ?_
  refine k_iconst F dX8_word_1 ?_
  refine k_bipush F dX8_word_2 bp_59 ?_
  refine k_callXS F X hQ cal_X8_needArgument wm_189 (fun l D A hst hD hG r' h => c_X8_needArgument hst hD hG ra1 iR_0 iR_59 h) ⟨Nat.le_of_ble_eq_true rfl, Nat.le_of_ble_eq_true rfl⟩ rfl rfl (Nat.le_of_ble_eq_true rfl) dX8_word_4 h (fun x1 S1 h1 => ?_)
  refine k_aload_n F dX8_word_7 rfl 0 rfl ?_
  refine kgX8_pad F dX8_word_8 ?_
  refine k_callVi F cal_X4_isFull wm_190 (obC_1 cI cZ ad) (fun l D A hD hG x S' h => c_X4_isFull hD hG h) ⟨rfl, rfl, Nat.le_of_ble_eq_true rfl, Nat.le_of_ble_eq_true rfl⟩ rfl rfl (Nat.le_of_ble_eq_true rfl) dX8_word_11 h1 (fun x2 S2 r1 b1 h2 => ?_)
  refine k_if_eq F r1 (tgt := 27) dX8_word_14 (by decide) h2 (fun h3 => ?_) (fun h4 => ?_)
  · refine k_aload_n F dX8_word_27 rfl 0 rfl ?_
    refine kgX8_pad F dX8_word_28 ?_
    refine k_iload_n F dX8_word_31 rfl 1 rfl ?_
    refine k_callVv F cal_X4_add wm_194 (obC_1 cI cZ ad) (fun l D A hD hG x S' h => c_X4_add hD hG ra1 h) ⟨rfl, rfl, Nat.le_of_ble_eq_true rfl, Nat.le_of_ble_eq_true rfl⟩ rfl rfl (Nat.le_of_ble_eq_true rfl) dX8_word_32 h3 (fun x3 S3 h5 => ?_)
    refine k_aload_n F dX8_word_35 rfl 0 rfl ?_
    refine kgX8_pad F dX8_word_36 ?_
    refine k_callVi F cal_X4_size wm_195 (obC_1 cI cZ ad) (fun l D A hD hG x S' h => c_X4_size hD hG h) ⟨rfl, rfl, Nat.le_of_ble_eq_true rfl, Nat.le_of_ble_eq_true rfl⟩ rfl rfl (Nat.le_of_ble_eq_true rfl) dX8_word_39 h5 (fun x4 S4 r3 b3 h6 => ?_)
    exact k_iretX F hQ r3 dX8_word_42 h6
  · exact k_throwS F X hQ (text := "the pad is full") zthr_ISE (by decide) (by decide) (Nat.le_of_ble_eq_true rfl) dX8_word_17 dX8_word_20 dX8_word_21 dX8_word_23 dX8_word_26 h4
set_option maxRecDepth 100000 in
theorem c_X8_unit {l : Launch} {D : va_G} {A : Nat → Prop} {cI cZ : ClassId} {ad ads : Nat → Nat} (hst : l.stackTraces = false) (hD : ∀ S, va_D A (wC cI cZ ad S)) {S : zSt} (hG : RG bsC S) {r : zRx} (h : m_X8_unit S  = some r) : zMr l yX8_unit cX8_unit 1 (some .int) 6 110 D cI cZ ads A (wC cI cZ ad) (RG bsC) [.ref (ad 0)] S r := by
  refine k_startX (by decide +kernel) hst hD hG (Nat.le_of_ble_eq_true rfl) (fun Γ F X hQ => ?_)
  have F : zF Γ (wC cI cZ ad) cI cZ cX8_unit (zroom 6 110 r) 1 RX8 := F
  refine k_sub [0] (lv' := [(0, .ref (ad 0))]) rfl ?_
  refine k_aload_n F dX8_unit_0 rfl 0 rfl ?_
  refine kgX8_pad F dX8_unit_1 ?_
  refine k_callVi F cal_X4_size wm_195 (obC_1 cI cZ ad) (fun l D A hD hG x S' h => c_X4_size hD hG h) ⟨rfl, rfl, Nat.le_of_ble_eq_true rfl, Nat.le_of_ble_eq_true rfl⟩ rfl rfl (Nat.le_of_ble_eq_true rfl) dX8_unit_4 h (fun x1 S1 r1 b1 h1 => ?_)
  refine k_if_ne F r1 (tgt := 20) dX8_unit_7 (by decide) h1 (fun h2 => ?_) (fun h3 => ?_)
  · refine k_aload_n F dX8_unit_20 rfl 0 rfl ?_
    refine kgX8_text F dX8_unit_21 ?_
    refine k_callVi F cal_X7_isFull wm_196 (obC_3 cI cZ ad) (fun l D A hD hG x S' h => c_X7_isFull hD hG h) ⟨rfl, rfl, Nat.le_of_ble_eq_true rfl, Nat.le_of_ble_eq_true rfl⟩ rfl rfl (Nat.le_of_ble_eq_true rfl) dX8_unit_24 h2 (fun x2 S2 r2 b2 h4 => ?_)
    refine k_if_eq F r2 (tgt := 40) dX8_unit_27 (by decide) h4 (fun h5 => ?_) (fun h6 => ?_)
    · refine k_aload_n F dX8_unit_40 rfl 0 rfl ?_
      refine kgX8_text F dX8_unit_41 ?_
      refine k_aload_n F dX8_unit_44 rfl 0 rfl ?_
      refine kgX8_pad F dX8_unit_45 ?_
      refine k_callVv F cal_X7_add wm_200 (obC_3 cI cZ ad) (fun l D A hD hG x S' h => c_X7_add hD hG h) ⟨rfl, rfl, Nat.le_of_ble_eq_true rfl, Nat.le_of_ble_eq_true rfl⟩ rfl rfl (Nat.le_of_ble_eq_true rfl) dX8_unit_48 h5 (fun x3 S3 h7 => ?_)
      refine k_aload_n F dX8_unit_51 rfl 0 rfl ?_
      refine kgX8_pad F dX8_unit_52 ?_
      refine k_callVv F cal_X4_clear wm_204 (obC_1 cI cZ ad) (fun l D A hD hG x S' h => c_X4_clear hD hG h) ⟨rfl, rfl, Nat.le_of_ble_eq_true rfl, Nat.le_of_ble_eq_true rfl⟩ rfl rfl (Nat.le_of_ble_eq_true rfl) dX8_unit_55 h7 (fun x4 S4 h8 => ?_)
      refine k_aload_n F dX8_unit_58 rfl 0 rfl ?_
      refine kgX8_text F dX8_unit_59 ?_
      refine k_callVi F cal_X7_count wm_208 (obC_3 cI cZ ad) (fun l D A hD hG x S' h => c_X7_count hD hG h) ⟨rfl, rfl, Nat.le_of_ble_eq_true rfl, Nat.le_of_ble_eq_true rfl⟩ rfl rfl (Nat.le_of_ble_eq_true rfl) dX8_unit_62 h8 (fun x5 S5 r5 b5 h9 => ?_)
      refine k_iconst F dX8_unit_65 ?_
      refine k_isub F dX8_unit_66 h9 (fun x6 r6 h10 => ?_)
      exact k_iretX F hQ r6 dX8_unit_67 h10
    · exact k_throwS F X hQ (text := "no more units") zthr_ISE (by decide) (by decide) (Nat.le_of_ble_eq_true rfl) dX8_unit_30 dX8_unit_33 dX8_unit_34 dX8_unit_36 dX8_unit_39 h6
  · exact k_throwS F X hQ (text := "the pad is empty") zthr_ISE (by decide) (by decide) (Nat.le_of_ble_eq_true rfl) dX8_unit_10 dX8_unit_13 dX8_unit_14 dX8_unit_16 dX8_unit_19 h3
set_option maxRecDepth 100000 in
theorem c_X8_emend {l : Launch} {D : va_G} {A : Nat → Prop} {cI cZ : ClassId} {ad ads : Nat → Nat} (hst : l.stackTraces = false) (hD : ∀ S, va_D A (wC cI cZ ad S)) {S : zSt} (hG : RG bsC S) {a1 : Int} (ra1 : inR a1) {a2 : Int} (ra2 : inR a2) {a3 : Int} (ra3 : inR a3) {r : zRx} (h : m_X8_emend S a1 a2 a3 = some r) : zMr l yX8_emend cX8_emend 4 (some .int) 7 137 D cI cZ ads A (wC cI cZ ad) (RG bsC) [.ref (ad 0), .int (zI a1), .int (zI a2), .int (zI a3)] S r := by
  refine k_startX (by decide +kernel) hst hD hG (Nat.le_of_ble_eq_true rfl) (fun Γ F X hQ => ?_)
  have F : zF Γ (wC cI cZ ad) cI cZ cX8_emend (zroom 7 137 r) 4 RX8 := F
  refine k_sub [0, 1, 2, 3] (lv' := [(0, .ref (ad 0)), (1, .int (zI a1)), (2, .int (zI a2)), (3, .int (zI a3))]) rfl ?_
  refine k_aload_n F dX8_emend_0 rfl 0 rfl ?_
  refine kgX8_text F dX8_emend_1 ?_
  refine k_iload_n F dX8_emend_4 rfl 1 rfl ?_
  refine k_iload_n F dX8_emend_5 rfl 2 rfl ?_
  refine k_callVi F cal_X7_hasPlace wm_209 (obC_3 cI cZ ad) (fun l D A hD hG x S' h => c_X7_hasPlace hD hG ra1 ra2 h) ⟨rfl, rfl, Nat.le_of_ble_eq_true rfl, Nat.le_of_ble_eq_true rfl⟩ rfl rfl (Nat.le_of_ble_eq_true rfl) dX8_emend_6 h (fun x1 S1 r1 b1 h1 => ?_)
  refine k_if_ne F r1 (tgt := 22) dX8_emend_9 (by decide) h1 (fun h2 => ?_) (fun h3 => ?_)
  · refine k_iload_n F dX8_emend_22 rfl 3 rfl ?_
    refine k_iconst F dX8_emend_23 ?_
    refine k_bipush F dX8_emend_24 bp_59 ?_
    refine k_callXS F X hQ cal_X8_needArgument wm_189 (fun l D A hst hD hG r' h => c_X8_needArgument hst hD hG ra3 iR_m1 iR_59 h) ⟨Nat.le_of_ble_eq_true rfl, Nat.le_of_ble_eq_true rfl⟩ rfl rfl (Nat.le_of_ble_eq_true rfl) dX8_emend_26 h2 (fun x2 S2 h4 => ?_)
    refine k_iload_n F dX8_emend_29 rfl 3 rfl ?_
    refine k_iconst F dX8_emend_30 ?_
    refine k_icmp_eq F ra3 iR_m1 (tgt := 57) dX8_emend_31 (by decide) h4 (fun h5 => ?_) (fun h6 => ?_)
    · refine k_aload_n F dX8_emend_57 rfl 0 rfl ?_
      refine kgX8_text F dX8_emend_58 ?_
      refine k_iload_n F dX8_emend_61 rfl 1 rfl ?_
      refine k_callVi F cal_X7_sizeOf wm_210 (obC_3 cI cZ ad) (fun l D A hD hG x S' h => c_X7_sizeOf hD hG ra1 h) ⟨rfl, rfl, Nat.le_of_ble_eq_true rfl, Nat.le_of_ble_eq_true rfl⟩ rfl rfl (Nat.le_of_ble_eq_true rfl) dX8_emend_62 h5 (fun x3 S3 r2 b2 h7 => ?_)
      refine k_iconst F dX8_emend_65 ?_
      refine k_icmp_gt F r2 iR_1 (tgt := 79) dX8_emend_66 (by decide) h7 (fun h8 => ?_) (fun h9 => ?_)
      · refine k_aload_n F dX8_emend_79 rfl 0 rfl ?_
        refine kgX8_text F dX8_emend_80 ?_
        refine k_iload_n F dX8_emend_83 rfl 1 rfl ?_
        refine k_iload_n F dX8_emend_84 rfl 2 rfl ?_
        refine k_callVv F cal_X7_takeOut wm_214 (obC_3 cI cZ ad) (fun l D A hD hG x S' h => c_X7_takeOut hD hG ra1 ra2 h) ⟨rfl, rfl, Nat.le_of_ble_eq_true rfl, Nat.le_of_ble_eq_true rfl⟩ rfl rfl (Nat.le_of_ble_eq_true rfl) dX8_emend_85 h8 (fun x4 S4 h10 => ?_)
        refine k_aload_n F dX8_emend_88 rfl 0 rfl ?_
        refine kgX8_comments F dX8_emend_89 ?_
        refine k_iload_n F dX8_emend_92 rfl 1 rfl ?_
        refine k_iload_n F dX8_emend_93 rfl 2 rfl ?_
        refine k_aload_n F dX8_emend_94 rfl 0 rfl ?_
        refine kgX8_text F dX8_emend_95 ?_
        refine k_iload_n F dX8_emend_98 rfl 1 rfl ?_
        refine k_callVi F cal_X7_sizeOf wm_210 (obC_3 cI cZ ad) (fun l D A hD hG x S' h => c_X7_sizeOf hD hG ra1 h) ⟨rfl, rfl, Nat.le_of_ble_eq_true rfl, Nat.le_of_ble_eq_true rfl⟩ rfl rfl (Nat.le_of_ble_eq_true rfl) dX8_emend_99 h10 (fun x5 S5 r4 b4 h11 => ?_)
        refine k_iconst F dX8_emend_102 ?_
        refine k_isub F dX8_emend_103 h11 (fun x6 r5 h12 => ?_)
        refine k_callVv F cal_X1_closeGap wm_218 (obC_11 cI cZ ad) (fun l D A hD hG x S' h => c_X1_closeGap hD hG ra1 ra2 r5 h) ⟨rfl, rfl, Nat.le_of_ble_eq_true rfl, Nat.le_of_ble_eq_true rfl⟩ rfl rfl (Nat.le_of_ble_eq_true rfl) dX8_emend_104 h12 (fun x7 S6 h13 => ?_)
        refine k_aload_n F dX8_emend_107 rfl 0 rfl ?_
        refine kgX8_comments F dX8_emend_108 ?_
        refine k_iload_n F dX8_emend_111 rfl 1 rfl ?_
        refine k_aload_n F dX8_emend_112 rfl 0 rfl ?_
        refine kgX8_text F dX8_emend_113 ?_
        refine k_callVi F cal_X1_hookAnew wm_222 (obC_11 cI cZ ad) (fun l D A hD hG x S' h => c_X1_hookAnew hD hG ra1 h) ⟨rfl, rfl, Nat.le_of_ble_eq_true rfl, Nat.le_of_ble_eq_true rfl⟩ rfl rfl (Nat.le_of_ble_eq_true rfl) dX8_emend_116 h13 (fun x8 S7 r7 b6 h14 => ?_)
        exact k_iretX F hQ r7 dX8_emend_119 h14
      · exact k_throwS F X hQ (text := "the only word of the unit") zthr_ISE (by decide) (by decide) (Nat.le_of_ble_eq_true rfl) dX8_emend_69 dX8_emend_72 dX8_emend_73 dX8_emend_75 dX8_emend_78 h9
    · refine k_aload_n F dX8_emend_34 rfl 0 rfl ?_
      refine kgX8_text F dX8_emend_35 ?_
      refine k_iload_n F dX8_emend_38 rfl 1 rfl ?_
      refine k_iload_n F dX8_emend_39 rfl 2 rfl ?_
      refine k_iload_n F dX8_emend_40 rfl 3 rfl ?_
      refine k_callVv F cal_X7_put wm_223 (obC_3 cI cZ ad) (fun l D A hD hG x S' h => c_X7_put hD hG ra1 ra2 ra3 h) ⟨rfl, rfl, Nat.le_of_ble_eq_true rfl, Nat.le_of_ble_eq_true rfl⟩ rfl rfl (Nat.le_of_ble_eq_true rfl) dX8_emend_41 h6 (fun x9 S8 h15 => ?_)
      refine k_aload_n F dX8_emend_44 rfl 0 rfl ?_
      refine kgX8_comments F dX8_emend_45 ?_
      refine k_iload_n F dX8_emend_48 rfl 1 rfl ?_
      refine k_aload_n F dX8_emend_49 rfl 0 rfl ?_
      refine kgX8_text F dX8_emend_50 ?_
      refine k_callVi F cal_X1_hookAnew wm_222 (obC_11 cI cZ ad) (fun l D A hD hG x S' h => c_X1_hookAnew hD hG ra1 h) ⟨rfl, rfl, Nat.le_of_ble_eq_true rfl, Nat.le_of_ble_eq_true rfl⟩ rfl rfl (Nat.le_of_ble_eq_true rfl) dX8_emend_53 h15 (fun x10 S9 r9 b8 h16 => ?_)
      exact k_iretX F hQ r9 dX8_emend_56 h16
  · exact k_throwS F X hQ (text := "no such unit or place") zthr_IOB (by decide) (by decide) (Nat.le_of_ble_eq_true rfl) dX8_emend_12 dX8_emend_15 dX8_emend_16 dX8_emend_18 dX8_emend_21 h3
set_option maxRecDepth 100000 in
theorem c_X8_textOf {l : Launch} {D : va_G} {A : Nat → Prop} {cI cZ : ClassId} {ad ads : Nat → Nat} (hst : l.stackTraces = false) (hD : ∀ S, va_D A (wC cI cZ ad S)) {S : zSt} (hG : RG bsC S) {a1 : Int} (ra1 : inR a1) {a2 : Int} (ra2 : inR a2) {r : zRx} (h : m_X8_textOf S a1 a2 = some r) : zMr l yX8_textOf cX8_textOf 3 (some .int) 7 111 D cI cZ ads A (wC cI cZ ad) (RG bsC) [.ref (ad 0), .int (zI a1), .int (zI a2)] S r := by
  refine k_startX (by decide +kernel) hst hD hG (Nat.le_of_ble_eq_true rfl) (fun Γ F X hQ => ?_)
  have F : zF Γ (wC cI cZ ad) cI cZ cX8_textOf (zroom 7 111 r) 3 RX8 := F
  refine k_sub [0, 1, 2] (lv' := [(0, .ref (ad 0)), (1, .int (zI a1)), (2, .int (zI a2))]) rfl ?_
  refine k_aload_n F dX8_textOf_0 rfl 0 rfl ?_
  refine k_iload_n F dX8_textOf_1 rfl 1 rfl ?_
  refine k_callXV F X hQ cal_X8_needUnit wm_227 (obC_0 cI cZ ad) (fun l D A hst hD hG r' h => c_X8_needUnit hst hD hG ra1 h) ⟨Nat.le_of_ble_eq_true rfl, Nat.le_of_ble_eq_true rfl⟩ rfl rfl (Nat.le_of_ble_eq_true rfl) dX8_textOf_2 h (fun x1 S1 h1 => ?_)
  refine k_iload_n F dX8_textOf_5 rfl 2 rfl ?_
  refine k_if_ge F ra2 (tgt := 19) dX8_textOf_6 (by decide) h1 (fun h2 => ?_) (fun h3 => ?_)
  · refine k_aload_n F dX8_textOf_19 rfl 0 rfl ?_
    refine kgX8_text F dX8_textOf_20 ?_
    refine k_iload_n F dX8_textOf_23 rfl 1 rfl ?_
    refine k_iload_n F dX8_textOf_24 rfl 2 rfl ?_
    refine k_callVi F cal_X7_wordAt wm_228 (obC_3 cI cZ ad) (fun l D A hD hG x S' h => c_X7_wordAt hD hG ra1 ra2 h) ⟨rfl, rfl, Nat.le_of_ble_eq_true rfl, Nat.le_of_ble_eq_true rfl⟩ rfl rfl (Nat.le_of_ble_eq_true rfl) dX8_textOf_25 h2 (fun x2 S2 r1 b1 h4 => ?_)
    exact k_iretX F hQ r1 dX8_textOf_28 h4
  · exact k_throwS F X hQ (text := "no such place") zthr_IOB (by decide) (by decide) (Nat.le_of_ble_eq_true rfl) dX8_textOf_9 dX8_textOf_12 dX8_textOf_13 dX8_textOf_15 dX8_textOf_18 h3
set_option maxRecDepth 100000 in
theorem c_X8_author {l : Launch} {D : va_G} {A : Nat → Prop} {cI cZ : ClassId} {ad ads : Nat → Nat} (hst : l.stackTraces = false) (hD : ∀ S, va_D A (wC cI cZ ad S)) {S : zSt} (hG : RG bsC S) {a1 : Int} (ra1 : inR a1) {a2 : Int} (ra2 : inR a2) {a3 : Int} (ra3 : inR a3) {r : zRx} (h : m_X8_author S a1 a2 a3 = some r) : zMr l yX8_author cX8_author 4 (some .int) 7 112 D cI cZ ads A (wC cI cZ ad) (RG bsC) [.ref (ad 0), .int (zI a1), .int (zI a2), .int (zI a3)] S r := by
  refine k_startX (by decide +kernel) hst hD hG (Nat.le_of_ble_eq_true rfl) (fun Γ F X hQ => ?_)
  have F : zF Γ (wC cI cZ ad) cI cZ cX8_author (zroom 7 112 r) 4 RX8 := F
  refine k_sub [0, 1, 2, 3] (lv' := [(0, .ref (ad 0)), (1, .int (zI a1)), (2, .int (zI a2)), (3, .int (zI a3))]) rfl ?_
  refine k_iload_n F dX8_author_0 rfl 1 rfl ?_
  refine k_iconst F dX8_author_1 ?_
  refine k_sipush F dX8_author_2 sp_2000 ?_
  refine k_callXS F X hQ cal_X8_needArgument wm_189 (fun l D A hst hD hG r' h => c_X8_needArgument hst hD hG ra1 iR_0 iR_2000 h) ⟨Nat.le_of_ble_eq_true rfl, Nat.le_of_ble_eq_true rfl⟩ rfl rfl (Nat.le_of_ble_eq_true rfl) dX8_author_5 h (fun x1 S1 h1 => ?_)
  refine k_iload_n F dX8_author_8 rfl 2 rfl ?_
  refine k_iconst F dX8_author_9 ?_
  refine k_iconst F dX8_author_10 ?_
  refine k_callXS F X hQ cal_X8_needArgument wm_189 (fun l D A hst hD hG r' h => c_X8_needArgument hst hD hG ra2 iR_0 iR_3 h) ⟨Nat.le_of_ble_eq_true rfl, Nat.le_of_ble_eq_true rfl⟩ rfl rfl (Nat.le_of_ble_eq_true rfl) dX8_author_11 h1 (fun x2 S2 h2 => ?_)
  refine k_iload_n F dX8_author_14 rfl 3 rfl ?_
  refine k_iconst F dX8_author_15 ?_
  refine k_bipush F dX8_author_16 bp_99 ?_
  refine k_callXS F X hQ cal_X8_needArgument wm_189 (fun l D A hst hD hG r' h => c_X8_needArgument hst hD hG ra3 iR_0 iR_99 h) ⟨Nat.le_of_ble_eq_true rfl, Nat.le_of_ble_eq_true rfl⟩ rfl rfl (Nat.le_of_ble_eq_true rfl) dX8_author_18 h2 (fun x3 S3 h3 => ?_)
  refine k_aload_n F dX8_author_21 rfl 0 rfl ?_
  refine kgX8_authors F dX8_author_22 ?_
  refine k_callVi F cal_X0_isFull wm_229 (obC_7 cI cZ ad) (fun l D A hD hG x S' h => c_X0_isFull hD hG h) ⟨rfl, rfl, Nat.le_of_ble_eq_true rfl, Nat.le_of_ble_eq_true rfl⟩ rfl rfl (Nat.le_of_ble_eq_true rfl) dX8_author_25 h3 (fun x4 S4 r1 b1 h4 => ?_)
  refine k_if_eq F r1 (tgt := 41) dX8_author_28 (by decide) h4 (fun h5 => ?_) (fun h6 => ?_)
  · refine k_aload_n F dX8_author_41 rfl 0 rfl ?_
    refine kgX8_authors F dX8_author_42 ?_
    refine k_iload_n F dX8_author_45 rfl 1 rfl ?_
    refine k_iload_n F dX8_author_46 rfl 2 rfl ?_
    refine k_iload_n F dX8_author_47 rfl 3 rfl ?_
    refine k_callVv F cal_X0_add wm_233 (obC_7 cI cZ ad) (fun l D A hD hG x S' h => c_X0_add hD hG ra1 ra2 ra3 h) ⟨rfl, rfl, Nat.le_of_ble_eq_true rfl, Nat.le_of_ble_eq_true rfl⟩ rfl rfl (Nat.le_of_ble_eq_true rfl) dX8_author_48 h5 (fun x5 S5 h7 => ?_)
    refine k_aload_n F dX8_author_51 rfl 0 rfl ?_
    refine kgX8_authors F dX8_author_52 ?_
    refine k_callVi F cal_X0_count wm_237 (obC_7 cI cZ ad) (fun l D A hD hG x S' h => c_X0_count hD hG h) ⟨rfl, rfl, Nat.le_of_ble_eq_true rfl, Nat.le_of_ble_eq_true rfl⟩ rfl rfl (Nat.le_of_ble_eq_true rfl) dX8_author_55 h7 (fun x6 S6 r3 b3 h8 => ?_)
    refine k_iconst F dX8_author_58 ?_
    refine k_isub F dX8_author_59 h8 (fun x7 r4 h9 => ?_)
    exact k_iretX F hQ r4 dX8_author_60 h9
  · exact k_throwS F X hQ (text := "no more authors") zthr_ISE (by decide) (by decide) (Nat.le_of_ble_eq_true rfl) dX8_author_31 dX8_author_34 dX8_author_35 dX8_author_37 dX8_author_40 h6
set_option maxRecDepth 100000 in
theorem c_X8_comment {l : Launch} {D : va_G} {A : Nat → Prop} {cI cZ : ClassId} {ad ads : Nat → Nat} (hst : l.stackTraces = false) (hD : ∀ S, va_D A (wC cI cZ ad S)) {S : zSt} (hG : RG bsC S) {a1 : Int} (ra1 : inR a1) {a2 : Int} (ra2 : inR a2) {a3 : Int} (ra3 : inR a3) {a4 : Int} (ra4 : inR a4) {a5 : Int} (ra5 : inR a5) {a6 : Int} (ra6 : inR a6) {a7 : Int} (ra7 : inR a7) {r : zRx} (h : m_X8_comment S a1 a2 a3 a4 a5 a6 a7 = some r) : zMr l yX8_comment cX8_comment 10 (some .int) 7 112 D cI cZ ads A (wC cI cZ ad) (RG bsC) [.ref (ad 0), .int (zI a1), .int (zI a2), .int (zI a3), .int (zI a4), .int (zI a5), .int (zI a6), .int (zI a7)] S r := by
  refine k_startX (by decide +kernel) hst hD hG (Nat.le_of_ble_eq_true rfl) (fun Γ F X hQ => ?_)
  have F : zF Γ (wC cI cZ ad) cI cZ cX8_comment (zroom 7 112 r) 10 RX8 := F
  refine k_sub [0, 1, 2, 3, 4, 5, 6, 7] (lv' := [(0, .ref (ad 0)), (1, .int (zI a1)), (2, .int (zI a2)), (3, .int (zI a3)), (4, .int (zI a4)), (5, .int (zI a5)), (6, .int (zI a6)), (7, .int (zI a7))]) rfl ?_
  refine k_aload_n F dX8_comment_0 rfl 0 rfl ?_
  refine k_iload_n F dX8_comment_1 rfl 1 rfl ?_
  refine k_callXV F X hQ cal_X8_needAuthor wm_241 (obC_0 cI cZ ad) (fun l D A hst hD hG r' h => c_X8_needAuthor hst hD hG ra1 h) ⟨Nat.le_of_ble_eq_true rfl, Nat.le_of_ble_eq_true rfl⟩ rfl rfl (Nat.le_of_ble_eq_true rfl) dX8_comment_2 h (fun x1 S1 h1 => ?_)
  refine k_aload_n F dX8_comment_5 rfl 0 rfl ?_
  refine k_iload_n F dX8_comment_6 rfl 2 rfl ?_
  refine k_callXV F X hQ cal_X8_needUnit wm_227 (obC_0 cI cZ ad) (fun l D A hst hD hG r' h => c_X8_needUnit hst hD hG ra2 h) ⟨Nat.le_of_ble_eq_true rfl, Nat.le_of_ble_eq_true rfl⟩ rfl rfl (Nat.le_of_ble_eq_true rfl) dX8_comment_7 h1 (fun x2 S2 h2 => ?_)
  refine k_iload_n F dX8_comment_10 rfl 3 rfl ?_
  refine k_iconst F dX8_comment_11 ?_
  refine k_iconst F dX8_comment_12 ?_
  refine k_callXS F X hQ cal_X8_needArgument wm_189 (fun l D A hst hD hG r' h => c_X8_needArgument hst hD hG ra3 iR_0 iR_4 h) ⟨Nat.le_of_ble_eq_true rfl, Nat.le_of_ble_eq_true rfl⟩ rfl rfl (Nat.le_of_ble_eq_true rfl) dX8_comment_13 h2 (fun x3 S3 h3 => ?_)
  refine k_iload F dX8_comment_16 4 rfl ?_
  refine k_iconst F dX8_comment_18 ?_
  refine k_bipush F dX8_comment_19 bp_59 ?_
  refine k_callXS F X hQ cal_X8_needArgument wm_189 (fun l D A hst hD hG r' h => c_X8_needArgument hst hD hG ra4 iR_0 iR_59 h) ⟨Nat.le_of_ble_eq_true rfl, Nat.le_of_ble_eq_true rfl⟩ rfl rfl (Nat.le_of_ble_eq_true rfl) dX8_comment_21 h3 (fun x4 S4 h4 => ?_)
  refine k_iload F dX8_comment_24 5 rfl ?_
  refine k_iconst F dX8_comment_26 ?_
  refine k_bipush F dX8_comment_27 bp_12 ?_
  refine k_callXS F X hQ cal_X8_needArgument wm_189 (fun l D A hst hD hG r' h => c_X8_needArgument hst hD hG ra5 iR_1 iR_12 h) ⟨Nat.le_of_ble_eq_true rfl, Nat.le_of_ble_eq_true rfl⟩ rfl rfl (Nat.le_of_ble_eq_true rfl) dX8_comment_29 h4 (fun x5 S5 h5 => ?_)
  refine k_iload F dX8_comment_32 6 rfl ?_
  refine k_iconst F dX8_comment_34 ?_
  refine k_bipush F dX8_comment_35 bp_9 ?_
  refine k_callXS F X hQ cal_X8_needArgument wm_189 (fun l D A hst hD hG r' h => c_X8_needArgument hst hD hG ra6 iR_1 iR_9 h) ⟨Nat.le_of_ble_eq_true rfl, Nat.le_of_ble_eq_true rfl⟩ rfl rfl (Nat.le_of_ble_eq_true rfl) dX8_comment_37 h5 (fun x6 S6 h6 => ?_)
  refine k_iload F dX8_comment_40 7 rfl ?_
  refine k_iconst F dX8_comment_42 ?_
  refine k_iconst F dX8_comment_43 ?_
  refine k_callXS F X hQ cal_X8_needArgument wm_189 (fun l D A hst hD hG r' h => c_X8_needArgument hst hD hG ra7 iR_0 iR_1 h) ⟨Nat.le_of_ble_eq_true rfl, Nat.le_of_ble_eq_true rfl⟩ rfl rfl (Nat.le_of_ble_eq_true rfl) dX8_comment_44 h6 (fun x7 S7 h7 => ?_)
  refine k_aload_n F dX8_comment_47 rfl 0 rfl ?_
  refine k_callXV F X hQ cal_X8_needRoomForComment wm_245 (obC_0 cI cZ ad) (fun l D A hst hD hG r' h => c_X8_needRoomForComment hst hD hG h) ⟨Nat.le_of_ble_eq_true rfl, Nat.le_of_ble_eq_true rfl⟩ rfl rfl (Nat.le_of_ble_eq_true rfl) dX8_comment_48 h7 (fun x8 S8 h8 => ?_)
  refine k_aload_n F dX8_comment_51 rfl 0 rfl ?_
  refine kgX8_text F dX8_comment_52 ?_
  refine k_iload_n F dX8_comment_55 rfl 2 rfl ?_
  refine k_iload F dX8_comment_56 4 rfl ?_
  refine k_iload F dX8_comment_58 5 rfl ?_
  refine k_callVi F cal_X7_placeOf wm_249 (obC_3 cI cZ ad) (fun l D A hD hG x S' h => c_X7_placeOf hD hG ra2 ra4 ra5 h) ⟨rfl, rfl, Nat.le_of_ble_eq_true rfl, Nat.le_of_ble_eq_true rfl⟩ rfl rfl (Nat.le_of_ble_eq_true rfl) dX8_comment_60 h8 (fun x9 S9 r1 b1 h9 => ?_)
  refine k_istore F dX8_comment_63 (by decide) rfl ?_
  refine k_iload F dX8_comment_65 0 rfl ?_
  refine k_iconst F dX8_comment_67 ?_
  refine k_icmp_ne F r1 iR_m1 (tgt := 81) dX8_comment_68 (by decide) h9 (fun h10 => ?_) (fun h11 => ?_)
  · refine k_aload_n F dX8_comment_81 rfl 1 rfl ?_
    refine kgX8_comments F dX8_comment_82 ?_
    refine k_iload_n F dX8_comment_85 rfl 2 rfl ?_
    refine k_iload_n F dX8_comment_86 rfl 4 rfl ?_
    refine k_iload F dX8_comment_87 7 rfl ?_
    refine k_iload F dX8_comment_89 8 rfl ?_
    refine k_callVi F cal_X1_add wm_253 (obC_11 cI cZ ad) (fun l D A hD hG x S' h => c_X1_add hD hG ra1 ra3 ra6 ra7 h) ⟨rfl, rfl, Nat.le_of_ble_eq_true rfl, Nat.le_of_ble_eq_true rfl⟩ rfl rfl (Nat.le_of_ble_eq_true rfl) dX8_comment_91 h10 (fun x10 S10 r2 b2 h12 => ?_)
    refine k_istore F dX8_comment_94 (by decide) rfl ?_
    refine k_aload_n F dX8_comment_96 rfl 2 rfl ?_
    refine kgX8_comments F dX8_comment_97 ?_
    refine k_iload F dX8_comment_100 0 rfl ?_
    refine k_iload_n F dX8_comment_102 rfl 4 rfl ?_
    refine k_iload F dX8_comment_103 1 rfl ?_
    refine k_iload F dX8_comment_105 6 rfl ?_
    refine k_callVv F cal_X1_hookTo wm_257 (obC_11 cI cZ ad) (fun l D A hD hG x S' h => c_X1_hookTo hD hG r2 ra2 r1 ra4 h) ⟨rfl, rfl, Nat.le_of_ble_eq_true rfl, Nat.le_of_ble_eq_true rfl⟩ rfl rfl (Nat.le_of_ble_eq_true rfl) dX8_comment_107 h12 (fun x11 S11 h13 => ?_)
    refine k_iload F dX8_comment_110 0 rfl ?_
    exact k_iretX F hQ r2 dX8_comment_112 h13
  · exact k_throwS F X hQ (text := "the unit has no such word") zthr_ISE (by decide) (by decide) (Nat.le_of_ble_eq_true rfl) dX8_comment_71 dX8_comment_74 dX8_comment_75 dX8_comment_77 dX8_comment_80 h11
set_option maxRecDepth 100000 in
theorem c_X8_told {l : Launch} {D : va_G} {A : Nat → Prop} {cI cZ : ClassId} {ad ads : Nat → Nat} (hst : l.stackTraces = false) (hD : ∀ S, va_D A (wC cI cZ ad S)) {S : zSt} (hG : RG bsC S) {a1 : Int} (ra1 : inR a1) {a2 : Int} (ra2 : inR a2) {r : zRx} (h : m_X8_told S a1 a2 = some r) : zMr l yX8_told cX8_told 3 (some .int) 7 112 D cI cZ ads A (wC cI cZ ad) (RG bsC) [.ref (ad 0), .int (zI a1), .int (zI a2)] S r := by
  refine k_startX (by decide +kernel) hst hD hG (Nat.le_of_ble_eq_true rfl) (fun Γ F X hQ => ?_)
  have F : zF Γ (wC cI cZ ad) cI cZ cX8_told (zroom 7 112 r) 3 RX8 := F
  refine k_sub [0, 1, 2] (lv' := [(0, .ref (ad 0)), (1, .int (zI a1)), (2, .int (zI a2))]) rfl ?_
  refine k_aload_n F dX8_told_0 rfl 0 rfl ?_
  refine k_iload_n F dX8_told_1 rfl 1 rfl ?_
  refine k_callXV F X hQ cal_X8_needComment wm_261 (obC_0 cI cZ ad) (fun l D A hst hD hG r' h => c_X8_needComment hst hD hG ra1 h) ⟨Nat.le_of_ble_eq_true rfl, Nat.le_of_ble_eq_true rfl⟩ rfl rfl (Nat.le_of_ble_eq_true rfl) dX8_told_2 h (fun x1 S1 h1 => ?_)
  refine k_iload_n F dX8_told_5 rfl 2 rfl ?_
  refine k_iconst F dX8_told_6 ?_
  refine k_bipush F dX8_told_7 bp_6 ?_
  refine k_callXS F X hQ cal_X8_needArgument wm_189 (fun l D A hst hD hG r' h => c_X8_needArgument hst hD hG ra2 iR_0 iR_6 h) ⟨Nat.le_of_ble_eq_true rfl, Nat.le_of_ble_eq_true rfl⟩ rfl rfl (Nat.le_of_ble_eq_true rfl) dX8_told_9 h1 (fun x2 S2 h2 => ?_)
  refine k_iload_n F dX8_told_12 rfl 2 rfl ?_
  refine k_tsw6 F ra2 dX8_told_13 (t0 := 52) (t1 := 61) (t2 := 70) (t3 := 79) (t4 := 96) (t5 := 113) (td := 122) rfl rfl rfl rfl rfl rfl (by decide) (by decide) (by decide) (by decide) (by decide) (by decide) (by decide) h2 (fun h3 => ?_) (fun h4 => ?_) (fun h5 => ?_) (fun h6 => ?_) (fun h7 => ?_) (fun h8 => ?_) (fun h9 => ?_)
  · refine k_aload_n F dX8_told_52 rfl 0 rfl ?_
    refine kgX8_comments F dX8_told_53 ?_
    refine k_iload_n F dX8_told_56 rfl 1 rfl ?_
    refine k_callVi F cal_X1_authorOf wm_265 (obC_11 cI cZ ad) (fun l D A hD hG x S' h => c_X1_authorOf hD hG ra1 h) ⟨rfl, rfl, Nat.le_of_ble_eq_true rfl, Nat.le_of_ble_eq_true rfl⟩ rfl rfl (Nat.le_of_ble_eq_true rfl) dX8_told_57 h3 (fun x3 S3 r1 b1 h10 => ?_)
    exact k_iretX F hQ r1 dX8_told_60 h10
  · refine k_aload_n F dX8_told_61 rfl 0 rfl ?_
    refine kgX8_comments F dX8_told_62 ?_
    refine k_iload_n F dX8_told_65 rfl 1 rfl ?_
    refine k_callVi F cal_X1_unitOf wm_269 (obC_11 cI cZ ad) (fun l D A hD hG x S' h => c_X1_unitOf hD hG ra1 h) ⟨rfl, rfl, Nat.le_of_ble_eq_true rfl, Nat.le_of_ble_eq_true rfl⟩ rfl rfl (Nat.le_of_ble_eq_true rfl) dX8_told_66 h4 (fun x4 S4 r2 b2 h11 => ?_)
    exact k_iretX F hQ r2 dX8_told_69 h11
  · refine k_aload_n F dX8_told_70 rfl 0 rfl ?_
    refine kgX8_comments F dX8_told_71 ?_
    refine k_iload_n F dX8_told_74 rfl 1 rfl ?_
    refine k_callVi F cal_X1_placeOf wm_273 (obC_11 cI cZ ad) (fun l D A hD hG x S' h => c_X1_placeOf hD hG ra1 h) ⟨rfl, rfl, Nat.le_of_ble_eq_true rfl, Nat.le_of_ble_eq_true rfl⟩ rfl rfl (Nat.le_of_ble_eq_true rfl) dX8_told_75 h5 (fun x5 S5 r3 b3 h12 => ?_)
    exact k_iretX F hQ r3 dX8_told_78 h12
  · refine k_aload_n F dX8_told_79 rfl 0 rfl ?_
    refine kgX8_comments F dX8_told_80 ?_
    refine k_iload_n F dX8_told_83 rfl 1 rfl ?_
    refine k_callVi F cal_X1_isLost wm_277 (obC_11 cI cZ ad) (fun l D A hD hG x S' h => c_X1_isLost hD hG ra1 h) ⟨rfl, rfl, Nat.le_of_ble_eq_true rfl, Nat.le_of_ble_eq_true rfl⟩ rfl rfl (Nat.le_of_ble_eq_true rfl) dX8_told_84 h6 (fun x6 S6 r4 b4 h13 => ?_)
    refine k_if_eq F r4 (tgt := 94) dX8_told_87 (by decide) h13 (fun h14 => ?_) (fun h15 => ?_)
    · refine k_iconst F dX8_told_94 ?_
      exact k_iretX F hQ iR_0 dX8_told_95 h14
    · refine k_iconst F dX8_told_90 ?_
      refine k_goto F (tgt := 95) dX8_told_91 (by decide) ?_
      exact k_iretX F hQ iR_1 dX8_told_95 h15
  · refine k_aload_n F dX8_told_96 rfl 0 rfl ?_
    refine kgX8_comments F dX8_told_97 ?_
    refine k_iload_n F dX8_told_100 rfl 1 rfl ?_
    refine k_callVi F cal_X1_stands wm_281 (obC_11 cI cZ ad) (fun l D A hD hG x S' h => c_X1_stands hD hG ra1 h) ⟨rfl, rfl, Nat.le_of_ble_eq_true rfl, Nat.le_of_ble_eq_true rfl⟩ rfl rfl (Nat.le_of_ble_eq_true rfl) dX8_told_101 h7 (fun x7 S7 r5 b5 h16 => ?_)
    refine k_if_eq F r5 (tgt := 111) dX8_told_104 (by decide) h16 (fun h17 => ?_) (fun h18 => ?_)
    · refine k_iconst F dX8_told_111 ?_
      exact k_iretX F hQ iR_0 dX8_told_112 h17
    · refine k_iconst F dX8_told_107 ?_
      refine k_goto F (tgt := 112) dX8_told_108 (by decide) ?_
      exact k_iretX F hQ iR_1 dX8_told_112 h18
  · refine k_aload_n F dX8_told_113 rfl 0 rfl ?_
    refine kgX8_comments F dX8_told_114 ?_
    refine k_iload_n F dX8_told_117 rfl 1 rfl ?_
    refine k_callVi F cal_X1_parentOf wm_285 (obC_11 cI cZ ad) (fun l D A hD hG x S' h => c_X1_parentOf hD hG ra1 h) ⟨rfl, rfl, Nat.le_of_ble_eq_true rfl, Nat.le_of_ble_eq_true rfl⟩ rfl rfl (Nat.le_of_ble_eq_true rfl) dX8_told_118 h8 (fun x8 S8 r6 b6 h19 => ?_)
    exact k_iretX F hQ r6 dX8_told_121 h19
  · refine k_aload_n F dX8_told_122 rfl 0 rfl ?_
    refine kgX8_comments F dX8_told_123 ?_
    refine k_iload_n F dX8_told_126 rfl 1 rfl ?_
    refine k_callVi F cal_X1_kindOf wm_289 (obC_11 cI cZ ad) (fun l D A hD hG x S' h => c_X1_kindOf hD hG ra1 h) ⟨rfl, rfl, Nat.le_of_ble_eq_true rfl, Nat.le_of_ble_eq_true rfl⟩ rfl rfl (Nat.le_of_ble_eq_true rfl) dX8_told_127 h9 (fun x9 S9 r7 b7 h20 => ?_)
    exact k_iretX F hQ r7 dX8_told_130 h20
end
section
/-! THE LAW'S OWN METHODS: cuts of a world, calls that may throw and are caught, cell, up -/
def ZC (ad : Nat → Nat) (n : Nat) : Nat → Prop := fun q => ∃ k, k < n ∧ q = ad k
theorem zix {w1 : va_W} {ad : Nat → Nat} {n : Nat} (hm : w1.map Prod.fst = (List.range n).map ad) {k : Nat} {q : Nat × va_E} (h : w1[k]? = some q) : q.1 = ad k ∧ k < n := by
  have e1 : (w1.map Prod.fst)[k]? = some q.1 := by rw [List.getElem?_map, h]; rfl
  rw [hm, List.getElem?_map] at e1
  by_cases hk : k < n
  · rw [List.getElem?_range hk] at e1
    exact ⟨(Option.some.inj e1).symm, hk⟩
  · rw [List.getElem?_eq_none (by simp; omega)] at e1
    cases e1
theorem zxi {w1 : va_W} {ad : Nat → Nat} {n : Nat} (hm : w1.map Prod.fst = (List.range n).map ad) {k : Nat} (h : k < n) : ∃ q, w1[k]? = some q ∧ q.1 = ad k := by
  have e1 : (w1.map Prod.fst)[k]? = some (ad k) := by rw [hm, List.getElem?_map, List.getElem?_range h]; rfl
  rw [List.getElem?_map] at e1
  cases hq : w1[k]? with
  | none => rw [hq] at e1; cases e1
  | some q => rw [hq] at e1; exact ⟨q, rfl, Option.some.inj e1⟩
theorem zpre_D {A : Nat → Prop} {w1 ex : va_W} {ad : Nat → Nat} {n : Nat} (hm : w1.map Prod.fst = (List.range n).map ad) (hD : va_D A (w1 ++ ex)) : va_D (ZC ad n) w1 ∧ (∀ q, ZC ad n q → A q) ∧ ∀ (k : Nat) (x : Nat × va_E), ex[k]? = some x → ¬ ZC ad n x.1 := by
  have up : ∀ {k : Nat} {q : Nat × va_E}, w1[k]? = some q → (w1 ++ ex)[k]? = some q := fun {k q} h => by
    rw [List.getElem?_append_left (List.getElem?_eq_some_iff.mp h).1]; exact h
  refine ⟨⟨fun i j p q hp hq e => hD.1 i j p q (up hp) (up hq) e, fun k q hq => ?_⟩, fun q hq => ?_, fun k x hx hz => ?_⟩
  · obtain ⟨e1, e2⟩ := zix hm hq
    exact ⟨k, e2, e1⟩
  · obtain ⟨k, hk, rfl⟩ := hq
    obtain ⟨q, h1, h2⟩ := zxi hm hk
    rw [← h2]
    exact hD.2 k q (up h1)
  · obtain ⟨k2, hk, he⟩ := hz
    obtain ⟨q, h1, h2⟩ := zxi hm hk
    have h3 : (w1 ++ ex)[w1.length + k]? = some x := by rw [List.getElem?_append_right (Nat.le_add_right _ _), Nat.add_sub_cancel_left]; exact hx
    have h4 := hD.1 k2 (w1.length + k) q x (up h1) h3 (h2.trans he.symm)
    have := (List.getElem?_eq_some_iff.mp h1).1
    omega
theorem zpre_P {D : va_G} {w1 w2 ex : va_W} {ad : Nat → Nat} {n : Nat} {H H1 : Heap} (hP : va_P D vwCl (w1 ++ ex) H) (hx : ∀ (k : Nat) (x : Nat × va_E), ex[k]? = some x → ¬ ZC ad n x.1) (hk : ∀ q : Nat, q < H.size → ¬ ZC ad n q → H1[q]? = H[q]?) (hP1 : va_P D vwCl w2 H1) : va_P D vwCl (w2 ++ ex) H1 :=
  va_P.app hP1 (fun k x h => by
    have h3 : (w1 ++ ex)[w1.length + k]? = some x := by rw [List.getElem?_append_right (Nat.le_add_right _ _), Nat.add_sub_cancel_left]; exact h
    have h4 := hP _ _ h3
    exact h4.kept (hk _ h4.lt (hx k x h)))
theorem zpre_Q {D : va_G} {w1 ex : va_W} {H : Heap} (hP : va_P D vwCl (w1 ++ ex) H) : va_P D vwCl w1 H := fun k q h => hP k q (by rw [List.getElem?_append_left (List.getElem?_eq_some_iff.mp h).1]; exact h)
set_option maxRecDepth 100000 in
theorem wC_ix (cI cZ : ClassId) (ad : Nat → Nat) (S : zSt) : (wC cI cZ ad S).map Prod.fst = (List.range 38).map ad := rfl
theorem zT.narrow {ads : Nat → Nat} {A B : Nat → Prop} {U : State} (h : zT ads A U) (hAB : ∀ q, B q → A q) : zT ads B U := ⟨h.1.narrow hAB, h.2.1.narrow hAB, h.2.2⟩
def zNCP : List (String × String) := [("java/lang/IllegalStateException", "java/lang/IndexOutOfBoundsException")]
def zKJ (D : va_G) (cI cZ : ClassId) (U : State) : Prop := zK D cI cZ U ∧ ∀ q ∈ zNCP, va_Nc q.1 q.2 U
theorem zKJ.same {D : va_G} {cI cZ : ClassId} {u U : State} (h : u.vm = U.vm) (k : zKJ D cI cZ u) : zKJ D cI cZ U := ⟨zK.same (u := u) (U := U) h k.1, fun q hq => (k.2 q hq).moved (by rw [h]; exact Vm.Alike.refl U.vm)⟩
theorem zKJ.warm {D : va_G} {cI cZ : ClassId} {s U : State} (hW : s.WarmedH U.vm) (k : zKJ D cI cZ s) : zKJ D cI cZ U := ⟨zK.warm hW k.1, fun q hq => (k.2 q hq).moved hW.alike⟩
theorem zKJ.zK {D : va_G} {cI cZ : ClassId} {U : State} (k : zKJ D cI cZ U) : zK D cI cZ U := k.1
def zmc (r : zRx) : Nat := match r with | .inl _ => 0 | .inr _ => 1
def zms (r : zRx) : Nat := match r with | .inl _ => 0 | .inr _ => 6
def zrs (r : zRx) : zSt := match r with | .inl q => q.2 | .inr q => q.2
def zcd (r : zRx) : Int := match r with | .inl q => q.1 | .inr q => if q.1 = "java/lang/IllegalStateException" then -1003 else -1001
theorem zcd_I (S : zSt) : zcd (.inr ("java/lang/IllegalStateException", S)) = -1003 := by
  show (if "java/lang/IllegalStateException" = "java/lang/IllegalStateException" then (-1003 : Int) else -1001) = -1003
  exact if_pos rfl
theorem zcd_O (S : zSt) : zcd (.inr ("java/lang/IndexOutOfBoundsException", S)) = -1001 := by
  show (if "java/lang/IndexOutOfBoundsException" = "java/lang/IllegalStateException" then (-1003 : Int) else -1001) = -1001
  exact if_neg (by decide)
def zMw (l : Launch) (y : MethodName) (cy : ByteArray) (mL : Nat) (hh : List (Nat × Nat × Nat × Nat)) (fr lo : Nat) (D : va_G) (cI cZ : ClassId) (ads : Nat → Nat) (A : Nat → Prop) (w : zSt → va_W) (av : List Value) (S : zSt) (r : zRx) (code : Int) (S' : zSt) (PG : Prop) : Prop :=
  Met l y (.codeWith y cy mL (some .int) hh :: WS) (zroom fr lo r) (va_Pc av (fun U => va_P D vwCl (w S) U.heap ∧ zKJ D cI cZ U ∧ zT ads A U)) (va_Qi (S := Unit) (fun x _ => x = zI code ∧ PG) (fun _ t => va_P D vwCl (w S') t.heap) A) (zmc r) (zms r) A
def zup (Γ : zG) (k n : Nat) : zG := match Γ with
  | (p, l, e, R, s, m, args, below, meth, c, Q, D, A, _, _, nL) => (p, l, e, R, s, m, args, below, meth, c, Q, D, A, k, n, nL)
theorem zF.up {Γ : zG} {w : zSt → va_W} {cI cZ : ClassId} {cc : ByteArray} {rm : Room} {nL' : Nat} {own : String} (F : zF Γ w cI cZ cc rm nL' own) {k n : Nat} (hk : k ≤ rm.cells) (hn : n ≤ rm.slots) : zF (zup Γ k n) w cI cZ cc rm nL' own := by
  obtain ⟨p, l, e, R, s, m, args, below, meth, c, Q, D, A, k0, n0, nL⟩ := Γ
  exact ⟨F.1, F.2.1, F.2.2.1, F.2.2.2.1, F.2.2.2.2.1, F.2.2.2.2.2.1, F.2.2.2.2.2.2.1, F.2.2.2.2.2.2.2.1, hk, hn, F.2.2.2.2.2.2.2.2.2.2⟩
def zKN (Γ : zG) (k n : Nat) : Prop := match Γ with
  | (_, _, _, _, _, _, _, _, _, _, _, _, _, k0, n0, _) => k0 = k ∧ n0 = n
theorem zKN_up (Γ : zG) (k n : Nat) : zKN (zup Γ k n) k n := by
  obtain ⟨p, l, e, R, s, m, args, below, meth, c, Q, D, A, k0, n0, nL⟩ := Γ
  exact ⟨rfl, rfl⟩
def zWX (Γ : zG) (ads : Nat → Nat) (cI cZ : ClassId) (hh : List (Nat × Nat × Nat × Nat)) : Prop := match Γ with
  | (_, l, _, _, s, _, _, _, _, c, _, D, A, _, _, _) => l.stackTraces = false ∧ zT ads A s ∧ zKJ D cI cZ s ∧ c.exceptionTable.toList = tableOf hh
def zQw (Γ : zG) (w : zSt → va_W) (code : Int) (S' : zSt) (mc ms : Nat) (PG : Prop) : Prop := match Γ with
  | (_, _, _, _, s, _, args, below, meth, _, Q, D, A, _, _, _) => Q = MQ below (va_Qi (S := Unit) (fun x _ => x = zI code ∧ PG) (fun _ t => va_P D vwCl (w S') t.heap) A) args s mc ms A ∧ meth.sig.returnType = some .int ∧ meth.locks = false
theorem zQw_up {Γ : zG} {w : zSt → va_W} {code : Int} {S' : zSt} {mc ms : Nat} {PG : Prop} (h : zQw Γ w code S' mc ms PG) (k n : Nat) : zQw (zup Γ k n) w code S' mc ms PG := by
  obtain ⟨p, l, e, R, s, m, args, below, meth, c, Q, D, A, k0, n0, nL⟩ := Γ
  exact h
theorem Met.ofWH {l : Launch} {y : MethodName} {ws ws' : List Cond} {rm : Room} {Pc : Array Value → State → Prop} {Qc : Array Value → State → Outcome → State → Prop} {mc ms : Nat} {free : Addr → Prop} {cc : ByteArray} {maxL : Nat} {ret : Option FieldType} {hh : List (Nat × Nat × Nat × Nat)}
    (hy : plainName y.cls = true) (hw : ws = Cond.codeWith y cc maxL ret hh :: ws')
    (body : ∀ p e s m args below meth c s₁, BodyLoose p l y (headSpec ws rm) cc maxL ret e s m args below meth c s₁ → c.maxLocals = maxL → Pc args s →
      W p l e (headSpec ws rm).room s m args below meth c s.heap [] 0 0 (MQ below Qc args s mc ms free) (entryFrame m args maxL)) : Met l y ws rm Pc Qc mc ms free := by
  refine MetFree.of_bodyS (code := cc) (maxLocals := maxL) (ret := ret) hy ?_ ?_
  · intro args s m h hn
    obtain ⟨m9, meth, c, hn9, h1, h2, h3, h4, -, h5, h6, -⟩ := Cond.codeWith_spec (atoms_spec (ws := ws) h _ (by rw [hw]; exact List.mem_cons_self))
    cases hn.symm.trans hn9
    exact ⟨meth, c, h1, h2, h3, h4, h5, h6⟩
  · intro p e s m args below meth c s₁ B hml hP _
    have hh0 : s₁.heap = s.heap := by rw [B.state]; rfl
    obtain ⟨t, a1, o, b1, b2, b3⟩ := body p e s m args below meth c s₁ B hml hP s₁ hh0 (Stand.of_body B)
    exact ⟨t, o, a1, b1, b2, ⟨b3.1, b3.2⟩⟩
theorem k_startW {l : Launch} {y : MethodName} {cc : ByteArray} {maxL : Nat} {hh : List (Nat × Nat × Nat × Nat)} {fr lo : Nat} {D : va_G} {cI cZ : ClassId} {ads : Nat → Nat} {A : Nat → Prop} {w : zSt → va_W} {G : zSt → Prop} {av : List Value} {S : zSt} {r : zRx} {code : Int} {S' : zSt} {PG : Prop} (hy : plainName y.cls = true) (hst : l.stackTraces = false) (hD : ∀ S, va_D A (w S)) (hG : G S) (hlen : (lg_sl av).length ≤ maxL)
    (body : ∀ Γ : zG, zF Γ w cI cZ cc (zroom fr lo r) maxL y.cls → zWX Γ ads cI cZ hh → zKN Γ 0 0 → zQw Γ w code S' (zmc r) (zms r) PG → zk Γ w G S (lv_args 0 av) 0 []) : zMw l y cc maxL hh fr lo D cI cZ ads A w av S r code S' PG := by
  refine Met.ofWH (cc := cc) (maxL := maxL) (ret := some .int) (hh := hh) hy rfl ?_
  intro p e s m args below meth c s₁ B hml hv
  obtain ⟨rfl, hP, hK, hT⟩ := hv
  have hts := atoms_spec (ws := .codeWith y cc maxL (some .int) hh :: WS) B.pre
  have hown : s.vm.findClass y.cls = some m.cls := findClass_of_methodNamed B.named
  have hl := lv_entry av (n := maxL) hlen
  rw [lg_entry_eq]
  exact body (p, l, e, _, s, m, _, below, meth, c, _, D, A, 0, 0, maxL) ⟨B.exec, B.bytes, hml, hown, fun w hw => hts w (List.mem_cons_of_mem _ hw), hK.zK, hD, rfl, Nat.zero_le _, Nat.zero_le _, rfl⟩ ⟨hst, hT, hK, vx_table (x := y) B (hts _ List.mem_cons_self)⟩ ⟨rfl, rfl⟩ ⟨rfl, B.returns, B.notSynchronized⟩ hG s.heap [] _ hP va_S.rf hl
section RowsW
variable {Γ : zG} {w : zSt → va_W} {cI cZ : ClassId} {ad : Nat → Nat} {cc : ByteArray} {fr lo nL' : Nat} {own : String} {G : zSt → Prop} {S : zSt} {lv : List (Nat × Value)} {pc : Nat} {st : List Value} {ads : Nat → Nat} {r : zRx} {hh : List (Nat × Nat × Nat × Nat)} {rm : Room}
theorem k_iretW (F : zF Γ w cI cZ cc rm nL' own) {code v : Int} {S' : zSt} {mc ms : Nat} {PG : Prop} (hQ : zQw Γ w code S' mc ms PG) (hPG : G S → PG) (hkn : zKN Γ mc ms) (hv : v = code) (hS9 : S = S') (hd : decode cc pc = .ok (.ireturn, 1)) : zk Γ w G S lv pc [.int (zI v)] := by
  obtain ⟨p, l, e, R, s, m, args, below, meth, c, Q, D, A, k0, n0, nL⟩ := Γ
  obtain ⟨hx, hb, hml, hown, hts, ⟨hK, hN⟩, hD, rfl, hk0, hn0, rfl⟩ := F
  obtain ⟨rfl, hr, hlk⟩ := hQ
  obtain ⟨rfl, rfl⟩ := hkn
  subst hv
  subst hS9
  intro hG H locs ls hP hS hh
  exact W.iret hx hb hr (fun t ht hW => ⟨⟨_, (), rfl, ⟨rfl, hPG hG⟩, by show va_P D vwCl (w S) t.heap; rw [ht]; exact hP⟩, hS.F ht⟩) hS.2.2 hd hlk
theorem k_callW (F : zF Γ w cI cZ cc (zroom fr lo r) nL' own) (X : zWX Γ ads cI cZ hh) (hkn : zKN Γ 0 0) {a : Nat} {y : MethodName} {cy : ByteArray} {mL n idx fr2 lo2 : Nat} {As : List Value} (hc : zCal RX8 y cy mL (some .int) n) (ho : zOb w a RX8) (hl : Cond.methodLink own idx y ∈ WS)
    (hM : ∀ (l : Launch) (D : va_G) (A : Nat → Prop), l.stackTraces = false → (∀ S, va_D A (w S)) → G S → zMr l y cy mL (some .int) fr2 lo2 D cI cZ ads A w G (.ref a :: As) S r)
    (hR : fr2 + 1 ≤ fr ∧ 8 + (mL + 11) + lo2 ≤ lo) (hn : As.length = n) {st0 : List Value} (hst0 : st0 = As.reverse ++ .ref a :: st) (hW : (st.map fun v => v.category).sum ≤ 8) (hd : decode cc pc = .ok (.invokevirtual idx, 3))
    (kk : ∀ x C', r = .inl (x, C') → inR x → zk Γ w G C' lv (pc + 3) (.int (zI x) :: st))
    (kx : ∀ E C', r = .inr (E, C') → ∃ pre x suf, tableOf hh = pre ++ x :: suf ∧ (∀ z ∈ pre, z.catchType ≠ 0 ∧ ∃ nm : String, Cond.classLink own z.catchType nm ∈ WS ∧ (E, nm) ∈ zNCP) ∧ covers x pc = true ∧ x.catchType ≠ 0 ∧ Cond.classLink own x.catchType E ∈ WS ∧ E ∈ zCAS ∧ ∀ q9 : Nat, zk (zup Γ 1 6) w G C' lv x.handlerPc [.ref q9]) : zk Γ w G S lv pc st0 := by
  obtain ⟨p, l, e, R, s, m, args, below, meth, c, Q, D, A, k0, n0, nL⟩ := Γ
  obtain ⟨hx, hb, hml, hown, hts, ⟨hK, hN⟩, hD, rfl, hk0, hn0, rfl⟩ := F
  obtain ⟨hst, hT, hKJ, htab⟩ := X
  obtain ⟨rfl, rfl⟩ := hkn
  obtain ⟨c1, c2, c3, c4, c5, c6, c7⟩ := hc
  have hg : GoodIn WS (wsV own idx RX8 y (Cond.code y cy mL (some .int) :: WS)) := WS_sub (fun _ h => h) (fun w hw => by
    simp only [wsV, List.mem_append, List.mem_cons, List.not_mem_nil, or_false] at hw
    rcases hw with (rfl | rfl | rfl | rfl) | rfl | hw
    · exact hl
    · exact c1
    · exact c2
    · exact c3
    · exact c4
    · exact hw)
  intro hG H locs ls hP hS hh2
  have hpc : ∀ U : State, U.heap = H → s.WarmedH U.vm → zPc D cI cZ ads A w (.ref a :: As) S (Value.ref a :: As).toArray U := fun U hU hW => ⟨rfl, by rw [hU]; exact hP, zK.warm hW ⟨hK, hN⟩, zT.go hW (by rw [hU]; exact hS.2.1) hT⟩
  have hM1 := hM l D A hst hD hG
  subst hst0
  cases r with
  | inl q =>
    refine va_calli (va_runV (As := As) (rest := st) ⟨hx, hb, hml, hown, hts⟩ hM1 (cwV n hts hg rfl rfl rfl ⟨c5, c6.1, c6.2, c7⟩ ⟨hR.1, hR.2⟩) ⟨zPc.blind, ho.recv (S := S) hK hP, hpc⟩ rfl hn hh2.1 rfl (lv_room hW) hd ⟨Nat.zero_le _, Nat.zero_le _⟩) hS (fun q _ h => h) (fun q h => h) (fun r0 u t H1 locs1 ht hvm hw hB hz1 hk1 hS1 => ?_)
    obtain ⟨rfl, hx1, hG1, h01⟩ := hw
    rw [ht] at hB
    exact kk q.1 q.2 rfl hx1 hG1 H1 locs1 ls hB hS1 hh2
  | inr q =>
    refine vx_callv (vx_runV (As := As) (rest := st) ⟨hx, hb, hml, hown, hts⟩ hM1 (cwV n hts hg rfl rfl rfl ⟨c5, c6.1, c6.2, c7⟩ ⟨hR.1, hR.2⟩) ⟨zPc.blind, ho.recv (S := S) hK hP, hpc⟩ rfl hn hh2.1 rfl (lv_room hW) hd ⟨Nat.le_refl 1, Nat.le_refl 6⟩) hS (fun q _ h => h) (fun q h => h) (fun q _ h => h) (fun E ce q9 u t H1 locs1 ht hvm hw hB hz1 hk1 hS1 hce hcv hcl => ?_) (fun u t H1 locs1 ht hvm hw hB hz1 hk1 hS1 => hw.elim)
    rw [ht] at hB
    obtain ⟨rfl, hB⟩ := hB
    obtain ⟨pre, x, suf, e1, e2, e3, e4, e5, e6, e7⟩ := kx q.1 q.2 rfl
    exact vx_catch hown pre x suf (htab.trans e1) (fun z hz => Or.inr ⟨(e2 z hz).1, (e2 z hz).2.choose, hts _ (e2 z hz).2.choose_spec.1, hKJ.2 _ (e2 z hz).2.choose_spec.2⟩) e3 e4 (hts _ e5) (va_Nw.use rfl (hT.2.2.2.1 _ e6)) hce hcv hcl (e7 q9 hw H1 locs1 ls hB hS1 hh2)
theorem k_pop (F : zF Γ w cI cZ cc rm nL' own) {v : Value} (hv : v.category = 1) (hd : decode cc pc = .ok (.pop, 1)) (kk : zk Γ w G S lv (pc + 1) st) : zk Γ w G S lv pc (v :: st) := by
  obtain ⟨p, l, e, R, s, m, args, below, meth, c, Q, D, A, k0, n0, nL⟩ := Γ
  obtain ⟨hx, hb, hml, hown, hts, ⟨hK, hN⟩, hD, rfl, hk0, hn0, rfl⟩ := F
  intro hG H locs ls hP hS hh
  exact lv_pop hx hb hd hv (kk hG H locs ls hP hS hh)
end RowsW
/-! division of any number, by what is above 0; a sum of any two -/
def zdq {R : Type} (a b : Int) (K : Int → Option R) : Option R := if 0 < b then K (zI a / zI b).toInt else none
theorem zdq_e {R : Type} {a b : Int} {K : Int → Option R} {r : R} (h : zdq a b K = some r) : 0 < b ∧ K (zI a / zI b).toInt = some r := by
  unfold zdq at h
  by_cases c : 0 < b
  · rw [if_pos c] at h; exact ⟨c, h⟩
  · rw [if_neg c] at h; cases h
def zwa (a b : Int) : Int := (zI a + zI b).toInt
def zu (x : Int32) (k : Int32) : Int32 := (x.toUInt32 >>> (k.toUInt32 &&& Int32.toUInt32 31)).toInt32
theorem zu_nn (x : Int32) : 0 ≤ (zu x 2).toInt := by
  have e0 : ((2 : Int32).toUInt32 &&& Int32.toUInt32 31) = 2 := by decide
  have e1 : (x.toUInt32 >>> (2 : UInt32)).toNat < 2 ^ 31 := by
    rw [UInt32.toNat_shiftRight]
    have h1 : x.toUInt32.toNat < 2 ^ 32 := UInt32.toNat_lt _
    show x.toUInt32.toNat >>> 2 < 2 ^ 31
    rw [Nat.shiftRight_eq_div_pow]
    omega
  have e2 : zu x 2 = nI (x.toUInt32 >>> (2 : UInt32)).toNat := by
    unfold zu
    rw [e0]
    generalize x.toUInt32 >>> (2 : UInt32) = y
    apply Int32.toBitVec_inj.1
    show y.toBitVec = BitVec.ofNat 32 y.toBitVec.toNat
    simp
  rw [e2, nI_toInt e1]
  omega
/-- (v >>> 2) % n -/
def upv (a n : Int) : Int := (zu (zI a) 2).toInt % n
theorem upv_in {a n : Int} (h : 0 < n) : 0 ≤ upv a n ∧ upv a n < n := ⟨Int.emod_nonneg _ (by omega), Int.emod_lt_of_pos _ h⟩
def m_L_up (S : zSt) (a n : Int) : Option zRes := if 0 < n then some (upv a n, S) else none
def sx (xs : Nat → Int32) (i : Int) : Int := (xs i.toNat).toInt
theorem sx_in (xs : Nat → Int32) (i : Int) : inR (sx xs i) := inR_of _
theorem sx_z (xs : Nat → Int32) (i : Int) : zI (sx xs i) = xs i.toNat := zI_of _
/-- the cell k of a script -/
def cel9 (L : Nat) (xs : Nat → Int32) (k : Int) : Int := if (L : Int) = 0 then 0 else zwa (sx xs (k % (L : Int))) (31 * k)
def zce {R : Type} (cel : Int → Int) (k : Int) (K : Int → Option R) : Option R := if 0 ≤ k ∧ k < 200 then K (cel k) else none
theorem zI_ofN {n : Nat} (h : n < 2147483648) : Int32.ofNat n = zI (n : Int) := by
  apply Int32.toInt_inj.mp
  rw [zI_toInt ⟨by omega, by omega⟩]
  exact nI_toInt (by omega)
def zSX (Γ : zG) (b L : Nat) (xs : Nat → Int32) : Prop := match Γ with
  | (_, _, _, _, s, _, _, _, _, _, _, _, A, _, _, _) => va_X b L xs s s.heap ∧ b < s.heap.size ∧ ¬ A b
section RowsS
variable {Γ : zG} {w : zSt → va_W} {cI cZ : ClassId} {cc : ByteArray} {nL' : Nat} {own : String} {G : zSt → Prop} {S : zSt} {lv : List (Nat × Value)} {pc : Nat} {st : List Value} {rm : Room} {b L : Nat} {xs : Nat → Int32}
theorem k_idivq (F : zF Γ w cI cZ cc rm nL' own) {R : Type} {r : R} {a b : Int} {K : Int → Option R} (hb9 : inR b) (hd : decode cc pc = .ok (.idiv, 1)) (h : zdq a b K = some r) (kk : ∀ x, inR x → K x = some r → zk Γ w G S lv (pc + 1) (.int (zI x) :: st)) : zk Γ w G S lv pc (.int (zI b) :: .int (zI a) :: st) := by
  obtain ⟨p, l, e, R, s, m, args, below, meth, c, Q, D, A, k0, n0, nL⟩ := Γ
  obtain ⟨hx, hb, hml, hown, hts, ⟨hK, hN⟩, hD, rfl, hk0, hn0, rfl⟩ := F
  obtain ⟨h1, h2⟩ := zdq_e h
  intro hG H locs ls hP hS hh
  refine lv_idiv hx hb hd (fun q => ?_) ?_
  · rw [zI_zero, zI_eq hb9 inR_0] at q; omega
  rw [← zI_of (zI a / zI b)]
  exact kk _ (inR_of _) h2 hG H locs ls hP hS hh
theorem k_iaddw (F : zF Γ w cI cZ cc rm nL' own) {a b : Int} (hd : decode cc pc = .ok (.iadd, 1)) (kk : zk Γ w G S lv (pc + 1) (.int (zI (zwa a b)) :: st)) : zk Γ w G S lv pc (.int (zI b) :: .int (zI a) :: st) := by
  obtain ⟨p, l, e, R, s, m, args, below, meth, c, Q, D, A, k0, n0, nL⟩ := Γ
  obtain ⟨hx, hb, hml, hown, hts, ⟨hK, hN⟩, hD, rfl, hk0, hn0, rfl⟩ := F
  intro hG H locs ls hP hS hh
  refine lv_iadd hx hb hd ?_
  rw [← zI_of (zI a + zI b)]
  exact kk hG H locs ls hP hS hh
theorem k_ushr2 (F : zF Γ w cI cZ cc rm nL' own) {a : Int} (hd : decode cc pc = .ok (.iushr, 1)) (kk : zk Γ w G S lv (pc + 1) (.int (zI (zu (zI a) 2).toInt) :: st)) : zk Γ w G S lv pc (.int (zI 2) :: .int (zI a) :: st) := by
  obtain ⟨p, l, e, R, s, m, args, below, meth, c, Q, D, A, k0, n0, nL⟩ := Γ
  obtain ⟨hx, hb, hml, hown, hts, ⟨hK, hN⟩, hD, rfl, hk0, hn0, rfl⟩ := F
  intro hG H locs ls hP hS hh
  refine lv_iushr (v := zu (zI a) 2) hx hb hd rfl ?_
  rw [← zI_of (zu (zI a) 2)]
  exact kk hG H locs ls hP hS hh
theorem k_slen (F : zF Γ w cI cZ cc rm nL' own) (X : zSX Γ b L xs) (hL : L ≤ 260) (hd : decode cc pc = .ok (.arraylength, 1)) (kk : zk Γ w G S lv (pc + 1) (.int (zI (L : Int)) :: st)) : zk Γ w G S lv pc (.ref b :: st) := by
  obtain ⟨p, l, e, R, s, m, args, below, meth, c, Q, D, A, k0, n0, nL⟩ := Γ
  obtain ⟨hx, hb, hml, hown, hts, ⟨hK, hN⟩, hD, rfl, hk0, hn0, rfl⟩ := F
  obtain ⟨hX, hbl, hbA⟩ := X
  intro hG H locs ls hP hS hh
  refine va_slen hx hb hX hbl hbA hS hd ?_
  rw [zI_ofN (by omega)]
  exact kk hG H locs ls hP hS hh
theorem k_sld (F : zF Γ w cI cZ cc rm nL' own) (X : zSX Γ b L xs) {i : Int} (hi : 0 ≤ i ∧ i < L) (hL : L ≤ 260) (hd : decode cc pc = .ok (.iaload, 1)) (kk : zk Γ w G S lv (pc + 1) (.int (zI (sx xs i)) :: st)) : zk Γ w G S lv pc (.int (zI i) :: .ref b :: st) := by
  obtain ⟨p, l, e, R, s, m, args, below, meth, c, Q, D, A, k0, n0, nL⟩ := Γ
  obtain ⟨hx, hb, hml, hown, hts, ⟨hK, hN⟩, hD, rfl, hk0, hn0, rfl⟩ := F
  obtain ⟨hX, hbl, hbA⟩ := X
  intro hG H locs ls hP hS hh
  have hi9 : inR i := ⟨by omega, by omega⟩
  refine va_sld hx hb hX hbl hbA hS (zvp_in hi9 hi) hd ?_
  rw [zI_clamp hi9, ← sx_z xs i]
  exact kk hG H locs ls hP hS hh
end RowsS
theorem c_L_up {l : Launch} {D : va_G} {A : Nat → Prop} {cI cZ : ClassId} {w : zSt → va_W} {G : zSt → Prop} (hD : ∀ S, va_D A (w S)) {S : zSt} (hG : G S) {a1 : Int} (ra1 : inR a1) {a2 : Int} (ra2 : inR a2) {x : Int} {S' : zSt} (h : m_L_up S a1 a2 = some (x, S')) : zMi l yL_up cL_up 2 .int { frames := 0, cells := 0, slots := 0, locals := 0 } D cI cZ A w G [.int (zI a1), .int (zI a2)] S x S' := by
  unfold m_L_up at h
  by_cases c : 0 < a2
  case neg => rw [if_neg c] at h; cases h
  rw [if_pos c] at h
  refine k_start_i (by decide +kernel) hD hG (Nat.le_of_ble_eq_true rfl) (fun Γ F hQ => ?_)
  refine k_sub [0, 1] (lv' := [(0, .int (zI a1)), (1, .int (zI a2))]) rfl ?_
  refine k_iload_n F dL_up_0 rfl 0 rfl ?_
  refine k_iconst F dL_up_1 ?_
  refine k_ushr2 F dL_up_2 ?_
  refine k_iload_n F dL_up_3 rfl 1 rfl ?_
  refine k_irem (R := zRes) (r := (x, S')) (K := fun y => some (y, S)) F (inR_of _) ra2 dL_up_4 (by unfold zrm; rw [if_pos ⟨zu_nn _, c⟩]; exact h) (fun y ry h2 => ?_)
  exact k_iret F hQ ry dL_up_5 h2
def cLq (L : Nat) (xs : Nat → Int32) (k : Int) (D : va_G) : Array Value → State → Outcome → State → Prop := va_Qi (S := Unit) (fun v _ => v = zI (cel9 L xs k) ∧ inR (cel9 L xs k) ∧ True ∧ ((FieldType.int : FieldType) = .boolean → cel9 L xs k = 0 ∨ cel9 L xs k = 1)) (fun _ t => va_P D vwCl ([] : va_W) t.heap) (fun _ => False)
theorem c_L_cell {l : Launch} {D : va_G} {cI cZ : ClassId} {b L : Nat} {xs : Nat → Int32} (hL : L ≤ 260) {k : Int} (hk : 0 ≤ k ∧ k < 200) : Met l yL_cell (.code yL_cell cL_cell 2 (some .int) :: WS) { frames := 0, cells := 0, slots := 0, locals := 0 } (va_Pc [.ref b, .int (zI k)] (fun U => va_X b L xs U U.heap ∧ b < U.heap.size ∧ zK D cI cZ U)) (cLq L xs k D) 0 0 (fun _ => False) := by
  refine Met.ofW (cc := cL_cell) (maxL := 2) (ret := some .int) (by decide +kernel) rfl ?_
  intro p e s m args below meth c s₁ B hml hv
  obtain ⟨rfl, hX, hbl, hK⟩ := hv
  have hts := atoms_spec (ws := .code yL_cell cL_cell 2 (some .int) :: WS) B.pre
  have hown : s.vm.findClass yL_cell.cls = some m.cls := findClass_of_methodNamed B.named
  have hl := lv_entry [.ref b, .int (zI k)] (n := 2) (Nat.le_of_ble_eq_true rfl)
  rw [lg_entry_eq]
  obtain ⟨Γ, hΓ⟩ : ∃ Γ : zG, Γ = (p, l, e, _, s, m, _, below, meth, c, _, D, (fun _ : Nat => False), 0, 0, 2) := ⟨(p, l, e, (headSpec (.code yL_cell cL_cell 2 (some .int) :: WS) { frames := 0, cells := 0, slots := 0, locals := 0 }).room, s, m, #[Value.ref b, .int (zI k)], below, meth, c, MQ below (cLq L xs k D) #[Value.ref b, .int (zI k)] s 0 0 (fun _ => False), D, (fun _ : Nat => False), 0, 0, 2), rfl⟩
  have F : zF Γ (fun _ => ([] : va_W)) cI cZ cL_cell { frames := 0, cells := 0, slots := 0, locals := 0 } 2 RL := by
    rw [hΓ]
    exact ⟨B.exec, B.bytes, hml, hown, fun w hw => hts w (List.mem_cons_of_mem _ hw), hK, fun _ => ⟨fun i j p q h => by simp at h, fun k q h => by simp at h⟩, rfl, Nat.zero_le _, Nat.zero_le _, rfl⟩
  have X : zSX Γ b L xs := by
    rw [hΓ]
    exact ⟨hX, hbl, fun h => h⟩
  have hQ : zQi Γ (fun _ => ([] : va_W)) (fun _ => True) .int (cel9 L xs k) zS0 := by
    rw [hΓ]
    exact ⟨rfl, rfl, rfl, B.returns, B.notSynchronized⟩
  suffices hz : zk Γ (fun _ => ([] : va_W)) (fun _ => True) zS0 [(0, .ref b), (1, .int (zI k))] 0 [] by
    rw [hΓ] at hz
    exact hz trivial s.heap [] _ (fun k q h => by simp at h) va_S.rf (lv_sub hl [0, 1] rfl)
  clear hΓ
  have hk9 : inR k := ⟨by omega, by omega⟩
  refine k_aload_n F dL_cell_0 rfl 0 rfl ?_
  refine k_slen F X hL dL_cell_1 ?_
  by_cases c : (L : Int) = 0
  · refine k_if_ne (R := Unit) (r := ()) (A := none) (B := some ()) F ⟨by omega, by omega⟩ (tgt := 9) dL_cell_2 (by decide) (if_pos c) (fun z => by cases z) (fun _ => ?_)
    refine k_iconst F dL_cell_5 ?_
    refine k_goto F (tgt := 20) dL_cell_6 (by decide) ?_
    exact k_iret F hQ inR_0 dL_cell_20 (by unfold cel9; rw [if_pos c])
  · refine k_if_ne (R := Unit) (r := ()) (A := some ()) (B := none) F ⟨by omega, by omega⟩ (tgt := 9) dL_cell_2 (by decide) (if_neg c) (fun _ => ?_) (fun z => by cases z)
    refine k_aload_n F dL_cell_9 rfl 0 rfl ?_
    refine k_iload_n F dL_cell_10 rfl 1 rfl ?_
    refine k_aload_n F dL_cell_11 rfl 0 rfl ?_
    refine k_slen F X hL dL_cell_12 ?_
    refine k_irem (R := Unit) (r := ()) (K := fun y => if y = k % (L : Int) then some () else none) F hk9 ⟨by omega, by omega⟩ dL_cell_13 (by unfold zrm; rw [if_pos ⟨hk.1, by omega⟩]; exact if_pos rfl) (fun y ry ey => ?_)
    have ey : y = k % (L : Int) := by
      by_cases q : y = k % (L : Int)
      · exact q
      · rw [if_neg q] at ey; cases ey
    subst ey
    refine k_sld F X ⟨Int.emod_nonneg _ c, Int.emod_lt_of_pos _ (by omega)⟩ hL dL_cell_14 ?_
    refine k_bipush F dL_cell_15 bp_31 ?_
    refine k_iload_n F dL_cell_17 rfl 1 rfl ?_
    refine k_imul (R := Unit) (r := ()) (K := fun y => if y = 31 * k then some () else none) F dL_cell_18 (by unfold zar; rw [if_pos (⟨by omega, by omega⟩ : inR (31 * k))]; exact if_pos rfl) (fun y ry2 ey => ?_)
    have ey : y = 31 * k := by
      by_cases q : y = 31 * k
      · exact q
      · rw [if_neg q] at ey; cases ey
    subst ey
    refine k_iaddw F dL_cell_19 ?_
    exact k_iret F hQ (inR_of _) dL_cell_20 (by unfold cel9; rw [if_neg c])
set_option maxRecDepth 100000 in
theorem c_L_comment {l : Launch} {D : va_G} {A : Nat → Prop} {cI cZ : ClassId} {ad ads : Nat → Nat} (hst : l.stackTraces = false) (hD : ∀ S, va_D A (wC cI cZ ad S)) {C : zSt} (hGC : RG bsC C) {a1 : Int} (ra1 : inR a1) {a2 : Int} (ra2 : inR a2) (h0 : 0 ≤ a1) {r : zRx} (h : m_X8_comment C 0 0 4 a1 a2 1 (a1 % 2) = some r) (hE : ∀ E C', r = .inr (E, C') → E ∈ (["java/lang/IllegalStateException"] : List String)) : zMw l yL_comment cL_comment 4 [(0, 13, 14, 13)] 8 141 D cI cZ ads A (wC cI cZ ad) [.ref (ad 0), .int (zI a1), .int (zI a2)] C r (zcd r) (zrs r) (inR (zcd r) ∧ RG bsC (zrs r)) := by
  refine k_startW (by decide +kernel) hst hD hGC (Nat.le_of_ble_eq_true rfl) (fun Γ F X hkn hQ => ?_)
  have F : zF Γ (wC cI cZ ad) cI cZ cL_comment (zroom 8 141 r) 4 RL := F
  refine k_sub [0, 1, 2] (lv' := [(0, .ref (ad 0)), (1, .int (zI a1)), (2, .int (zI a2))]) rfl ?_
  refine k_aload_n F dL_comment_0 rfl 0 rfl ?_
  refine k_iconst F dL_comment_1 ?_
  refine k_iconst F dL_comment_2 ?_
  refine k_iconst F dL_comment_3 ?_
  refine k_iload_n F dL_comment_4 rfl 1 rfl ?_
  refine k_iload_n F dL_comment_5 rfl 2 rfl ?_
  refine k_iconst F dL_comment_6 ?_
  refine k_iload_n F dL_comment_7 rfl 1 rfl ?_
  refine k_iconst F dL_comment_8 ?_
  refine k_irem (R := Unit) (r := ()) (K := fun y => if y = a1 % 2 then some () else none) F ra1 (by decide) dL_comment_9 (by unfold zrm; rw [if_pos ⟨h0, by decide⟩]; exact if_pos rfl) (fun y ry ey => ?_)
  have ey : y = a1 % 2 := by
    by_cases q : y = a1 % 2
    · exact q
    · rw [if_neg q] at ey; cases ey
  subst ey
  refine k_callW F X hkn cal_X8_comment (obC_0 cI cZ ad) wm_292 (fun l D A hst hD hG => c_X8_comment hst hD hG iR_0 iR_0 iR_4 ra1 ra2 iR_1 ry h) ⟨Nat.le_of_ble_eq_true rfl, Nat.le_of_ble_eq_true rfl⟩ rfl rfl (Nat.le_of_ble_eq_true rfl) dL_comment_10 (fun x C' e rx => ?_) (fun E C' e => ?_)
  · subst e
    exact k_iretW F hQ (fun hG => ⟨rx, hG⟩) hkn rfl rfl dL_comment_13
  · have hm := hE E C' e
    subst e
    rcases List.mem_cons.mp hm with rfl | hm
    · refine ⟨[], ⟨0, 13, 14, 13⟩, [], rfl, (fun z hz => by cases hz), by decide, by decide, wm_290, by decide, fun q9 => ?_⟩
      have F2 := F.up (k := 1) (n := 6) (Nat.le_refl 1) (Nat.le_refl 6)
      refine k_at (pc' := 14) rfl ?_
      refine k_astore_n F2 dL_comment_14 rfl (by decide) (lv' := [(3, .ref q9), (0, .ref (ad 0)), (1, .int (zI a1)), (2, .int (zI a2))]) rfl ?_
      refine k_sipush F2 dL_comment_15 sp_m1003 ?_
      exact k_iretW F2 (zQw_up hQ 1 6) (fun hG => ⟨by rw [zcd_I]; decide, hG⟩) (zKN_up Γ 1 6) (zcd_I _).symm rfl dL_comment_18
    exact absurd hm List.not_mem_nil
set_option maxRecDepth 100000 in
theorem c_L_emend {l : Launch} {D : va_G} {A : Nat → Prop} {cI cZ : ClassId} {ad ads : Nat → Nat} (hst : l.stackTraces = false) (hD : ∀ S, va_D A (wC cI cZ ad S)) {C : zSt} (hGC : RG bsC C) {a1 : Int} (ra1 : inR a1) {a2 : Int} (ra2 : inR a2) (h0 : (0 : Int) ≤ 0) {r : zRx} (h : m_X8_emend C 0 a1 a2 = some r) (hE : ∀ E C', r = .inr (E, C') → E ∈ (["java/lang/IndexOutOfBoundsException", "java/lang/IllegalStateException"] : List String)) : zMw l yL_emend cL_emend 4 [(0, 7, 8, 19), (0, 7, 13, 13)] 8 160 D cI cZ ads A (wC cI cZ ad) [.ref (ad 0), .int (zI a1), .int (zI a2)] C r (zcd r) (zrs r) (inR (zcd r) ∧ RG bsC (zrs r)) := by
  refine k_startW (by decide +kernel) hst hD hGC (Nat.le_of_ble_eq_true rfl) (fun Γ F X hkn hQ => ?_)
  have F : zF Γ (wC cI cZ ad) cI cZ cL_emend (zroom 8 160 r) 4 RL := F
  refine k_sub [0, 1, 2] (lv' := [(0, .ref (ad 0)), (1, .int (zI a1)), (2, .int (zI a2))]) rfl ?_
  refine k_aload_n F dL_emend_0 rfl 0 rfl ?_
  refine k_iconst F dL_emend_1 ?_
  refine k_iload_n F dL_emend_2 rfl 1 rfl ?_
  refine k_iload_n F dL_emend_3 rfl 2 rfl ?_
  refine k_callW F X hkn cal_X8_emend (obC_0 cI cZ ad) wm_299 (fun l D A hst hD hG => c_X8_emend hst hD hG iR_0 ra1 ra2 h) ⟨Nat.le_of_ble_eq_true rfl, Nat.le_of_ble_eq_true rfl⟩ rfl rfl (Nat.le_of_ble_eq_true rfl) dL_emend_4 (fun x C' e rx => ?_) (fun E C' e => ?_)
  · subst e
    exact k_iretW F hQ (fun hG => ⟨rx, hG⟩) hkn rfl rfl dL_emend_7
  · have hm := hE E C' e
    subst e
    rcases List.mem_cons.mp hm with rfl | hm
    · refine ⟨[], ⟨0, 7, 8, 19⟩, [⟨0, 7, 13, 13⟩], rfl, (fun z hz => by cases hz), by decide, by decide, wm_291, by decide, fun q9 => ?_⟩
      have F2 := F.up (k := 1) (n := 6) (Nat.le_refl 1) (Nat.le_refl 6)
      refine k_at (pc' := 8) rfl ?_
      refine k_astore_n F2 dL_emend_8 rfl (by decide) (lv' := [(3, .ref q9), (0, .ref (ad 0)), (1, .int (zI a1)), (2, .int (zI a2))]) rfl ?_
      refine k_sipush F2 dL_emend_9 sp_m1001 ?_
      exact k_iretW F2 (zQw_up hQ 1 6) (fun hG => ⟨by rw [zcd_O]; decide, hG⟩) (zKN_up Γ 1 6) (zcd_O _).symm rfl dL_emend_12
    rcases List.mem_cons.mp hm with rfl | hm
    · refine ⟨[⟨0, 7, 8, 19⟩], ⟨0, 7, 13, 13⟩, [], rfl, (fun z hz => by
        simp only [List.mem_cons, List.not_mem_nil, or_false] at hz
        subst hz
        exact ⟨by decide, _, wm_291, by decide⟩), by decide, by decide, wm_290, by decide, fun q9 => ?_⟩
      have F2 := F.up (k := 1) (n := 6) (Nat.le_refl 1) (Nat.le_refl 6)
      refine k_at (pc' := 13) rfl ?_
      refine k_astore_n F2 dL_emend_13 rfl (by decide) (lv' := [(3, .ref q9), (0, .ref (ad 0)), (1, .int (zI a1)), (2, .int (zI a2))]) rfl ?_
      refine k_sipush F2 dL_emend_14 sp_m1003 ?_
      exact k_iretW F2 (zQw_up hQ 1 6) (fun hG => ⟨by rw [zcd_I]; decide, hG⟩) (zKN_up Γ 1 6) (zcd_I _).symm rfl dL_emend_17
    exact absurd hm List.not_mem_nil
end
section
/-! THE CLAIM OUT OF ONE WALK OF THE LAW'S BODY. Your part is whole_start (and what it stands on); all else here is the same for every law, but numbers. -/
def R_law : String := "GlossedPageLaw"
def lw_P (b : Addr) (xs : List Int32) (args : Array Value) (s : State) : Prop := args = #[.ref b] ∧ s.IntsAt b xs ∧ xs.length ≤ 260 ∧ (Jvm.Cond.and given_1 narrow_1).before args s = true
def lw_Q (_ : Array Value) (s : State) (o : Outcome) (t : State) : Prop := o = .returned (some (.int 1)) ∧ Framed s o t [] 119 2739
def lw_Z (below : List Frame) (a : Array Value) (s : State) : State → Prop := fun t => ∃ o, t.status = .running ∧ Ended t below o ∧ lw_Q a s o t
/-- the law's own end, with 1 on the stack, nothing written that was there before, its room as the claim has it -/
theorem lw_ret {p : Program} {l : Launch} {e : Env} {s : State} {m : MethodId} {below : List Frame} {meth : Method} {c : Code} {b : Nat} (hx : p.tables.exec = Jvm.exec) (hb : c.code = code) (hr : meth.sig.returnType = ret) (hlocks : meth.locks = false) {pc : Nat} {H : Heap} {ls : Array Slot} (hdg : decode code pc = .ok (.ireturn, 1)) : W p l e room_1 s m #[Value.ref b] below meth c H [] 119 2739 (lw_Z below #[Value.ref b] s) (F0 m pc ls [.int 1]) := by
  intro T hT X
  obtain ⟨fs, hret, hrun, hended, hW, hframe⟩ := X.leave (v := some (.int 1)) (hlocks := hlocks) (fun h => by rw [hr] at h; cases h)
  have hmeth' : T.vm.method? m = some meth := X.method'
  refine ⟨T.setFrames fs, ?_, .returned (some (.int 1)), hrun, hended, rfl, ⟨_, rfl⟩, hW, hframe⟩
  jvm_step X.here [X.here.top, hx, hb, hdg, hmeth', hr, ret, narrow_b1]
  (try refine ⟨rfl, ?_⟩); (try refine ⟨rfl, ?_⟩)
  first | (intro acts; rw [hret _ acts rfl rfl rfl]) | rw [hret _ _ rfl rfl rfl]
  exact Steps.refl _
/-- what holds at the law's entry: the machine, the code, the tables' words (any of lw_tbl by 'hts w (by decide +kernel)'), the script of L ints xs at the cell b, what the Statement gives of the start (any of its parts by flat_of_before) -/
def lw_At (p : Program) (s : State) (m : MethodId) (meth : Method) (c : Code) (b L : Nat) (xs : Nat → Int32) : Prop :=
  p.tables.exec = Jvm.exec ∧ c.code = code ∧ meth.sig.returnType = ret ∧ c.maxLocals = 18 ∧ s.vm.findClass R_law = some m.cls ∧ (∀ w ∈ lw_tbl, w.before #[Value.ref b] s = true) ∧ va_X b L xs s s.heap ∧ b < s.heap.size ∧ meth.locks = false ∧ (Jvm.Cond.and given_1 narrow_1).before #[Value.ref b] s = true
theorem calw_comment : Cond.static yL_comment ∈ WS ∧ Cond.initialized yL_comment.cls ∈ WS ∧ Cond.codeWith yL_comment cL_comment 4 (some .int) [(0, 13, 14, 13)] ∈ WS ∧ (yL_comment.cls ≠ "java/lang/invoke/MethodHandle" ∧ yL_comment.cls ≠ "java/lang/invoke/VarHandle" ∧ (parseMethodDescriptor yL_comment.desc).map (fun d => d.parameters.length) = some 3) := ⟨wm_296, wm_297, wm_298, by decide, by decide, by decide +kernel⟩
theorem calw_emend : Cond.static yL_emend ∈ WS ∧ Cond.initialized yL_emend.cls ∈ WS ∧ Cond.codeWith yL_emend cL_emend 4 (some .int) [(0, 7, 8, 19), (0, 7, 13, 13)] ∈ WS ∧ (yL_emend.cls ≠ "java/lang/invoke/MethodHandle" ∧ yL_emend.cls ≠ "java/lang/invoke/VarHandle" ∧ (parseMethodDescriptor yL_emend.desc).map (fun d => d.parameters.length) = some 3) := ⟨wm_303, wm_297, wm_304, by decide, by decide, by decide +kernel⟩
/-! the law's world: the class's, and its own rows: row, words, places, lost -/
def zpC (S : zSt) : zSt := (fun q => S.1 (2 * q), fun q => S.2 (2 * q))
def zpM (S : zSt) : zSt := (fun q => S.1 (2 * q + 1), fun q => S.2 (2 * q + 1))
def zjn (P M : zSt) : zSt := (fun q => if q % 2 = 0 then P.1 (q / 2) else M.1 (q / 2), fun q => if q % 2 = 0 then P.2 (q / 2) else M.2 (q / 2))
theorem zpC_j (P M : zSt) : zpC (zjn P M) = P := by
  refine Prod.ext (funext fun q => ?_) (funext fun q => ?_)
  · show (if 2 * q % 2 = 0 then P.1 (2 * q / 2) else M.1 (2 * q / 2)) = P.1 q
    rw [if_pos (by omega), show 2 * q / 2 = q by omega]
  · show (if 2 * q % 2 = 0 then P.2 (2 * q / 2) else M.2 (2 * q / 2)) = P.2 q
    rw [if_pos (by omega), show 2 * q / 2 = q by omega]
theorem zpM_j (P M : zSt) : zpM (zjn P M) = M := by
  refine Prod.ext (funext fun q => ?_) (funext fun q => ?_)
  · show (if (2 * q + 1) % 2 = 0 then P.1 ((2 * q + 1) / 2) else M.1 ((2 * q + 1) / 2)) = M.1 q
    rw [if_neg (by omega), show (2 * q + 1) / 2 = q by omega]
  · show (if (2 * q + 1) % 2 = 0 then P.2 ((2 * q + 1) / 2) else M.2 ((2 * q + 1) / 2)) = M.2 q
    rw [if_neg (by omega), show (2 * q + 1) / 2 = q by omega]
def wE (cI : ClassId) (ad : Nat → Nat) (S : zSt) : va_W := [(ad 38, .inl (cI, 12, .inl (zA (S.2 1)))), (ad 39, .inl (cI, 60, .inl (zA (S.2 3)))), (ad 40, .inl (cI, 60, .inl (zA (S.2 5)))), (ad 41, .inl (cI, 60, .inl (zA (S.2 7))))]
def wL (cI cZ : ClassId) (ad : Nat → Nat) (S : zSt) : va_W := wC cI cZ ad (zpC S) ++ wE cI ad S
def bsL : List Nat := [32]
theorem wE_j (cI : ClassId) (ad : Nat → Nat) (P S : zSt) : wE cI ad (zjn P (zpM S)) = wE cI ad S := rfl
theorem wL_j (cI cZ : ClassId) (ad : Nat → Nat) (P S : zSt) : wL cI cZ ad (zjn P (zpM S)) = wC cI cZ ad P ++ wE cI ad S := by
  unfold wL
  rw [zpC_j, wE_j]
theorem RG_C {S : zSt} (h : RG bsL S) : RG bsC (zpC S) := ⟨fun k => h.1 _, fun k j => h.2.1 _ j, fun k hk j => h.2.2 (2 * k) (by
  have e : k = 16 := List.mem_singleton.mp hk
  subst e
  exact List.mem_singleton.mpr rfl) j⟩
theorem RG_J {P S : zSt} (hP : RG bsC P) (h : RG bsL S) : RG bsL (zjn P (zpM S)) := by
  refine ⟨fun k => ?_, fun k j => ?_, fun k hk j => ?_⟩
  · show inR (if k % 2 = 0 then P.1 (k / 2) else (zpM S).1 (k / 2))
    split
    · exact hP.1 _
    · exact h.1 _
  · show inR ((if k % 2 = 0 then P.2 (k / 2) else (zpM S).2 (k / 2)) j)
    split
    · exact hP.2.1 _ j
    · exact h.2.1 _ j
  · have e : k = 32 := List.mem_singleton.mp hk
    subst e
    exact hP.2.2 16 (List.mem_singleton.mpr rfl) j
/-- what the law's place has for good, beside zF -/
def zLX (Γ : zG) (ads : Nat → Nat) (cI cZ : ClassId) (b L : Nat) (xs : Nat → Int32) : Prop := match Γ with
  | (_, l, _, _, s, _, args, below, meth, _, Q, D, A, _, _, _) => l.stackTraces = false ∧ zT ads A s ∧ zKJ D cI cZ s ∧ va_X b L xs s s.heap ∧ b < s.heap.size ∧ Q = lw_Z below #[Value.ref b] s ∧ args = #[Value.ref b] ∧ A = (fun q : Nat => s.heap.size ≤ q) ∧ meth.sig.returnType = ret ∧ meth.locks = false
theorem zLX_up {Γ : zG} {ads : Nat → Nat} {cI cZ : ClassId} {b L : Nat} {xs : Nat → Int32} (h : zLX Γ ads cI cZ b L xs) (k n : Nat) : zLX (zup Γ k n) ads cI cZ b L xs := by
  obtain ⟨p, l, e, R, s, m, args, below, meth, c, Q, D, A, k0, n0, nL⟩ := Γ
  exact h
/-- a call of the class that returns; a call of a wrapper -/
def zby {R : Type} (x : Option zRx) (S : zSt) (K : Int → zSt → Option R) : Option R := match x with
  | some (.inl q) => K q.1 (zjn q.2 (zpM S))
  | _ => none
theorem zby_e {R : Type} {x : Option zRx} {S : zSt} {K : Int → zSt → Option R} {r : R} (h : zby x S K = some r) : ∃ q : zRes, x = some (.inl q) ∧ K q.1 (zjn q.2 (zpM S)) = some r := by
  match x, h with
  | some (.inl q), h => exact ⟨q, rfl, h⟩
def zok (hs : List String) (r : zRx) : Bool := match r with
  | .inl _ => true
  | .inr q => decide (q.1 ∈ hs)
def zbw {R : Type} (hs : List String) (b0 : Int) (x : Option zRx) (S : zSt) (K : Int → zSt → Option R) : Option R := match x with
  | none => none
  | some r => if 0 ≤ b0 ∧ zok hs r = true then K (zcd r) (zjn (zrs r) (zpM S)) else none
theorem zbw_e {R : Type} {hs : List String} {b0 : Int} {x : Option zRx} {S : zSt} {K : Int → zSt → Option R} {r : R} (h : zbw hs b0 x S K = some r) : ∃ q : zRx, x = some q ∧ 0 ≤ b0 ∧ (∀ E C', q = .inr (E, C') → E ∈ hs) ∧ K (zcd q) (zjn (zrs q) (zpM S)) = some r := by
  match x, h with
  | some q, h =>
    have h : (if 0 ≤ b0 ∧ zok hs q = true then K (zcd q) (zjn (zrs q) (zpM S)) else none) = some r := h
    by_cases c : 0 ≤ b0 ∧ zok hs q = true
    · rw [if_pos c] at h
      refine ⟨q, rfl, c.1, fun E C' e => ?_, h⟩
      subst e
      exact of_decide_eq_true c.2
    · rw [if_neg c] at h; cases h
section RowsL
variable {Γ : zG} {cI cZ : ClassId} {ad ads : Nat → Nat} {b L : Nat} {xs : Nat → Int32} {cc : ByteArray} {nL' : Nat} {own : String} {w : zSt → va_W} {G : zSt → Prop} {S : zSt} {lv : List (Nat × Value)} {pc : Nat} {st : List Value}
theorem k_lret (F : zF Γ w cI cZ cL_law room_1 nL' own) (X : zLX Γ ads cI cZ b L xs) (hd : decode cL_law pc = .ok (.ireturn, 1)) : zk Γ w G S lv pc [.int (zI 1)] := by
  obtain ⟨p, l, e, R, s, m, args, below, meth, c, Q, D, A, k0, n0, nL⟩ := Γ
  obtain ⟨hx, hb, hml, hown, hts, ⟨hK, hN⟩, hD, rfl, hk0, hn0, rfl⟩ := F
  obtain ⟨hst, hT, hKJ, hX, hbl, rfl, rfl, rfl, hr, hlk⟩ := X
  intro hG H locs ls hP hS hh
  refine va_forget hS.2.2 (W.widen (k := 119) (n := 2739) hk0 hn0 ?_)
  rw [show zI 1 = (1 : Int32) by decide]
  exact lw_ret hx hb hr hlk hd
theorem k_cell (F : zF Γ w cI cZ cc room_1 nL' own) (X : zLX Γ ads cI cZ b L xs) (hL : L ≤ 260) {R : Type} {r : R} {K : Int → Option R} {k : Int} {idx : Nat} (hl : Cond.methodLink own idx yL_cell ∈ WS) (hW : (st.map fun v => v.category).sum ≤ 8) (hd : decode cc pc = .ok (.invokestatic idx, 3)) (h : zce (cel9 L xs) k K = some r) (kk : ∀ x, inR x → K x = some r → zk Γ w G S lv (pc + 3) (.int (zI x) :: st)) : zk Γ w G S lv pc (.int (zI k) :: .ref b :: st) := by
  obtain ⟨p, l, e, R, s, m, args, below, meth, c, Q, D, A, k0, n0, nL⟩ := Γ
  obtain ⟨hx, hb, hml, hown, hts, ⟨hK, hN⟩, hD, rfl, hk0, hn0, rfl⟩ := F
  obtain ⟨hst, hT, hKJ, hX, hbl, rfl, rfl, rfl, hr, hlk⟩ := X
  unfold zce at h
  by_cases hk : 0 ≤ k ∧ k < 200
  case neg => rw [if_neg hk] at h; cases h
  rw [if_pos hk] at h
  obtain ⟨c1, c3, c4, c5, c6, c7⟩ := cal_L_cell
  have hg : GoodIn WS (Cond.code yL_cell cL_cell 2 (some .int) :: WS) := WS_sub (fun _ h => h) (fun w hw => by
    simp only [List.mem_cons] at hw
    rcases hw with rfl | hw
    · exact c4
    · exact hw)
  intro hG H locs ls hP hS hh
  have hbH : H[b]? = s.heap[b]? := hS.2.1 b hbl (Nat.not_le.mpr hbl)
  refine va_calli (va_runS (As := [.ref b, .int (zI k)]) (rest := st) ⟨hx, hb, hml, hown, hts⟩ (c_L_cell (l := l) (D := D) (cI := cI) (cZ := cZ) (b := b) (L := L) (xs := xs) hL hk) ⟨callB_of 2 hts hg rfl rfl rfl (by rw [c5]; exact hts _ c3) (hts _ hl) ⟨c6.1, c6.2, c7⟩ ⟨Nat.le_of_ble_eq_true rfl, Nat.le_of_ble_eq_true rfl⟩, hts _ c1⟩ ⟨fun a U g mk q => ⟨q.1, va_X.moved (u := U) (U := U.calling g mk a) (Vm.Alike.refl _) q.2.1, q.2.2.1, zK.same (u := U) (U := U.calling g mk a) rfl q.2.2.2⟩, fun U hU hW => ⟨rfl, by rw [hU]; exact va_X.moved hW.alike (hX.kept hbH), by rw [hU]; exact Nat.lt_of_lt_of_le hbl hS.1, zK.warm hW ⟨hK, hN⟩⟩⟩ rfl rfl hh.1 rfl (lv_room hW) hd ⟨hk0, hn0⟩) hS (fun q _ h => h.elim) (fun q h => h.elim) (fun r0 u t H1 locs1 ht hvm hw hB hz1 hk1 hS1 => ?_)
  obtain ⟨rfl, hx1, -, -⟩ := hw
  exact kk _ hx1 h hG H1 locs1 ls (fun k q hq => (hP k q hq).kept (hk1 _ (hP k q hq).lt (fun z => z))) hS1 hh
theorem k_callY (F : zF Γ (wL cI cZ ad) cI cZ cc room_1 nL' own) (X : zLX Γ ads cI cZ b L xs) {R : Type} {r : R} {y : MethodName} {cy : ByteArray} {mL n idx fr2 lo2 : Nat} {As : List Value} {x0 : Option zRx} {K : Int → zSt → Option R} (hc : zCal RX8 y cy mL (some .int) n) (hl : Cond.methodLink own idx y ∈ WS)
    (hM : ∀ (l : Launch) (D : va_G) (A : Nat → Prop), l.stackTraces = false → (∀ S, va_D A (wC cI cZ ad S)) → RG bsC (zpC S) → ∀ r', x0 = some r' → zMr l y cy mL (some .int) fr2 lo2 D cI cZ ads A (wC cI cZ ad) (RG bsC) (.ref (ad 0) :: As) (zpC S) r')
    (hR : fr2 + 1 ≤ 11 ∧ 8 + (mL + 11) + lo2 ≤ 400) (hn : As.length = n) {st0 : List Value} (hst0 : st0 = As.reverse ++ .ref (ad 0) :: st) (hW : (st.map fun v => v.category).sum ≤ 8) (hd : decode cc pc = .ok (.invokevirtual idx, 3)) (h : zby x0 S K = some r)
    (kk : ∀ x S2, inR x → K x S2 = some r → zk Γ (wL cI cZ ad) (RG bsL) S2 lv (pc + 3) (.int (zI x) :: st)) : zk Γ (wL cI cZ ad) (RG bsL) S lv pc st0 := by
  obtain ⟨p, l, e, R, s, m, args, below, meth, c, Q, D, A, k0, n0, nL⟩ := Γ
  obtain ⟨hx, hb, hml, hown, hts, ⟨hK, hN⟩, hD, rfl, hk0, hn0, rfl⟩ := F
  obtain ⟨hst, hT, hKJ, hX, hbl, rfl, rfl, rfl, hr, hlk⟩ := X
  obtain ⟨q, rfl, h2⟩ := zby_e h
  obtain ⟨c1, c2, c3, c4, c5, c6, c7⟩ := hc
  have hg : GoodIn WS (wsV own idx RX8 y (Cond.code y cy mL (some .int) :: WS)) := WS_sub (fun _ h => h) (fun w hw => by
    simp only [wsV, List.mem_append, List.mem_cons, List.not_mem_nil, or_false] at hw
    rcases hw with (rfl | rfl | rfl | rfl) | rfl | hw
    · exact hl
    · exact c1
    · exact c2
    · exact c3
    · exact c4
    · exact hw)
  have hDC : ∀ P, va_D (ZC ad 38) (wC cI cZ ad P) := fun P => by
    have h := hD (zjn P (zpM S))
    rw [wL_j] at h
    exact (zpre_D (wC_ix cI cZ ad P) h).1
  obtain ⟨-, hsubA, hexA⟩ := zpre_D (wC_ix cI cZ ad (zpC S)) (hD S)
  intro hG H locs ls hP hS hh2
  have hP : va_P D vwCl (wC cI cZ ad (zpC S) ++ wE cI ad S) H := hP
  have hPC := zpre_Q hP
  have hM1 := hM l D (ZC ad 38) hst hDC (RG_C hG) _ rfl
  have hpc : ∀ U : State, U.heap = H → s.WarmedH U.vm → zPc D cI cZ ads (ZC ad 38) (wC cI cZ ad) (.ref (ad 0) :: As) (zpC S) (Value.ref (ad 0) :: As).toArray U := fun U hU hW => ⟨rfl, by rw [hU]; exact hPC, zK.warm hW ⟨hK, hN⟩, (zT.go hW (by rw [hU]; exact hS.2.1) hT).narrow hsubA⟩
  subst hst0
  refine va_calli (va_runV (As := As) (rest := st) ⟨hx, hb, hml, hown, hts⟩ hM1 (cwV n hts hg rfl rfl rfl ⟨c5, c6.1, c6.2, c7⟩ ⟨hR.1, hR.2⟩) ⟨zPc.blind, (obC_0 cI cZ ad).recv (S := zpC S) hK hPC, hpc⟩ rfl hn hh2.1 rfl (lv_room hW) hd ⟨hk0, hn0⟩) hS (fun q _ h => hsubA q h) hsubA (fun r0 u t H1 locs1 ht hvm hw hB hz1 hk1 hS1 => ?_)
  obtain ⟨rfl, hx1, hG1, h01⟩ := hw
  rw [ht] at hB
  exact kk _ _ hx1 h2 (RG_J hG1 hG) H1 locs1 ls (by rw [wL_j]; exact zpre_P hP hexA hk1 hB) hS1 hh2
theorem k_callQ (F : zF Γ (wL cI cZ ad) cI cZ cc room_1 nL' own) (X : zLX Γ ads cI cZ b L xs) {k n : Nat} (hkn : zKN Γ k n) (hk : k + 1 ≤ 119 ∧ n + 6 ≤ 2739) {R : Type} {r9 : R} {y : MethodName} {cy : ByteArray} {mL np idx fr2 lo2 : Nat} {hh : List (Nat × Nat × Nat × Nat)} {hs : List String} {b0 : Int} {As : List Value} {x0 : Option zRx} {K : Int → zSt → Option R}
    (hc : Cond.static y ∈ WS ∧ Cond.initialized y.cls ∈ WS ∧ Cond.codeWith y cy mL (some .int) hh ∈ WS ∧ (y.cls ≠ "java/lang/invoke/MethodHandle" ∧ y.cls ≠ "java/lang/invoke/VarHandle" ∧ (parseMethodDescriptor y.desc).map (fun d => d.parameters.length) = some np)) (hl : Cond.methodLink own idx y ∈ WS)
    (hM : ∀ (l : Launch) (D : va_G) (A : Nat → Prop), l.stackTraces = false → (∀ S, va_D A (wC cI cZ ad S)) → RG bsC (zpC S) → 0 ≤ b0 → ∀ r, x0 = some r → (∀ E C', r = .inr (E, C') → E ∈ hs) → zMw l y cy mL hh fr2 lo2 D cI cZ ads A (wC cI cZ ad) As (zpC S) r (zcd r) (zrs r) (inR (zcd r) ∧ RG bsC (zrs r)))
    (hR : fr2 + 1 ≤ 11 ∧ 8 + (mL + 11) + lo2 ≤ 400) (hn : As.length = np) {st0 : List Value} (hst0 : st0 = As.reverse ++ st) (hW : (st.map fun v => v.category).sum ≤ 8) (hd : decode cc pc = .ok (.invokestatic idx, 3)) (h : zbw hs b0 x0 S K = some r9)
    (kk : ∀ x S2, inR x → K x S2 = some r9 → zk (zup Γ (k + 1) (n + 6)) (wL cI cZ ad) (RG bsL) S2 lv (pc + 3) (.int (zI x) :: st)) : zk Γ (wL cI cZ ad) (RG bsL) S lv pc st0 := by
  obtain ⟨p, l, e, R, s, m, args, below, meth, c, Q, D, A, k0, n0, nL⟩ := Γ
  obtain ⟨hx, hb, hml, hown, hts, ⟨hK, hN⟩, hD, rfl, hk0, hn0, rfl⟩ := F
  obtain ⟨hst, hT, hKJ, hX, hbl, rfl, rfl, rfl, hr, hlk⟩ := X
  obtain ⟨rfl, rfl⟩ := hkn
  obtain ⟨r, rfl, h0, hE, h2⟩ := zbw_e h
  obtain ⟨c1, c2, c3, c4⟩ := hc
  have hg : GoodIn WS (va_wsS own idx y (Cond.codeWith y cy mL (some .int) hh :: WS)) := WS_sub (fun _ h => h) (fun w hw => by
    simp only [va_wsS, List.mem_append, List.mem_cons, List.not_mem_nil, or_false] at hw
    rcases hw with (rfl | rfl | rfl) | rfl | hw
    · exact hl
    · exact c1
    · exact c2
    · exact c3
    · exact hw)
  have hDC : ∀ P, va_D (ZC ad 38) (wC cI cZ ad P) := fun P => by
    have h := hD (zjn P (zpM S))
    rw [wL_j] at h
    exact (zpre_D (wC_ix cI cZ ad P) h).1
  obtain ⟨-, hsubA, hexA⟩ := zpre_D (wC_ix cI cZ ad (zpC S)) (hD S)
  intro hG H locs ls hP hS hh2
  have hP : va_P D vwCl (wC cI cZ ad (zpC S) ++ wE cI ad S) H := hP
  have hPC := zpre_Q hP
  have hM1 := hM l D (ZC ad 38) hst hDC (RG_C hG) h0 r rfl hE
  have q1 : zmc r ≤ 1 := by cases r <;> exact Nat.le_of_ble_eq_true rfl
  have q2 : zms r ≤ 6 := by cases r <;> exact Nat.le_of_ble_eq_true rfl
  subst hst0
  refine va_calli (vx_runSW (As := As) (rest := st) ⟨hx, hb, hml, hown, hts⟩ hM1 (vx_cwSW np hts hg rfl (by cases r <;> rfl) (by cases r <;> rfl) c4 ⟨hR.1, hR.2⟩) ⟨fun a U g mk q => ⟨q.1, q.2.1, zKJ.same (u := U) (U := U.calling g mk a) rfl q.2.2.1, zT.same (u := U) (U := U.calling g mk a) rfl rfl q.2.2.2⟩, fun U hU hW => ⟨rfl, by rw [hU]; exact hPC, zKJ.warm hW hKJ, (zT.go hW (by rw [hU]; exact hS.2.1) hT).narrow hsubA⟩⟩ rfl hn hh2.1 rfl (lv_room hW) hd ⟨by show k0 + zmc r ≤ 119; omega, by show n0 + zms r ≤ 2739; omega⟩) hS (fun q _ h => hsubA q h) hsubA (fun r0 u t H1 locs1 ht hvm hw hB hz1 hk1 hS1 => ?_)
  obtain ⟨rfl, hx1, hG1⟩ := hw
  rw [ht] at hB
  refine W.widen (k := k0 + 1) (n := n0 + 6) (by omega) (by omega) ?_
  exact kk _ _ hx1 h2 (RG_J hG1 hG) H1 locs1 ls (by rw [wL_j]; exact zpre_P hP hexA hk1 hB) hS1 hh2
end RowsL
set_option maxRecDepth 100000 in
theorem aL_1 (cI cZ : ClassId) (ad : Nat → Nat) : ∀ S, (wL cI cZ ad S)[38]? = some (ad 38, .inl (cI, 12, .inl (zA (S.2 1)))) := fun _ => rfl
set_option maxRecDepth 100000 in
theorem sL_1 (cI cZ : ClassId) (ad : Nat → Nat) : ∀ S i v, 0 ≤ i → (wL cI cZ ad S).set 38 (ad 38, .inl (cI, 12, .inl (upd (zA (S.2 1)) i.toNat (zI v)))) = wL cI cZ ad (zput S 1 i v) := fun S i v h => by rw [zA_put h]; rfl
set_option maxRecDepth 100000 in
theorem aL_3 (cI cZ : ClassId) (ad : Nat → Nat) : ∀ S, (wL cI cZ ad S)[39]? = some (ad 39, .inl (cI, 60, .inl (zA (S.2 3)))) := fun _ => rfl
set_option maxRecDepth 100000 in
theorem sL_3 (cI cZ : ClassId) (ad : Nat → Nat) : ∀ S i v, 0 ≤ i → (wL cI cZ ad S).set 39 (ad 39, .inl (cI, 60, .inl (upd (zA (S.2 3)) i.toNat (zI v)))) = wL cI cZ ad (zput S 3 i v) := fun S i v h => by rw [zA_put h]; rfl
set_option maxRecDepth 100000 in
theorem aL_5 (cI cZ : ClassId) (ad : Nat → Nat) : ∀ S, (wL cI cZ ad S)[40]? = some (ad 40, .inl (cI, 60, .inl (zA (S.2 5)))) := fun _ => rfl
set_option maxRecDepth 100000 in
theorem sL_5 (cI cZ : ClassId) (ad : Nat → Nat) : ∀ S i v, 0 ≤ i → (wL cI cZ ad S).set 40 (ad 40, .inl (cI, 60, .inl (upd (zA (S.2 5)) i.toNat (zI v)))) = wL cI cZ ad (zput S 5 i v) := fun S i v h => by rw [zA_put h]; rfl
set_option maxRecDepth 100000 in
theorem aL_7 (cI cZ : ClassId) (ad : Nat → Nat) : ∀ S, (wL cI cZ ad S)[41]? = some (ad 41, .inl (cI, 60, .inl (zA (S.2 7)))) := fun _ => rfl
set_option maxRecDepth 100000 in
theorem sL_7 (cI cZ : ClassId) (ad : Nat → Nat) : ∀ S i v, 0 ≤ i → (wL cI cZ ad S).set 41 (ad 41, .inl (cI, 60, .inl (upd (zA (S.2 7)) i.toNat (zI v)))) = wL cI cZ ad (zput S 7 i v) := fun S i v h => by rw [zA_put h]; rfl
end
section
noncomputable def b_L_nth_9 (a1 : Int) (a2 : Int) (j1 : Int → zSt → Option zRes) (rec1 : Int → Int → Int → zSt → Option zRes) (v2 : Int) (v3 : Int) (v4 : Int) (S2 : zSt) : Option zRes := if a1 ≤ v4 then (j1 v2 S2) else (zld (S2.2 1) 12 v4 fun x1 => zj1 (fun (v5 : Int) (S3 : zSt) => zar (v3 - v5) fun x2 => zld (S3.2 1) 12 v4 fun x3 => zj1 (fun (v6 : Int) (S4 : zSt) => zar (v4 + 1) fun x4 => rec1 v6 x2 x4 S4) fun j2 => zj0 (fun (S5 : zSt) => j2 v2 S5) fun j3 => if x3 = a2 then (if x2 = 0 then (j2 v4 S3) else (j3 S3)) else (j3 S3)) fun j4 => if x1 = a2 then (j4 1 S2) else (j4 0 S2))
noncomputable def m_L_nth (S : zSt) (a1 : Int) (a2 : Int) (a3 : Int) : Option zRes := zj1 (fun (v1 : Int) (S1 : zSt) => some (v1, S1)) fun j1 => zl3 1000 (b_L_nth_9 a1 a2 j1) (-1) a3 0 S
set_option maxRecDepth 100000 in
theorem c_L_nth {l : Launch} {D : va_G} {A : Nat → Prop} {cI cZ : ClassId} {ad : Nat → Nat} (hD : ∀ S, va_D A (wL cI cZ ad S)) {S : zSt} (hG : RG bsL S) {a1 : Int} (ra1 : inR a1) {a2 : Int} (ra2 : inR a2) {a3 : Int} (ra3 : inR a3) {x : Int} {S' : zSt} (h : m_L_nth S a1 a2 a3 = some (x, S')) : zMi l yL_nth cL_nth 7 .int { frames := 0, cells := 0, slots := 0, locals := 0 } D cI cZ A (wL cI cZ ad) (RG bsL) [.ref (ad 38), .int (zI a1), .int (zI a2), .int (zI a3)] S x S' := by
  refine k_start_i (by decide +kernel) hD hG (Nat.le_of_ble_eq_true rfl) (fun Γ F hQ => ?_)
  have F : zF Γ (wL cI cZ ad) cI cZ cL_nth { frames := 0, cells := 0, slots := 0, locals := 0 } 7 RL := F
  refine k_sub [0, 1, 2, 3] (lv' := [(0, .ref (ad 38)), (1, .int (zI a1)), (2, .int (zI a2)), (3, .int (zI a3))]) rfl ?_
  refine k_iconst F dL_nth_0 ?_
  refine k_istore F dL_nth_1 (by decide) rfl ?_
  refine k_iload_n F dL_nth_3 rfl 4 rfl ?_
  refine k_istore F dL_nth_4 (by decide) rfl ?_
  refine k_iconst F dL_nth_6 ?_
  refine k_istore F dL_nth_7 (by decide) rfl ?_
  refine zj1_e (PJ := (fun v1 S1 => inR v1 → zk Γ (wL cI cZ ad) (RG bsL) S1 [(4, .int (zI v1))] 61 [])) h (fun v1 S1 h1 r1 => ?_) (fun j1 J1 h2 => ?_)
  · refine k_iload F dL_nth_61 0 rfl ?_
    exact k_iret F hQ r1 dL_nth_63 h1
  · refine k_sub [3, 4, 5, 2, 1, 0] rfl (zl3_e (F := (b_L_nth_9 a1 a2 j1)) (fun v2 v3 v4 S2 => inR v2 → inR v3 → inR v4 → zk Γ (wL cI cZ ad) (RG bsL) S2 [(0, .ref (ad 38)), (1, .int (zI a1)), (2, .int (zI a2)), (4, .int (zI v2)), (5, .int (zI v3)), (6, .int (zI v4))] 9 []) (fun rec1 v2 v3 v4 S2 hrec1 h3 r2 r3 r4 => ?_) 1000 (-1) a3 0 S h2 iR_m1 ra3 iR_0)
    refine k_iload F dL_nth_9 5 rfl ?_
    refine k_iload_n F dL_nth_11 rfl 1 rfl ?_
    refine k_icmp_ge F r4 ra1 (tgt := 61) dL_nth_12 (by decide) h3 (fun h4 => ?_) (fun h5 => ?_)
    · exact k_sub [3] rfl (J1 v2 S2 h4 r2)
    · refine k_iload F dL_nth_15 4 rfl ?_
      refine k_aload_n F dL_nth_17 rfl 0 rfl ?_
      refine k_iload F dL_nth_18 5 rfl ?_
      refine k_iald F rfl 38 (aL_1 cI cZ ad) r4 dL_nth_20 h5 (fun x1 r5 h6 => ?_)
      refine k_iload_n F dL_nth_21 rfl 2 rfl ?_
      refine zj1_e (PJ := (fun v5 S3 => inR v5 → zk Γ (wL cI cZ ad) (RG bsL) S3 [(0, .ref (ad 38)), (1, .int (zI a1)), (2, .int (zI a2)), (4, .int (zI v2)), (6, .int (zI v4))] 30 [.int (zI v5), .int (zI v3)])) h6 (fun v5 S3 h7 r6 => ?_) (fun j4 J4 h19 => ?_)
      · refine k_isub F dL_nth_30 h7 (fun x2 r7 h8 => ?_)
        refine k_istore F dL_nth_31 (by decide) rfl ?_
        refine k_aload_n F dL_nth_33 rfl 1 rfl ?_
        refine k_iload F dL_nth_34 5 rfl ?_
        refine k_iald F rfl 38 (aL_1 cI cZ ad) r4 dL_nth_36 h8 (fun x3 r8 h9 => ?_)
        refine k_iload_n F dL_nth_37 rfl 3 rfl ?_
        refine zj1_e (PJ := (fun v6 S4 => inR v6 → zk Γ (wL cI cZ ad) (RG bsL) S4 [(0, .ref (ad 38)), (1, .int (zI a1)), (2, .int (zI a2)), (5, .int (zI x2)), (6, .int (zI v4))] 53 [.int (zI v6)])) h9 (fun v6 S4 h10 r9 => ?_) (fun j2 J2 h12 => ?_)
        · refine k_istore F dL_nth_53 (by decide) rfl ?_
          refine k_iinc F (k := 5) (lv' := fun y => [(6, .int (zI y)), (4, .int (zI v6)), (0, .ref (ad 38)), (1, .int (zI a1)), (2, .int (zI a2)), (5, .int (zI x2))]) dL_nth_55 rfl (by decide) (fun _ => rfl) h10 (fun x4 r10 h11 => ?_)
          refine k_goto F (tgt := 9) dL_nth_58 (by decide) ?_
          exact k_sub [2, 3, 4, 1, 5, 0] rfl (hrec1 v6 x2 x4 S4 h11 r9 r7 r10)
        · refine zj0_e (PJ := (fun S5 => zk Γ (wL cI cZ ad) (RG bsL) S5 [(0, .ref (ad 38)), (1, .int (zI a1)), (2, .int (zI a2)), (4, .int (zI v2)), (5, .int (zI x2)), (6, .int (zI v4))] 51 [])) h12 (fun S5 h13 => ?_) (fun j3 J3 h14 => ?_)
          · refine k_iload F dL_nth_51 3 rfl ?_
            exact k_sub [0, 1, 2, 4, 5] rfl (J2 v2 S5 h13 r2)
          · refine k_icmp_ne F r8 ra2 (tgt := 51) dL_nth_38 (by decide) h14 (fun h15 => ?_) (fun h16 => ?_)
            · exact k_sub [1, 2, 3, 4, 0, 5] rfl (J3 S3 h15)
            · refine k_iload F dL_nth_41 0 rfl ?_
              refine k_if_ne F r7 (tgt := 51) dL_nth_43 (by decide) h16 (fun h17 => ?_) (fun h18 => ?_)
              · exact k_sub [1, 2, 3, 4, 0, 5] rfl (J3 S3 h17)
              · refine k_iload F dL_nth_46 5 rfl ?_
                refine k_goto F (tgt := 53) dL_nth_48 (by decide) ?_
                exact k_sub [1, 2, 3, 0, 5] rfl (J2 v4 S3 h18 r4)
      · refine k_icmp_ne F r5 ra2 (tgt := 29) dL_nth_22 (by decide) h19 (fun h20 => ?_) (fun h21 => ?_)
        · refine k_iconst F dL_nth_29 ?_
          exact k_sub [0, 1, 2, 3, 5] rfl (J4 0 S2 h20 iR_0)
        · refine k_iconst F dL_nth_25 ?_
          refine k_goto F (tgt := 30) dL_nth_26 (by decide) ?_
          exact k_sub [0, 1, 2, 3, 5] rfl (J4 1 S2 h21 iR_1)
noncomputable def b_L_near_3 (a1 : Int) (a2 : Int) (a3 : Int) (j1 : zSt → Option zRes) (rec1 : Int → zSt → Option zRes) (v1 : Int) (S2 : zSt) : Option zRes := if 12 ≤ v1 then (j1 S2) else (zar (a3 - v1) fun x1 => zj0 (fun (S3 : zSt) => zar (a3 + v1) fun x2 => zj0 (fun (S4 : zSt) => zar (v1 + 1) fun x3 => rec1 x3 S4) fun j2 => if a1 ≤ x2 then (j2 S3) else (zar (a3 + v1) fun x4 => zld (S3.2 1) 12 x4 fun x5 => if x5 = a2 then (zar (a3 + v1) fun x6 => some (x6, S3)) else (j2 S3))) fun j3 => if x1 < 0 then (j3 S2) else (zar (a3 - v1) fun x7 => if a1 ≤ x7 then (j3 S2) else (zar (a3 - v1) fun x8 => zld (S2.2 1) 12 x8 fun x9 => if x9 = a2 then (zar (a3 - v1) fun x10 => some (x10, S2)) else (j3 S2))))
noncomputable def m_L_near (S : zSt) (a1 : Int) (a2 : Int) (a3 : Int) : Option zRes := zj0 (fun (S1 : zSt) => some ((-1), S1)) fun j1 => zl1 1000 (b_L_near_3 a1 a2 a3 j1) 0 S
set_option maxRecDepth 100000 in
theorem c_L_near {l : Launch} {D : va_G} {A : Nat → Prop} {cI cZ : ClassId} {ad : Nat → Nat} (hD : ∀ S, va_D A (wL cI cZ ad S)) {S : zSt} (hG : RG bsL S) {a1 : Int} (ra1 : inR a1) {a2 : Int} (ra2 : inR a2) {a3 : Int} (ra3 : inR a3) {x : Int} {S' : zSt} (h : m_L_near S a1 a2 a3 = some (x, S')) : zMi l yL_near cL_near 5 .int { frames := 0, cells := 0, slots := 0, locals := 0 } D cI cZ A (wL cI cZ ad) (RG bsL) [.ref (ad 38), .int (zI a1), .int (zI a2), .int (zI a3)] S x S' := by
  refine k_start_i (by decide +kernel) hD hG (Nat.le_of_ble_eq_true rfl) (fun Γ F hQ => ?_)
  have F : zF Γ (wL cI cZ ad) cI cZ cL_near { frames := 0, cells := 0, slots := 0, locals := 0 } 5 RL := F
  refine k_sub [0, 1, 2, 3] (lv' := [(0, .ref (ad 38)), (1, .int (zI a1)), (2, .int (zI a2)), (3, .int (zI a3))]) rfl ?_
  refine k_iconst F dL_near_0 ?_
  refine k_istore F dL_near_1 (by decide) rfl ?_
  refine zj0_e (PJ := (fun S1 => zk Γ (wL cI cZ ad) (RG bsL) S1 [] 69 [])) h (fun S1 h1 => ?_) (fun j1 J1 h2 => ?_)
  · refine k_iconst F dL_near_69 ?_
    exact k_iret F hQ iR_m1 dL_near_70 h1
  · refine k_sub [1, 2, 3, 4, 0] rfl (zl1_e (F := (b_L_near_3 a1 a2 a3 j1)) (fun v1 S2 => inR v1 → zk Γ (wL cI cZ ad) (RG bsL) S2 [(0, .ref (ad 38)), (1, .int (zI a1)), (2, .int (zI a2)), (3, .int (zI a3)), (4, .int (zI v1))] 3 []) (fun rec1 v1 S2 hrec1 h3 r1 => ?_) 1000 0 S h2 iR_0)
    refine k_iload F dL_near_3 4 rfl ?_
    refine k_bipush F dL_near_5 bp_12 ?_
    refine k_icmp_ge F r1 iR_12 (tgt := 69) dL_near_7 (by decide) h3 (fun h4 => ?_) (fun h5 => ?_)
    · exact k_sub [] rfl (J1 S2 h4)
    · refine k_iload_n F dL_near_10 rfl 3 rfl ?_
      refine k_iload F dL_near_11 4 rfl ?_
      refine k_isub F dL_near_13 h5 (fun x1 r2 h6 => ?_)
      refine zj0_e (PJ := (fun S3 => zk Γ (wL cI cZ ad) (RG bsL) S3 [(0, .ref (ad 38)), (1, .int (zI a1)), (2, .int (zI a2)), (3, .int (zI a3)), (4, .int (zI v1))] 40 [])) h6 (fun S3 h7 => ?_) (fun j3 J3 h19 => ?_)
      · refine k_iload_n F dL_near_40 rfl 3 rfl ?_
        refine k_iload F dL_near_41 4 rfl ?_
        refine k_iadd F dL_near_43 h7 (fun x2 r3 h8 => ?_)
        refine k_iload_n F dL_near_44 rfl 1 rfl ?_
        refine zj0_e (PJ := (fun S4 => zk Γ (wL cI cZ ad) (RG bsL) S4 [(0, .ref (ad 38)), (1, .int (zI a1)), (2, .int (zI a2)), (3, .int (zI a3)), (4, .int (zI v1))] 63 [])) h8 (fun S4 h9 => ?_) (fun j2 J2 h11 => ?_)
        · refine k_iinc F (k := 4) (lv' := fun y => [(4, .int (zI y)), (0, .ref (ad 38)), (1, .int (zI a1)), (2, .int (zI a2)), (3, .int (zI a3))]) dL_near_63 rfl (by decide) (fun _ => rfl) h9 (fun x3 r4 h10 => ?_)
          refine k_goto F (tgt := 3) dL_near_66 (by decide) ?_
          exact k_sub [1, 2, 3, 4, 0] rfl (hrec1 x3 S4 h10 r4)
        · refine k_icmp_ge F r3 ra1 (tgt := 63) dL_near_45 (by decide) h11 (fun h12 => ?_) (fun h13 => ?_)
          · exact k_sub [0, 1, 2, 3, 4] rfl (J2 S3 h12)
          · refine k_aload_n F dL_near_48 rfl 0 rfl ?_
            refine k_iload_n F dL_near_49 rfl 3 rfl ?_
            refine k_iload F dL_near_50 4 rfl ?_
            refine k_iadd F dL_near_52 h13 (fun x4 r5 h14 => ?_)
            refine k_iald F rfl 38 (aL_1 cI cZ ad) r5 dL_near_53 h14 (fun x5 r6 h15 => ?_)
            refine k_iload_n F dL_near_54 rfl 2 rfl ?_
            refine k_icmp_ne F r6 ra2 (tgt := 63) dL_near_55 (by decide) h15 (fun h16 => ?_) (fun h17 => ?_)
            · exact k_sub [0, 1, 2, 3, 4] rfl (J2 S3 h16)
            · refine k_iload_n F dL_near_58 rfl 3 rfl ?_
              refine k_iload F dL_near_59 4 rfl ?_
              refine k_iadd F dL_near_61 h17 (fun x6 r7 h18 => ?_)
              exact k_iret F hQ r7 dL_near_62 h18
      · refine k_if_lt F r2 (tgt := 40) dL_near_14 (by decide) h19 (fun h20 => ?_) (fun h21 => ?_)
        · exact k_sub [0, 1, 2, 3, 4] rfl (J3 S2 h20)
        · refine k_iload_n F dL_near_17 rfl 3 rfl ?_
          refine k_iload F dL_near_18 4 rfl ?_
          refine k_isub F dL_near_20 h21 (fun x7 r8 h22 => ?_)
          refine k_iload_n F dL_near_21 rfl 1 rfl ?_
          refine k_icmp_ge F r8 ra1 (tgt := 40) dL_near_22 (by decide) h22 (fun h23 => ?_) (fun h24 => ?_)
          · exact k_sub [0, 1, 2, 3, 4] rfl (J3 S2 h23)
          · refine k_aload_n F dL_near_25 rfl 0 rfl ?_
            refine k_iload_n F dL_near_26 rfl 3 rfl ?_
            refine k_iload F dL_near_27 4 rfl ?_
            refine k_isub F dL_near_29 h24 (fun x8 r9 h25 => ?_)
            refine k_iald F rfl 38 (aL_1 cI cZ ad) r9 dL_near_30 h25 (fun x9 r10 h26 => ?_)
            refine k_iload_n F dL_near_31 rfl 2 rfl ?_
            refine k_icmp_ne F r10 ra2 (tgt := 40) dL_near_32 (by decide) h26 (fun h27 => ?_) (fun h28 => ?_)
            · exact k_sub [0, 1, 2, 3, 4] rfl (J3 S2 h27)
            · refine k_iload_n F dL_near_35 rfl 3 rfl ?_
              refine k_iload F dL_near_36 4 rfl ?_
              refine k_isub F dL_near_38 h28 (fun x10 r11 h29 => ?_)
              exact k_iret F hQ r11 dL_near_39 h29
end
section
/-! MIRRORS of the law's body -/
abbrev zL5 : Type := Int × Int × Int × Int × zSt
noncomputable def b_L_law_48 (cel : Int → Int) (j3 : zSt → Option zL5) (x3 : Int) (rec1 : Int → zSt → Option zL5) (v2 : Int) (S7 : zSt) : Option zL5 := if x3 ≤ v2 then (j3 S7) else (zar (61 + v2) fun x6 => zce cel x6 fun x7 => zbd (m_L_up S7 x7 4) fun x8 S8 => zst S8 1 12 v2 x8 fun S9 => zld (S9.2 1) 12 v2 fun x9 => zby (m_X8_word (zpC S9) x9) S9 fun x10 S10 => zar (v2 + 1) fun x11 => rec1 x11 S10)
noncomputable def m_L_A (cel : Int → Int) (S : zSt) : Option zL5 := zce cel 60 fun x1 => zbd (m_L_up S x1 9) fun x2 S1 => zar (4 + x2) fun x3 => zj0 (fun (S2 : zSt) => zby (m_X8_unit (zpC S2)) S2 fun x4 S3 => zj1 (fun (v1 : Int) (S4 : zSt) => some (v1, x3, 0, 0, S4)) fun j1 => zj0 (fun (S5 : zSt) => j1 0 S5) fun j2 => if x4 = 0 then (zby (m_X8_author (zpC S3) 5 0 0) S3 fun x5 S6 => if x5 = 0 then (j1 1 S6) else (j2 S6)) else (j2 S3)) fun j3 => zl1 1000 (b_L_law_48 cel j3 x3) 0 S1
noncomputable def b_L_law_646 (j1 : Int → zSt → Option zL5) (v1 : Int) (rec1 : Int → Int → zSt → Option zL5) (v6 : Int) (v7 : Int) (S5 : zSt) : Option zL5 := if 13 ≤ v7 then (j1 v6 S5) else (zj1 (fun (v8 : Int) (S6 : zSt) => zar (v7 + 1) fun x4 => rec1 v8 x4 S6) fun j2 => zj0 (fun (S7 : zSt) => j2 0 S7) fun j3 => if v6 = 0 then (j3 S5) else (zby (m_X8_textOf (zpC S5) 0 v7) S5 fun x5 S8 => zj1 (fun (v9 : Int) (S9 : zSt) => if x5 = v9 then (j2 1 S9) else (j3 S9)) fun j4 => if v1 ≤ v7 then (j4 (-1) S8) else (zld (S8.2 1) 12 v7 fun x6 => j4 x6 S8)))
noncomputable def b_L_law_578 (j5 : Int → zSt → Option zL5) (v3 : Int) (rec2 : Int → Int → zSt → Option zL5) (v10 : Int) (v11 : Int) (S10 : zSt) : Option zL5 := if v3 ≤ v11 then (j5 v10 S10) else (zj1 (fun (v12 : Int) (S11 : zSt) => zar (v11 + 1) fun x7 => rec2 v12 x7 S11) fun j6 => zj0 (fun (S12 : zSt) => j6 0 S12) fun j7 => if v10 = 0 then (j7 S10) else (zby (m_X8_told (zpC S10) v11 2) S10 fun x8 S13 => zld (S13.2 5) 60 v11 fun x9 => if x8 = x9 then (zby (m_X8_told (zpC S13) v11 3) S13 fun x10 S14 => zld (S14.2 7) 60 v11 fun x11 => if x10 = x11 then (zby (m_X8_told (zpC S14) v11 1) S14 fun x12 S15 => if x12 = 0 then (j6 1 S15) else (j7 S15)) else (j7 S14)) else (j7 S13)))
noncomputable def b_L_law_405 (a8 : Int) (j10 : Int → Int → zSt → Option zL5) (v14 : Int) (x14 : Int) (x18 : Int) (rec3 : Int → Int → zSt → Option zL5) (v21 : Int) (v22 : Int) (S28 : zSt) : Option zL5 := if a8 ≤ v22 then (j10 x18 v21 S28) else (zj1 (fun (v23 : Int) (S29 : zSt) => zld (S29.2 3) 60 v22 fun x19 => zbd (m_L_near S29 x18 x19 v23) fun x20 S30 => zj1 (fun (v24 : Int) (S31 : zSt) => zld (S31.2 7) 60 v22 fun x21 => zj1 (fun (v25 : Int) (S32 : zSt) => zj1 (fun (v26 : Int) (S33 : zSt) => zar (v21 + v26) fun x22 => zj1 (fun (v27 : Int) (S34 : zSt) => zst S34 7 60 v22 v27 fun S35 => zj1 (fun (v28 : Int) (S36 : zSt) => zst S36 5 60 v22 v28 fun S37 => zar (v22 + 1) fun x23 => rec3 x22 x23 S37) fun j11 => if 0 ≤ x20 then (j11 x20 S35) else (j11 v23 S35)) fun j12 => if 0 ≤ x20 then (j12 0 S33) else (j12 1 S33)) fun j13 => if v24 = v25 then (j13 0 S32) else (j13 1 S32)) fun j14 => if x21 = 1 then (j14 1 S31) else (j14 0 S31)) fun j15 => if 0 ≤ x20 then (j15 0 S30) else (j15 1 S30)) fun j16 => zj0 (fun (S38 : zSt) => zj0 (fun (S39 : zSt) => zld (S39.2 5) 60 v22 fun x24 => j16 x24 S39) fun j17 => if v14 = 0 then (j17 S38) else (zld (S38.2 5) 60 v22 fun x25 => if x25 < x18 then (j17 S38) else (zar (x18 - 1) fun x26 => j16 x26 S38))) fun j18 => if v14 = 0 then (j18 S28) else (zld (S28.2 5) 60 v22 fun x27 => if x27 ≤ x14 then (j18 S28) else (zld (S28.2 5) 60 v22 fun x28 => zar (x28 - 1) fun x29 => j16 x29 S28)))
noncomputable def b_L_law_339 (a6 : Int) (j21 : zSt → Option zL5) (v14 : Int) (rec4 : Int → zSt → Option zL5) (v29 : Int) (S40 : zSt) : Option zL5 := zar (a6 - 1) fun x31 => if x31 ≤ v29 then (j21 S40) else (if v14 = 0 then (j21 S40) else (zar (v29 + 1) fun x32 => zld (S40.2 1) 12 x32 fun x33 => zst S40 1 12 v29 x33 fun S41 => zar (v29 + 1) fun x34 => rec4 x34 S41))
noncomputable def m_L_B (cel : Int → Int) (S : zSt) (a6 : Int) (a7 : Int) (a8 : Int) (a9 : Int) : Option zL5 := zce cel a9 fun x1 => zbd (m_L_up S x1 3) fun x2 S1 => zj3 (fun (v1 : Int) (v2 : Int) (v3 : Int) (S2 : zSt) => zj1 (fun (v4 : Int) (S3 : zSt) => zj1 (fun (v5 : Int) (S4 : zSt) => zar (a9 + 1) fun x3 => some (v5, v1, v3, x3, S4)) fun j1 => zl2 1000 (b_L_law_646 j1 v1) v4 0 S3) fun j5 => zl2 1000 (b_L_law_578 j5 v3) v2 0 S2) fun j8 => if x2 = 0 then (zdq x1 8 fun x37 => zbd (m_L_up S1 x37 4) fun x38 S44 => zdq x1 32 fun x39 => zbd (m_L_up S44 x39 3) fun x40 S45 => zar (1 + x40) fun x41 => zbd (m_L_nth S45 a6 x38 x41) fun x42 S46 => zbw ["java/lang/IllegalStateException"] x38 (m_X8_comment (zpC S46) 0 0 4 x38 x41 1 (x38 % 2)) S46 fun x43 S47 => zj1 (fun (v30 : Int) (S48 : zSt) => zj1 (fun (v31 : Int) (S49 : zSt) => zj1 (fun (v32 : Int) (S50 : zSt) => j8 a6 v31 v32 S50) fun j26 => if x42 < 0 then (j26 a8 S49) else (zst S49 3 60 a8 x38 fun S51 => zst S51 5 60 a8 x42 fun S52 => zst S52 7 60 a8 0 fun S53 => zar (a8 + 1) fun x44 => j26 x44 S53)) fun j27 => if x43 = v30 then (j27 1 S48) else (j27 0 S48)) fun j28 => if 0 ≤ x42 then (j28 a8 S47) else (j28 (-1003) S47)) else (zdq x1 8 fun x13 => zbd (m_L_up S1 x13 13) fun x14 S16 => zdq x1 128 fun x15 => zbd (m_L_up S16 x15 6) fun x16 S17 => zj1 (fun (v13 : Int) (S18 : zSt) => zj1 (fun (v14 : Int) (S19 : zSt) => zj1 (fun (v15 : Int) (S20 : zSt) => zj2 (fun (v16 : Int) (v17 : Int) (S21 : zSt) => zbw ["java/lang/IndexOutOfBoundsException", "java/lang/IllegalStateException"] 0 (m_X8_emend (zpC S21) 0 x14 v13) S21 fun x17 S22 => zj1 (fun (v18 : Int) (S23 : zSt) => j8 v16 v18 a8 S23) fun j9 => if x17 = v17 then (j9 1 S22) else (j9 0 S22)) fun j10 => if v15 = 0 then (zj0 (fun (S24 : zSt) => zj1 (fun (v19 : Int) (S25 : zSt) => zar (a6 - v19) fun x18 => zj1 (fun (v20 : Int) (S26 : zSt) => zst S26 1 12 x14 v20 fun S27 => zl2 1000 (b_L_law_405 a8 j10 v14 x14 x18) v15 0 S27) fun j19 => if v14 = 0 then (j19 v13 S25) else (zld (S25.2 1) 12 x14 fun x30 => j19 x30 S25)) fun j20 => if v14 = 0 then (j20 0 S24) else (j20 1 S24)) fun j21 => zl1 1000 (b_L_law_339 a6 j21 v14) x14 S20) else (j10 a6 v15 S20)) fun j22 => if x14 < a6 then (zj0 (fun (S42 : zSt) => j22 0 S42) fun j23 => if v14 = 0 then (j23 S19) else (if a6 = 1 then (j22 (-1003) S19) else (j23 S19))) else (j22 (-1001) S19)) fun j24 => if 0 ≤ v13 then (j24 0 S18) else (j24 1 S18)) fun j25 => if x16 = 0 then (j25 (-1) S17) else (zdq x1 1024 fun x35 => zbd (m_L_up S17 x35 4) fun x36 S43 => j25 x36 S43))
end
section
set_option maxRecDepth 100000 in
theorem g_L_A {Γ : zG} {cI cZ : ClassId} {ad ads : Nat → Nat} {b L k9 n9 : Nat} {xs : Nat → Int32} (hL : L ≤ 260) (F : zF Γ (wL cI cZ ad) cI cZ cL_law room_1 18 RL) (X : zLX Γ ads cI cZ b L xs) {S : zSt} {r : zL5} (h : m_L_A (cel9 L xs) S  = some r) (KK : inR r.1 → inR r.2.1 → inR r.2.2.1 → inR r.2.2.2.1 → zk Γ (wL cI cZ ad) (RG bsL) r.2.2.2.2 [(0, .ref b), (1, .ref (ad 0)), (2, .ref (ad 38)), (3, .ref (ad 39)), (4, .ref (ad 40)), (5, .ref (ad 41)), (6, .int (zI r.2.1)), (7, .int (zI r.1)), (8, .int (zI r.2.2.1)), (9, .int (zI r.2.2.2.1))] 117 []) : zk Γ (wL cI cZ ad) (RG bsL) S [(0, .ref b), (1, .ref (ad 0)), (2, .ref (ad 38)), (3, .ref (ad 39)), (4, .ref (ad 40)), (5, .ref (ad 41))] 30 [] := by
  refine k_iconst F dL_law_30 ?_
  refine k_aload_n F dL_law_31 rfl 0 rfl ?_
  refine k_bipush F dL_law_32 bp_60 ?_
  refine k_cell F X hL wm_309 (Nat.le_of_ble_eq_true rfl) dL_law_34 h (fun x1 r1 h1 => ?_)
  refine k_bipush F dL_law_37 bp_9 ?_
  refine k_callSi F cal_L_up wm_310 (fun l D A hD hG x S' h => c_L_up hD hG r1 iR_9 h) ⟨rfl, rfl, Nat.le_of_ble_eq_true rfl, Nat.le_of_ble_eq_true rfl⟩ rfl rfl (Nat.le_of_ble_eq_true rfl) dL_law_39 h1 (fun x2 S1 r2 b1 h2 => ?_)
  refine k_iadd F dL_law_42 h2 (fun x3 r3 h3 => ?_)
  refine k_istore F dL_law_43 (by decide) rfl ?_
  refine k_iconst F dL_law_45 ?_
  refine k_istore F dL_law_46 (by decide) rfl ?_
  refine zj0_e (PJ := (fun S2 => zk Γ (wL cI cZ ad) (RG bsL) S2 [(0, .ref b), (1, .ref (ad 0)), (2, .ref (ad 38)), (3, .ref (ad 39)), (4, .ref (ad 40)), (5, .ref (ad 41)), (6, .int (zI x3))] 87 [])) h3 (fun S2 h4 => ?_) (fun j3 J3 h15 => ?_)
  · refine k_aload_n F dL_law_87 rfl 1 rfl ?_
    refine k_callY F X cal_X8_unit wm_314 (fun l D A hst hD hG r' h => c_X8_unit hst hD hG h) ⟨Nat.le_of_ble_eq_true rfl, Nat.le_of_ble_eq_true rfl⟩ rfl rfl (Nat.le_of_ble_eq_true rfl) dL_law_88 h4 (fun x4 S3 r4 h5 => ?_)
    refine zj1_e (PJ := (fun v1 S4 => inR v1 → zk Γ (wL cI cZ ad) (RG bsL) S4 [(0, .ref b), (1, .ref (ad 0)), (2, .ref (ad 38)), (3, .ref (ad 39)), (4, .ref (ad 40)), (5, .ref (ad 41)), (6, .int (zI x3))] 109 [.int (zI v1)])) h5 (fun v1 S4 h6 r5 => ?_) (fun j1 J1 h7 => ?_)
    · refine k_istore F dL_law_109 (by decide) rfl ?_
      refine k_iconst F dL_law_111 ?_
      refine k_istore F dL_law_112 (by decide) rfl ?_
      refine k_iconst F dL_law_114 ?_
      refine k_istore F dL_law_115 (by decide) rfl ?_
      cases h6
      exact k_sub [3, 4, 5, 6, 7, 8, 9, 2, 1, 0] rfl (KK r5 r3 iR_0 iR_0)
    · refine zj0_e (PJ := (fun S5 => zk Γ (wL cI cZ ad) (RG bsL) S5 [(0, .ref b), (1, .ref (ad 0)), (2, .ref (ad 38)), (3, .ref (ad 39)), (4, .ref (ad 40)), (5, .ref (ad 41)), (6, .int (zI x3))] 108 [])) h7 (fun S5 h8 => ?_) (fun j2 J2 h9 => ?_)
      · refine k_iconst F dL_law_108 ?_
        exact k_sub [0, 1, 2, 3, 4, 5, 6] rfl (J1 0 S5 h8 iR_0)
      · refine k_if_ne F r4 (tgt := 108) dL_law_91 (by decide) h9 (fun h10 => ?_) (fun h11 => ?_)
        · exact k_sub [0, 1, 2, 3, 4, 5, 6] rfl (J2 S3 h10)
        · refine k_aload_n F dL_law_94 rfl 1 rfl ?_
          refine k_iconst F dL_law_95 ?_
          refine k_iconst F dL_law_96 ?_
          refine k_iconst F dL_law_97 ?_
          refine k_callY F X cal_X8_author wm_318 (fun l D A hst hD hG r' h => c_X8_author hst hD hG iR_5 iR_0 iR_0 h) ⟨Nat.le_of_ble_eq_true rfl, Nat.le_of_ble_eq_true rfl⟩ rfl rfl (Nat.le_of_ble_eq_true rfl) dL_law_98 h11 (fun x5 S6 r6 h12 => ?_)
          refine k_if_ne F r6 (tgt := 108) dL_law_101 (by decide) h12 (fun h13 => ?_) (fun h14 => ?_)
          · exact k_sub [0, 1, 2, 3, 4, 5, 6] rfl (J2 S6 h13)
          · refine k_iconst F dL_law_104 ?_
            refine k_goto F (tgt := 109) dL_law_105 (by decide) ?_
            exact k_sub [0, 1, 2, 3, 4, 5, 6] rfl (J1 1 S6 h14 iR_1)
  · refine k_sub [2, 3, 4, 5, 6, 7, 1, 0] rfl (zl1_e (F := (b_L_law_48 (cel9 L xs) j3 x3)) (fun v2 S7 => inR v2 → zk Γ (wL cI cZ ad) (RG bsL) S7 [(0, .ref b), (1, .ref (ad 0)), (2, .ref (ad 38)), (3, .ref (ad 39)), (4, .ref (ad 40)), (5, .ref (ad 41)), (6, .int (zI x3)), (7, .int (zI v2))] 48 []) (fun rec1 v2 S7 hrec1 h16 r7 => ?_) 1000 0 S1 h15 iR_0)
    refine k_iload F dL_law_48 7 rfl ?_
    refine k_iload F dL_law_50 6 rfl ?_
    refine k_icmp_ge F r7 r3 (tgt := 87) dL_law_52 (by decide) h16 (fun h17 => ?_) (fun h18 => ?_)
    · exact k_sub [0, 1, 2, 3, 4, 5, 6] rfl (J3 S7 h17)
    · refine k_aload_n F dL_law_55 rfl 2 rfl ?_
      refine k_iload F dL_law_56 7 rfl ?_
      refine k_aload_n F dL_law_58 rfl 0 rfl ?_
      refine k_bipush F dL_law_59 bp_61 ?_
      refine k_iload F dL_law_61 7 rfl ?_
      refine k_iadd F dL_law_63 h18 (fun x6 r8 h19 => ?_)
      refine k_cell F X hL wm_309 (Nat.le_of_ble_eq_true rfl) dL_law_64 h19 (fun x7 r9 h20 => ?_)
      refine k_iconst F dL_law_67 ?_
      refine k_callSi F cal_L_up wm_310 (fun l D A hD hG x S' h => c_L_up hD hG r9 iR_4 h) ⟨rfl, rfl, Nat.le_of_ble_eq_true rfl, Nat.le_of_ble_eq_true rfl⟩ rfl rfl (Nat.le_of_ble_eq_true rfl) dL_law_68 h20 (fun x8 S8 r10 b2 h21 => ?_)
      refine k_iast F rfl 38 (aL_1 cI cZ ad) (sL_1 cI cZ ad) (by decide) r7 r10 dL_law_71 h21 (fun S9 h22 => ?_)
      refine k_aload_n F dL_law_72 rfl 1 rfl ?_
      refine k_aload_n F dL_law_73 rfl 2 rfl ?_
      refine k_iload F dL_law_74 7 rfl ?_
      refine k_iald F rfl 38 (aL_1 cI cZ ad) r7 dL_law_76 h22 (fun x9 r11 h23 => ?_)
      refine k_callY F X cal_X8_word wm_322 (fun l D A hst hD hG r' h => c_X8_word hst hD hG r11 h) ⟨Nat.le_of_ble_eq_true rfl, Nat.le_of_ble_eq_true rfl⟩ rfl rfl (Nat.le_of_ble_eq_true rfl) dL_law_77 h23 (fun x10 S10 r12 h24 => ?_)
      refine k_pop F rfl dL_law_80 ?_
      refine k_iinc F (k := 7) (lv' := fun y => [(7, .int (zI y)), (0, .ref b), (1, .ref (ad 0)), (2, .ref (ad 38)), (3, .ref (ad 39)), (4, .ref (ad 40)), (5, .ref (ad 41)), (6, .int (zI x3))]) dL_law_81 rfl (by decide) (fun _ => rfl) h24 (fun x11 r13 h25 => ?_)
      refine k_goto F (tgt := 48) dL_law_84 (by decide) ?_
      exact k_sub [1, 2, 3, 4, 5, 6, 7, 0] rfl (hrec1 x11 S10 h25 r13)
set_option maxRecDepth 100000 in
theorem g_L_B {Γ : zG} {cI cZ : ClassId} {ad ads : Nat → Nat} {b L k9 n9 : Nat} {xs : Nat → Int32} (hL : L ≤ 260) (F : zF Γ (wL cI cZ ad) cI cZ cL_law room_1 18 RL) (X : zLX Γ ads cI cZ b L xs) (hkn : zKN Γ k9 n9) (hk9 : k9 + 1 ≤ 119 ∧ n9 + 6 ≤ 2739) {S : zSt} {a6 : Int} (ra6 : inR a6) {a7 : Int} (ra7 : inR a7) {a8 : Int} (ra8 : inR a8) {a9 : Int} (ra9 : inR a9) {r : zL5} (h : m_L_B (cel9 L xs) S a6 a7 a8 a9 = some r) (KK : inR r.1 → inR r.2.1 → inR r.2.2.1 → inR r.2.2.2.1 → zk (zup Γ (k9 + 1) (n9 + 6)) (wL cI cZ ad) (RG bsL) r.2.2.2.2 [(0, .ref b), (1, .ref (ad 0)), (2, .ref (ad 38)), (3, .ref (ad 39)), (4, .ref (ad 40)), (5, .ref (ad 41)), (6, .int (zI r.2.1)), (7, .int (zI r.1)), (8, .int (zI r.2.2.1)), (9, .int (zI r.2.2.2.1))] 117 []) : zk Γ (wL cI cZ ad) (RG bsL) S [(0, .ref b), (1, .ref (ad 0)), (2, .ref (ad 38)), (3, .ref (ad 39)), (4, .ref (ad 40)), (5, .ref (ad 41)), (6, .int (zI a6)), (7, .int (zI a7)), (8, .int (zI a8)), (9, .int (zI a9))] 129 [] := by
  have F2 := F.up (k := k9 + 1) (n := n9 + 6) hk9.1 hk9.2
  have X2 := zLX_up X (k9 + 1) (n9 + 6)
  refine k_aload_n F dL_law_129 rfl 0 rfl ?_
  refine k_iload F dL_law_130 9 rfl ?_
  refine k_cell F X hL wm_309 (Nat.le_of_ble_eq_true rfl) dL_law_132 h (fun x1 r1 h1 => ?_)
  refine k_istore F dL_law_135 (by decide) rfl ?_
  refine k_iload F dL_law_137 0 rfl ?_
  refine k_iconst F dL_law_139 ?_
  refine k_callSi F cal_L_up wm_310 (fun l D A hD hG x S' h => c_L_up hD hG r1 iR_3 h) ⟨rfl, rfl, Nat.le_of_ble_eq_true rfl, Nat.le_of_ble_eq_true rfl⟩ rfl rfl (Nat.le_of_ble_eq_true rfl) dL_law_140 h1 (fun x2 S1 r2 b1 h2 => ?_)
  refine zj3_e (PJ := (fun v1 v2 v3 S2 => inR v1 → inR v2 → inR v3 → zk (zup Γ (k9 + 1) (n9 + 6)) (wL cI cZ ad) (RG bsL) S2 [(0, .ref b), (1, .ref (ad 0)), (2, .ref (ad 38)), (3, .ref (ad 39)), (4, .ref (ad 40)), (5, .ref (ad 41)), (6, .int (zI v1)), (7, .int (zI v2)), (8, .int (zI v3)), (9, .int (zI a9))] 575 [])) h2 (fun v1 v2 v3 S2 h3 r3 r4 r5 => ?_) (fun j8 J8 h48 => ?_)
  · refine k_iconst F2 dL_law_575 ?_
    refine k_istore F2 dL_law_576 (by decide) rfl ?_
    refine zj1_e (PJ := (fun v4 S3 => inR v4 → zk (zup Γ (k9 + 1) (n9 + 6)) (wL cI cZ ad) (RG bsL) S3 [(0, .ref b), (1, .ref (ad 0)), (2, .ref (ad 38)), (3, .ref (ad 39)), (4, .ref (ad 40)), (5, .ref (ad 41)), (6, .int (zI v1)), (7, .int (zI v4)), (8, .int (zI v3)), (9, .int (zI a9))] 643 [])) h3 (fun v4 S3 h4 r6 => ?_) (fun j5 J5 h26 => ?_)
    · refine k_iconst F2 dL_law_643 ?_
      refine k_istore F2 dL_law_644 (by decide) rfl ?_
      refine zj1_e (PJ := (fun v5 S4 => inR v5 → zk (zup Γ (k9 + 1) (n9 + 6)) (wL cI cZ ad) (RG bsL) S4 [(0, .ref b), (1, .ref (ad 0)), (2, .ref (ad 38)), (3, .ref (ad 39)), (4, .ref (ad 40)), (5, .ref (ad 41)), (6, .int (zI v1)), (7, .int (zI v5)), (8, .int (zI v3)), (9, .int (zI a9))] 696 [])) h4 (fun v5 S4 h5 r7 => ?_) (fun j1 J1 h7 => ?_)
      · refine k_iinc F2 (k := 9) (lv' := fun y => [(9, .int (zI y)), (0, .ref b), (1, .ref (ad 0)), (2, .ref (ad 38)), (3, .ref (ad 39)), (4, .ref (ad 40)), (5, .ref (ad 41)), (6, .int (zI v1)), (7, .int (zI v5)), (8, .int (zI v3))]) dL_law_696 rfl (by decide) (fun _ => rfl) h5 (fun x3 r8 h6 => ?_)
        refine k_goto F2 (tgt := 117) dL_law_699 (by decide) ?_
        cases h6
        exact k_sub [1, 2, 3, 4, 5, 6, 7, 8, 9, 0] rfl (KK r7 r3 r5 r8)
      · refine k_sub [1, 2, 3, 4, 5, 6, 7, 8, 9, 10, 0] rfl (zl2_e (F := (b_L_law_646 j1 v1)) (fun v6 v7 S5 => inR v6 → inR v7 → zk (zup Γ (k9 + 1) (n9 + 6)) (wL cI cZ ad) (RG bsL) S5 [(0, .ref b), (1, .ref (ad 0)), (2, .ref (ad 38)), (3, .ref (ad 39)), (4, .ref (ad 40)), (5, .ref (ad 41)), (6, .int (zI v1)), (7, .int (zI v6)), (8, .int (zI v3)), (9, .int (zI a9)), (11, .int (zI v7))] 646 []) (fun rec1 v6 v7 S5 hrec1 h8 r9 r10 => ?_) 1000 v4 0 S3 h7 r6 iR_0)
        refine k_iload F2 dL_law_646 10 rfl ?_
        refine k_bipush F2 dL_law_648 bp_13 ?_
        refine k_icmp_ge F2 r10 iR_13 (tgt := 696) dL_law_650 (by decide) h8 (fun h9 => ?_) (fun h10 => ?_)
        · exact k_sub [0, 1, 2, 3, 4, 5, 6, 7, 8, 9] rfl (J1 v6 S5 h9 r9)
        · refine k_iload F2 dL_law_653 7 rfl ?_
          refine zj1_e (PJ := (fun v8 S6 => inR v8 → zk (zup Γ (k9 + 1) (n9 + 6)) (wL cI cZ ad) (RG bsL) S6 [(0, .ref b), (1, .ref (ad 0)), (2, .ref (ad 38)), (3, .ref (ad 39)), (4, .ref (ad 40)), (5, .ref (ad 41)), (6, .int (zI v1)), (8, .int (zI v3)), (9, .int (zI a9)), (11, .int (zI v7))] 688 [.int (zI v8)])) h10 (fun v8 S6 h11 r11 => ?_) (fun j2 J2 h13 => ?_)
          · refine k_istore F2 dL_law_688 (by decide) rfl ?_
            refine k_iinc F2 (k := 10) (lv' := fun y => [(11, .int (zI y)), (7, .int (zI v8)), (0, .ref b), (1, .ref (ad 0)), (2, .ref (ad 38)), (3, .ref (ad 39)), (4, .ref (ad 40)), (5, .ref (ad 41)), (6, .int (zI v1)), (8, .int (zI v3)), (9, .int (zI a9))]) dL_law_690 rfl (by decide) (fun _ => rfl) h11 (fun x4 r12 h12 => ?_)
            refine k_goto F2 (tgt := 646) dL_law_693 (by decide) ?_
            exact k_sub [2, 3, 4, 5, 6, 7, 8, 1, 9, 10, 0] rfl (hrec1 v8 x4 S6 h12 r11 r12)
          · refine zj0_e (PJ := (fun S7 => zk (zup Γ (k9 + 1) (n9 + 6)) (wL cI cZ ad) (RG bsL) S7 [(0, .ref b), (1, .ref (ad 0)), (2, .ref (ad 38)), (3, .ref (ad 39)), (4, .ref (ad 40)), (5, .ref (ad 41)), (6, .int (zI v1)), (8, .int (zI v3)), (9, .int (zI a9)), (11, .int (zI v7))] 687 [])) h13 (fun S7 h14 => ?_) (fun j3 J3 h15 => ?_)
            · refine k_iconst F2 dL_law_687 ?_
              exact k_sub [0, 1, 2, 3, 4, 5, 6, 7, 8, 9] rfl (J2 0 S7 h14 iR_0)
            · refine k_if_eq F2 r9 (tgt := 687) dL_law_655 (by decide) h15 (fun h16 => ?_) (fun h17 => ?_)
              · exact k_sub [0, 1, 2, 3, 4, 5, 6, 8, 9, 10] rfl (J3 S5 h16)
              · refine k_aload_n F2 dL_law_658 rfl 1 rfl ?_
                refine k_iconst F2 dL_law_659 ?_
                refine k_iload F2 dL_law_660 10 rfl ?_
                refine k_callY F2 X2 cal_X8_textOf wm_326 (fun l D A hst hD hG r' h => c_X8_textOf hst hD hG iR_0 r10 h) ⟨Nat.le_of_ble_eq_true rfl, Nat.le_of_ble_eq_true rfl⟩ rfl rfl (Nat.le_of_ble_eq_true rfl) dL_law_662 h17 (fun x5 S8 r13 h18 => ?_)
                refine k_iload F2 dL_law_665 10 rfl ?_
                refine k_iload F2 dL_law_667 6 rfl ?_
                refine zj1_e (PJ := (fun v9 S9 => inR v9 → zk (zup Γ (k9 + 1) (n9 + 6)) (wL cI cZ ad) (RG bsL) S9 [(0, .ref b), (1, .ref (ad 0)), (2, .ref (ad 38)), (3, .ref (ad 39)), (4, .ref (ad 40)), (5, .ref (ad 41)), (6, .int (zI v1)), (8, .int (zI v3)), (9, .int (zI a9)), (11, .int (zI v7))] 680 [.int (zI v9), .int (zI x5)])) h18 (fun v9 S9 h19 r14 => ?_) (fun j4 J4 h22 => ?_)
                · refine k_icmp_ne F2 r13 r14 (tgt := 687) dL_law_680 (by decide) h19 (fun h20 => ?_) (fun h21 => ?_)
                  · exact k_sub [0, 1, 2, 3, 4, 5, 6, 7, 8, 9] rfl (J3 S9 h20)
                  · refine k_iconst F2 dL_law_683 ?_
                    refine k_goto F2 (tgt := 688) dL_law_684 (by decide) ?_
                    exact k_sub [0, 1, 2, 3, 4, 5, 6, 7, 8, 9] rfl (J2 1 S9 h21 iR_1)
                · refine k_icmp_ge F2 r10 r3 (tgt := 679) dL_law_669 (by decide) h22 (fun h23 => ?_) (fun h24 => ?_)
                  · refine k_iconst F2 dL_law_679 ?_
                    exact k_sub [0, 1, 2, 3, 4, 5, 6, 8, 9, 10] rfl (J4 (-1) S8 h23 iR_m1)
                  · refine k_aload_n F2 dL_law_672 rfl 2 rfl ?_
                    refine k_iload F2 dL_law_673 10 rfl ?_
                    refine k_iald F2 rfl 38 (aL_1 cI cZ ad) r10 dL_law_675 h24 (fun x6 r15 h25 => ?_)
                    refine k_goto F2 (tgt := 680) dL_law_676 (by decide) ?_
                    exact k_sub [0, 1, 2, 3, 4, 5, 6, 8, 9, 10] rfl (J4 x6 S8 h25 r15)
    · refine k_sub [1, 2, 3, 4, 5, 6, 7, 8, 9, 10, 0] rfl (zl2_e (F := (b_L_law_578 j5 v3)) (fun v10 v11 S10 => inR v10 → inR v11 → zk (zup Γ (k9 + 1) (n9 + 6)) (wL cI cZ ad) (RG bsL) S10 [(0, .ref b), (1, .ref (ad 0)), (2, .ref (ad 38)), (3, .ref (ad 39)), (4, .ref (ad 40)), (5, .ref (ad 41)), (6, .int (zI v1)), (7, .int (zI v10)), (8, .int (zI v3)), (9, .int (zI a9)), (11, .int (zI v11))] 578 []) (fun rec2 v10 v11 S10 hrec2 h27 r16 r17 => ?_) 1000 v2 0 S2 h26 r4 iR_0)
      refine k_iload F2 dL_law_578 10 rfl ?_
      refine k_iload F2 dL_law_580 8 rfl ?_
      refine k_icmp_ge F2 r17 r5 (tgt := 643) dL_law_582 (by decide) h27 (fun h28 => ?_) (fun h29 => ?_)
      · exact k_sub [0, 1, 2, 3, 4, 5, 6, 7, 8, 9] rfl (J5 v10 S10 h28 r16)
      · refine k_iload F2 dL_law_585 7 rfl ?_
        refine zj1_e (PJ := (fun v12 S11 => inR v12 → zk (zup Γ (k9 + 1) (n9 + 6)) (wL cI cZ ad) (RG bsL) S11 [(0, .ref b), (1, .ref (ad 0)), (2, .ref (ad 38)), (3, .ref (ad 39)), (4, .ref (ad 40)), (5, .ref (ad 41)), (6, .int (zI v1)), (8, .int (zI v3)), (9, .int (zI a9)), (11, .int (zI v11))] 635 [.int (zI v12)])) h29 (fun v12 S11 h30 r18 => ?_) (fun j6 J6 h32 => ?_)
        · refine k_istore F2 dL_law_635 (by decide) rfl ?_
          refine k_iinc F2 (k := 10) (lv' := fun y => [(11, .int (zI y)), (7, .int (zI v12)), (0, .ref b), (1, .ref (ad 0)), (2, .ref (ad 38)), (3, .ref (ad 39)), (4, .ref (ad 40)), (5, .ref (ad 41)), (6, .int (zI v1)), (8, .int (zI v3)), (9, .int (zI a9))]) dL_law_637 rfl (by decide) (fun _ => rfl) h30 (fun x7 r19 h31 => ?_)
          refine k_goto F2 (tgt := 578) dL_law_640 (by decide) ?_
          exact k_sub [2, 3, 4, 5, 6, 7, 8, 1, 9, 10, 0] rfl (hrec2 v12 x7 S11 h31 r18 r19)
        · refine zj0_e (PJ := (fun S12 => zk (zup Γ (k9 + 1) (n9 + 6)) (wL cI cZ ad) (RG bsL) S12 [(0, .ref b), (1, .ref (ad 0)), (2, .ref (ad 38)), (3, .ref (ad 39)), (4, .ref (ad 40)), (5, .ref (ad 41)), (6, .int (zI v1)), (8, .int (zI v3)), (9, .int (zI a9)), (11, .int (zI v11))] 634 [])) h32 (fun S12 h33 => ?_) (fun j7 J7 h34 => ?_)
          · refine k_iconst F2 dL_law_634 ?_
            exact k_sub [0, 1, 2, 3, 4, 5, 6, 7, 8, 9] rfl (J6 0 S12 h33 iR_0)
          · refine k_if_eq F2 r16 (tgt := 634) dL_law_587 (by decide) h34 (fun h35 => ?_) (fun h36 => ?_)
            · exact k_sub [0, 1, 2, 3, 4, 5, 6, 8, 9, 10] rfl (J7 S10 h35)
            · refine k_aload_n F2 dL_law_590 rfl 1 rfl ?_
              refine k_iload F2 dL_law_591 10 rfl ?_
              refine k_iconst F2 dL_law_593 ?_
              refine k_callY F2 X2 cal_X8_told wm_330 (fun l D A hst hD hG r' h => c_X8_told hst hD hG r17 iR_2 h) ⟨Nat.le_of_ble_eq_true rfl, Nat.le_of_ble_eq_true rfl⟩ rfl rfl (Nat.le_of_ble_eq_true rfl) dL_law_594 h36 (fun x8 S13 r20 h37 => ?_)
              refine k_aload F2 dL_law_597 4 rfl ?_
              refine k_iload F2 dL_law_599 10 rfl ?_
              refine k_iald F2 rfl 40 (aL_5 cI cZ ad) r17 dL_law_601 h37 (fun x9 r21 h38 => ?_)
              refine k_icmp_ne F2 r20 r21 (tgt := 634) dL_law_602 (by decide) h38 (fun h39 => ?_) (fun h40 => ?_)
              · exact k_sub [0, 1, 2, 3, 4, 5, 6, 8, 9, 10] rfl (J7 S13 h39)
              · refine k_aload_n F2 dL_law_605 rfl 1 rfl ?_
                refine k_iload F2 dL_law_606 10 rfl ?_
                refine k_iconst F2 dL_law_608 ?_
                refine k_callY F2 X2 cal_X8_told wm_330 (fun l D A hst hD hG r' h => c_X8_told hst hD hG r17 iR_3 h) ⟨Nat.le_of_ble_eq_true rfl, Nat.le_of_ble_eq_true rfl⟩ rfl rfl (Nat.le_of_ble_eq_true rfl) dL_law_609 h40 (fun x10 S14 r22 h41 => ?_)
                refine k_aload F2 dL_law_612 5 rfl ?_
                refine k_iload F2 dL_law_614 10 rfl ?_
                refine k_iald F2 rfl 41 (aL_7 cI cZ ad) r17 dL_law_616 h41 (fun x11 r23 h42 => ?_)
                refine k_icmp_ne F2 r22 r23 (tgt := 634) dL_law_617 (by decide) h42 (fun h43 => ?_) (fun h44 => ?_)
                · exact k_sub [0, 1, 2, 3, 4, 5, 6, 8, 9, 10] rfl (J7 S14 h43)
                · refine k_aload_n F2 dL_law_620 rfl 1 rfl ?_
                  refine k_iload F2 dL_law_621 10 rfl ?_
                  refine k_iconst F2 dL_law_623 ?_
                  refine k_callY F2 X2 cal_X8_told wm_330 (fun l D A hst hD hG r' h => c_X8_told hst hD hG r17 iR_1 h) ⟨Nat.le_of_ble_eq_true rfl, Nat.le_of_ble_eq_true rfl⟩ rfl rfl (Nat.le_of_ble_eq_true rfl) dL_law_624 h44 (fun x12 S15 r24 h45 => ?_)
                  refine k_if_ne F2 r24 (tgt := 634) dL_law_627 (by decide) h45 (fun h46 => ?_) (fun h47 => ?_)
                  · exact k_sub [0, 1, 2, 3, 4, 5, 6, 8, 9, 10] rfl (J7 S15 h46)
                  · refine k_iconst F2 dL_law_630 ?_
                    refine k_goto F2 (tgt := 635) dL_law_631 (by decide) ?_
                    exact k_sub [0, 1, 2, 3, 4, 5, 6, 8, 9, 10] rfl (J6 1 S15 h47 iR_1)
  · refine k_if_ne F r2 (tgt := 243) dL_law_143 (by decide) h48 (fun h49 => ?_) (fun h50 => ?_)
    · refine k_iload F dL_law_243 0 rfl ?_
      refine k_bipush F dL_law_245 bp_8 ?_
      refine k_idivq F iR_8 dL_law_247 h49 (fun x13 r25 h51 => ?_)
      refine k_bipush F dL_law_248 bp_13 ?_
      refine k_callSi F cal_L_up wm_310 (fun l D A hD hG x S' h => c_L_up hD hG r25 iR_13 h) ⟨rfl, rfl, Nat.le_of_ble_eq_true rfl, Nat.le_of_ble_eq_true rfl⟩ rfl rfl (Nat.le_of_ble_eq_true rfl) dL_law_250 h51 (fun x14 S16 r26 b2 h52 => ?_)
      refine k_istore F dL_law_253 (by decide) rfl ?_
      refine k_iload F dL_law_255 1 rfl ?_
      refine k_sipush F dL_law_257 sp_128 ?_
      refine k_idivq F iR_128 dL_law_260 h52 (fun x15 r27 h53 => ?_)
      refine k_bipush F dL_law_261 bp_6 ?_
      refine k_callSi F cal_L_up wm_310 (fun l D A hD hG x S' h => c_L_up hD hG r27 iR_6 h) ⟨rfl, rfl, Nat.le_of_ble_eq_true rfl, Nat.le_of_ble_eq_true rfl⟩ rfl rfl (Nat.le_of_ble_eq_true rfl) dL_law_263 h53 (fun x16 S17 r28 b3 h54 => ?_)
      refine zj1_e (PJ := (fun v13 S18 => inR v13 → zk Γ (wL cI cZ ad) (RG bsL) S18 [(0, .ref b), (1, .ref (ad 0)), (2, .ref (ad 38)), (3, .ref (ad 39)), (4, .ref (ad 40)), (5, .ref (ad 41)), (6, .int (zI a6)), (8, .int (zI a8)), (9, .int (zI a9)), (11, .int (zI x14))] 283 [.int (zI v13)])) h54 (fun v13 S18 h55 r29 => ?_) (fun j25 J25 h152 => ?_)
      · refine k_istore F dL_law_283 (by decide) rfl ?_
        refine k_iload F dL_law_285 0 rfl ?_
        refine zj1_e (PJ := (fun v14 S19 => inR v14 → zk Γ (wL cI cZ ad) (RG bsL) S19 [(0, .ref b), (1, .ref (ad 0)), (2, .ref (ad 38)), (3, .ref (ad 39)), (4, .ref (ad 40)), (5, .ref (ad 41)), (6, .int (zI a6)), (8, .int (zI a8)), (9, .int (zI a9)), (11, .int (zI x14)), (12, .int (zI v13))] 295 [.int (zI v14)])) h55 (fun v14 S19 h56 r30 => ?_) (fun j24 J24 h149 => ?_)
        · refine k_istore F dL_law_295 (by decide) rfl ?_
          refine k_iload F dL_law_297 10 rfl ?_
          refine k_iload F dL_law_299 7 rfl ?_
          refine zj1_e (PJ := (fun v15 S20 => inR v15 → zk Γ (wL cI cZ ad) (RG bsL) S20 [(0, .ref b), (1, .ref (ad 0)), (2, .ref (ad 38)), (3, .ref (ad 39)), (4, .ref (ad 40)), (5, .ref (ad 41)), (6, .int (zI a6)), (8, .int (zI a8)), (9, .int (zI a9)), (11, .int (zI x14)), (12, .int (zI v13)), (13, .int (zI v14))] 328 [.int (zI v15)])) h56 (fun v15 S20 h57 r31 => ?_) (fun j22 J22 h140 => ?_)
          · refine k_istore F dL_law_328 (by decide) rfl ?_
            refine k_iload F dL_law_330 0 rfl ?_
            refine zj2_e (PJ := (fun v16 v17 S21 => inR v16 → inR v17 → zk Γ (wL cI cZ ad) (RG bsL) S21 [(0, .ref b), (1, .ref (ad 0)), (2, .ref (ad 38)), (3, .ref (ad 39)), (4, .ref (ad 40)), (5, .ref (ad 41)), (6, .int (zI v16)), (8, .int (zI a8)), (9, .int (zI a9)), (11, .int (zI x14)), (12, .int (zI v13)), (14, .int (zI v17))] 555 [])) h57 (fun v16 v17 S21 h58 r32 r33 => ?_) (fun j10 J10 h64 => ?_)
            · refine k_aload_n F dL_law_555 rfl 1 rfl ?_
              refine k_iload F dL_law_556 9 rfl ?_
              refine k_iload F dL_law_558 10 rfl ?_
              refine k_callQ F X hkn hk9 calw_emend wm_331 (fun l D A hst hD hG h0 r h hE => c_L_emend hst hD hG r26 r29 h0 h hE) ⟨Nat.le_of_ble_eq_true rfl, Nat.le_of_ble_eq_true rfl⟩ rfl rfl (Nat.le_of_ble_eq_true rfl) dL_law_560 h58 (fun x17 S22 r34 h59 => ?_)
              refine k_iload F2 dL_law_563 11 rfl ?_
              refine zj1_e (PJ := (fun v18 S23 => inR v18 → zk (zup Γ (k9 + 1) (n9 + 6)) (wL cI cZ ad) (RG bsL) S23 [(0, .ref b), (1, .ref (ad 0)), (2, .ref (ad 38)), (3, .ref (ad 39)), (4, .ref (ad 40)), (5, .ref (ad 41)), (6, .int (zI v16)), (8, .int (zI a8)), (9, .int (zI a9))] 573 [.int (zI v18)])) h59 (fun v18 S23 h60 r35 => ?_) (fun j9 J9 h61 => ?_)
              · refine k_istore F2 dL_law_573 (by decide) rfl ?_
                exact k_sub [1, 2, 3, 4, 5, 6, 7, 0, 8, 9] rfl (J8 v16 v18 a8 S23 h60 r32 r35 ra8)
              · refine k_icmp_ne F2 r34 r33 (tgt := 572) dL_law_565 (by decide) h61 (fun h62 => ?_) (fun h63 => ?_)
                · refine k_iconst F2 dL_law_572 ?_
                  exact k_sub [0, 1, 2, 3, 4, 5, 6, 7, 8] rfl (J9 0 S22 h62 iR_0)
                · refine k_iconst F2 dL_law_568 ?_
                  refine k_goto F2 (tgt := 573) dL_law_569 (by decide) ?_
                  exact k_sub [0, 1, 2, 3, 4, 5, 6, 7, 8] rfl (J9 1 S22 h63 iR_1)
            · refine k_if_ne F r31 (tgt := 555) dL_law_332 (by decide) h64 (fun h65 => ?_) (fun h66 => ?_)
              · exact k_sub [1, 2, 3, 4, 5, 6, 7, 8, 9, 10, 11, 0] rfl (J10 a6 v15 S20 h65 ra6 r31)
              · refine k_iload F dL_law_335 10 rfl ?_
                refine k_istore F dL_law_337 (by decide) rfl ?_
                refine zj0_e (PJ := (fun S24 => zk Γ (wL cI cZ ad) (RG bsL) S24 [(0, .ref b), (1, .ref (ad 0)), (2, .ref (ad 38)), (3, .ref (ad 39)), (4, .ref (ad 40)), (5, .ref (ad 41)), (6, .int (zI a6)), (8, .int (zI a8)), (9, .int (zI a9)), (11, .int (zI x14)), (12, .int (zI v13)), (13, .int (zI v14)), (14, .int (zI v15))] 369 [])) h66 (fun S24 h67 => ?_) (fun j21 J21 h129 => ?_)
                · refine k_iload F dL_law_369 6 rfl ?_
                  refine k_iload F dL_law_371 11 rfl ?_
                  refine zj1_e (PJ := (fun v19 S25 => inR v19 → zk Γ (wL cI cZ ad) (RG bsL) S25 [(0, .ref b), (1, .ref (ad 0)), (2, .ref (ad 38)), (3, .ref (ad 39)), (4, .ref (ad 40)), (5, .ref (ad 41)), (8, .int (zI a8)), (9, .int (zI a9)), (11, .int (zI x14)), (12, .int (zI v13)), (13, .int (zI v14)), (14, .int (zI v15))] 381 [.int (zI v19), .int (zI a6)])) h67 (fun v19 S25 h68 r36 => ?_) (fun j20 J20 h126 => ?_)
                  · refine k_isub F dL_law_381 h68 (fun x18 r37 h69 => ?_)
                    refine k_istore F dL_law_382 (by decide) rfl ?_
                    refine k_aload_n F dL_law_384 rfl 3 rfl ?_
                    refine k_iload F dL_law_385 9 rfl ?_
                    refine k_iload F dL_law_387 11 rfl ?_
                    refine zj1_e (PJ := (fun v20 S26 => inR v20 → zk Γ (wL cI cZ ad) (RG bsL) S26 [(0, .ref b), (1, .ref (ad 0)), (2, .ref (ad 38)), (3, .ref (ad 39)), (4, .ref (ad 40)), (5, .ref (ad 41)), (6, .int (zI x18)), (8, .int (zI a8)), (9, .int (zI a9)), (11, .int (zI x14)), (12, .int (zI v13)), (13, .int (zI v14)), (14, .int (zI v15))] 401 [.int (zI v20), .int (zI x14), .ref (ad 38)])) h69 (fun v20 S26 h70 r38 => ?_) (fun j19 J19 h122 => ?_)
                    · refine k_iast F rfl 38 (aL_1 cI cZ ad) (sL_1 cI cZ ad) (by decide) r26 r38 dL_law_401 h70 (fun S27 h71 => ?_)
                      refine k_iconst F dL_law_402 ?_
                      refine k_istore F dL_law_403 (by decide) rfl ?_
                      refine k_sub [1, 2, 3, 4, 5, 6, 7, 8, 9, 10, 11, 12, 13, 0] rfl (zl2_e (F := (b_L_law_405 a8 j10 v14 x14 x18)) (fun v21 v22 S28 => inR v21 → inR v22 → zk Γ (wL cI cZ ad) (RG bsL) S28 [(0, .ref b), (1, .ref (ad 0)), (2, .ref (ad 38)), (3, .ref (ad 39)), (4, .ref (ad 40)), (5, .ref (ad 41)), (6, .int (zI x18)), (8, .int (zI a8)), (9, .int (zI a9)), (11, .int (zI x14)), (12, .int (zI v13)), (13, .int (zI v14)), (14, .int (zI v21)), (15, .int (zI v22))] 405 []) (fun rec3 v21 v22 S28 hrec3 h72 r39 r40 => ?_) 1000 v15 0 S27 h71 r31 iR_0)
                      refine k_iload F dL_law_405 13 rfl ?_
                      refine k_iload F dL_law_407 7 rfl ?_
                      refine k_icmp_ge F r40 ra8 (tgt := 555) dL_law_409 (by decide) h72 (fun h73 => ?_) (fun h74 => ?_)
                      · exact k_sub [0, 1, 2, 3, 4, 5, 6, 7, 8, 9, 10, 12] rfl (J10 x18 v21 S28 h73 r37 r39)
                      · refine k_iload F dL_law_412 11 rfl ?_
                        refine zj1_e (PJ := (fun v23 S29 => inR v23 → zk Γ (wL cI cZ ad) (RG bsL) S29 [(0, .ref b), (1, .ref (ad 0)), (2, .ref (ad 38)), (3, .ref (ad 39)), (4, .ref (ad 40)), (5, .ref (ad 41)), (6, .int (zI x18)), (8, .int (zI a8)), (9, .int (zI a9)), (11, .int (zI x14)), (12, .int (zI v13)), (13, .int (zI v14)), (14, .int (zI v21)), (15, .int (zI v22))] 464 [.int (zI v23)])) h74 (fun v23 S29 h75 r41 => ?_) (fun j16 J16 h103 => ?_)
                        · refine k_istore F dL_law_464 (by decide) rfl ?_
                          refine k_aload_n F dL_law_466 rfl 3 rfl ?_
                          refine k_iload F dL_law_467 7 rfl ?_
                          refine k_aload_n F dL_law_469 rfl 4 rfl ?_
                          refine k_iload F dL_law_470 14 rfl ?_
                          refine k_iald F rfl 39 (aL_3 cI cZ ad) r40 dL_law_472 h75 (fun x19 r42 h76 => ?_)
                          refine k_iload F dL_law_473 0 rfl ?_
                          refine k_callSi F cal_L_near wm_334 (fun l D A hD hG x S' h => c_L_near hD hG r37 r42 r41 h) ⟨rfl, rfl, Nat.le_of_ble_eq_true rfl, Nat.le_of_ble_eq_true rfl⟩ rfl rfl (Nat.le_of_ble_eq_true rfl) dL_law_475 h76 (fun x20 S30 r43 b4 h77 => ?_)
                          refine k_istore F dL_law_478 (by decide) rfl ?_
                          refine k_iload F dL_law_480 14 rfl ?_
                          refine k_iload F dL_law_482 0 rfl ?_
                          refine zj1_e (PJ := (fun v24 S31 => inR v24 → zk Γ (wL cI cZ ad) (RG bsL) S31 [(0, .ref b), (1, .ref (ad 0)), (2, .ref (ad 38)), (3, .ref (ad 39)), (4, .ref (ad 40)), (5, .ref (ad 41)), (6, .int (zI x18)), (8, .int (zI a8)), (9, .int (zI a9)), (11, .int (zI x14)), (12, .int (zI v13)), (13, .int (zI v14)), (15, .int (zI v22)), (16, .int (zI v23)), (17, .int (zI x20))] 492 [.int (zI v24), .int (zI v21)])) h77 (fun v24 S31 h78 r44 => ?_) (fun j15 J15 h100 => ?_)
                          · refine k_aload F dL_law_492 5 rfl ?_
                            refine k_iload F dL_law_494 12 rfl ?_
                            refine k_iald F rfl 41 (aL_7 cI cZ ad) r40 dL_law_496 h78 (fun x21 r45 h79 => ?_)
                            refine k_iconst F dL_law_497 ?_
                            refine zj1_e (PJ := (fun v25 S32 => inR v25 → zk Γ (wL cI cZ ad) (RG bsL) S32 [(0, .ref b), (1, .ref (ad 0)), (2, .ref (ad 38)), (3, .ref (ad 39)), (4, .ref (ad 40)), (5, .ref (ad 41)), (6, .int (zI x18)), (8, .int (zI a8)), (9, .int (zI a9)), (11, .int (zI x14)), (12, .int (zI v13)), (13, .int (zI v14)), (15, .int (zI v22)), (16, .int (zI v23)), (17, .int (zI x20))] 506 [.int (zI v25), .int (zI v24), .int (zI v21)])) h79 (fun v25 S32 h80 r46 => ?_) (fun j14 J14 h97 => ?_)
                            · refine zj1_e (PJ := (fun v26 S33 => inR v26 → zk Γ (wL cI cZ ad) (RG bsL) S33 [(0, .ref b), (1, .ref (ad 0)), (2, .ref (ad 38)), (3, .ref (ad 39)), (4, .ref (ad 40)), (5, .ref (ad 41)), (6, .int (zI x18)), (8, .int (zI a8)), (9, .int (zI a9)), (11, .int (zI x14)), (12, .int (zI v13)), (13, .int (zI v14)), (15, .int (zI v22)), (16, .int (zI v23)), (17, .int (zI x20))] 514 [.int (zI v26), .int (zI v21)])) h80 (fun v26 S33 h81 r47 => ?_) (fun j13 J13 h94 => ?_)
                              · refine k_iadd F dL_law_514 h81 (fun x22 r48 h82 => ?_)
                                refine k_istore F dL_law_515 (by decide) rfl ?_
                                refine k_aload F dL_law_517 6 rfl ?_
                                refine k_iload F dL_law_519 13 rfl ?_
                                refine k_iload F dL_law_521 15 rfl ?_
                                refine zj1_e (PJ := (fun v27 S34 => inR v27 → zk Γ (wL cI cZ ad) (RG bsL) S34 [(0, .ref b), (1, .ref (ad 0)), (2, .ref (ad 38)), (3, .ref (ad 39)), (4, .ref (ad 40)), (5, .ref (ad 41)), (6, .int (zI x18)), (8, .int (zI a8)), (9, .int (zI a9)), (11, .int (zI x14)), (12, .int (zI v13)), (13, .int (zI v14)), (14, .int (zI x22)), (15, .int (zI v22)), (16, .int (zI v23)), (17, .int (zI x20))] 531 [.int (zI v27), .int (zI v22), .ref (ad 41)])) h82 (fun v27 S34 h83 r49 => ?_) (fun j12 J12 h91 => ?_)
                                · refine k_iast F rfl 41 (aL_7 cI cZ ad) (sL_7 cI cZ ad) (by decide) r40 r49 dL_law_531 h83 (fun S35 h84 => ?_)
                                  refine k_aload F dL_law_532 4 rfl ?_
                                  refine k_iload F dL_law_534 13 rfl ?_
                                  refine k_iload F dL_law_536 15 rfl ?_
                                  refine zj1_e (PJ := (fun v28 S36 => inR v28 → zk Γ (wL cI cZ ad) (RG bsL) S36 [(0, .ref b), (1, .ref (ad 0)), (2, .ref (ad 38)), (3, .ref (ad 39)), (4, .ref (ad 40)), (5, .ref (ad 41)), (6, .int (zI x18)), (8, .int (zI a8)), (9, .int (zI a9)), (11, .int (zI x14)), (12, .int (zI v13)), (13, .int (zI v14)), (14, .int (zI x22)), (15, .int (zI v22))] 548 [.int (zI v28), .int (zI v22), .ref (ad 40)])) h84 (fun v28 S36 h85 r50 => ?_) (fun j11 J11 h88 => ?_)
                                  · refine k_iast F rfl 40 (aL_5 cI cZ ad) (sL_5 cI cZ ad) (by decide) r40 r50 dL_law_548 h85 (fun S37 h86 => ?_)
                                    refine k_iinc F (k := 13) (lv' := fun y => [(15, .int (zI y)), (0, .ref b), (1, .ref (ad 0)), (2, .ref (ad 38)), (3, .ref (ad 39)), (4, .ref (ad 40)), (5, .ref (ad 41)), (6, .int (zI x18)), (8, .int (zI a8)), (9, .int (zI a9)), (11, .int (zI x14)), (12, .int (zI v13)), (13, .int (zI v14)), (14, .int (zI x22))]) dL_law_549 rfl (by decide) (fun _ => rfl) h86 (fun x23 r51 h87 => ?_)
                                    refine k_goto F (tgt := 405) dL_law_552 (by decide) ?_
                                    exact k_sub [1, 2, 3, 4, 5, 6, 7, 8, 9, 10, 11, 12, 13, 0] rfl (hrec3 x22 x23 S37 h87 r48 r51)
                                  · refine k_if_ge F r43 (tgt := 546) dL_law_538 (by decide) h88 (fun h89 => ?_) (fun h90 => ?_)
                                    · refine k_iload F dL_law_546 15 rfl ?_
                                      exact k_sub [0, 1, 2, 3, 4, 5, 6, 7, 8, 9, 10, 11, 12, 13] rfl (J11 x20 S35 h89 r43)
                                    · refine k_iload F dL_law_541 14 rfl ?_
                                      refine k_goto F (tgt := 548) dL_law_543 (by decide) ?_
                                      exact k_sub [0, 1, 2, 3, 4, 5, 6, 7, 8, 9, 10, 11, 12, 13] rfl (J11 v23 S35 h90 r41)
                                · refine k_if_ge F r43 (tgt := 530) dL_law_523 (by decide) h91 (fun h92 => ?_) (fun h93 => ?_)
                                  · refine k_iconst F dL_law_530 ?_
                                    exact k_sub [1, 2, 3, 4, 5, 6, 7, 8, 9, 10, 11, 12, 0, 13, 14, 15] rfl (J12 0 S33 h92 iR_0)
                                  · refine k_iconst F dL_law_526 ?_
                                    refine k_goto F (tgt := 531) dL_law_527 (by decide) ?_
                                    exact k_sub [1, 2, 3, 4, 5, 6, 7, 8, 9, 10, 11, 12, 0, 13, 14, 15] rfl (J12 1 S33 h93 iR_1)
                              · refine k_icmp_ne F r44 r46 (tgt := 513) dL_law_506 (by decide) h94 (fun h95 => ?_) (fun h96 => ?_)
                                · refine k_iconst F dL_law_513 ?_
                                  exact k_sub [0, 1, 2, 3, 4, 5, 6, 7, 8, 9, 10, 11, 12, 13, 14] rfl (J13 1 S32 h95 iR_1)
                                · refine k_iconst F dL_law_509 ?_
                                  refine k_goto F (tgt := 514) dL_law_510 (by decide) ?_
                                  exact k_sub [0, 1, 2, 3, 4, 5, 6, 7, 8, 9, 10, 11, 12, 13, 14] rfl (J13 0 S32 h96 iR_0)
                            · refine k_icmp_ne F r45 iR_1 (tgt := 505) dL_law_498 (by decide) h97 (fun h98 => ?_) (fun h99 => ?_)
                              · refine k_iconst F dL_law_505 ?_
                                exact k_sub [0, 1, 2, 3, 4, 5, 6, 7, 8, 9, 10, 11, 12, 13, 14] rfl (J14 0 S31 h98 iR_0)
                              · refine k_iconst F dL_law_501 ?_
                                refine k_goto F (tgt := 506) dL_law_502 (by decide) ?_
                                exact k_sub [0, 1, 2, 3, 4, 5, 6, 7, 8, 9, 10, 11, 12, 13, 14] rfl (J14 1 S31 h99 iR_1)
                          · refine k_if_ge F r43 (tgt := 491) dL_law_484 (by decide) h100 (fun h101 => ?_) (fun h102 => ?_)
                            · refine k_iconst F dL_law_491 ?_
                              exact k_sub [2, 3, 4, 5, 6, 7, 8, 9, 10, 11, 12, 13, 15, 1, 0] rfl (J15 0 S30 h101 iR_0)
                            · refine k_iconst F dL_law_487 ?_
                              refine k_goto F (tgt := 492) dL_law_488 (by decide) ?_
                              exact k_sub [2, 3, 4, 5, 6, 7, 8, 9, 10, 11, 12, 13, 15, 1, 0] rfl (J15 1 S30 h102 iR_1)
                        · refine zj0_e (PJ := (fun S38 => zk Γ (wL cI cZ ad) (RG bsL) S38 [(0, .ref b), (1, .ref (ad 0)), (2, .ref (ad 38)), (3, .ref (ad 39)), (4, .ref (ad 40)), (5, .ref (ad 41)), (6, .int (zI x18)), (8, .int (zI a8)), (9, .int (zI a9)), (11, .int (zI x14)), (12, .int (zI v13)), (13, .int (zI v14)), (14, .int (zI v21)), (15, .int (zI v22))] 437 [])) h103 (fun S38 h104 => ?_) (fun j18 J18 h114 => ?_)
                          · refine k_iload F dL_law_437 11 rfl ?_
                            refine zj0_e (PJ := (fun S39 => zk Γ (wL cI cZ ad) (RG bsL) S39 [(0, .ref b), (1, .ref (ad 0)), (2, .ref (ad 38)), (3, .ref (ad 39)), (4, .ref (ad 40)), (5, .ref (ad 41)), (6, .int (zI x18)), (8, .int (zI a8)), (9, .int (zI a9)), (11, .int (zI x14)), (12, .int (zI v13)), (13, .int (zI v14)), (14, .int (zI v21)), (15, .int (zI v22))] 459 [])) h104 (fun S39 h105 => ?_) (fun j17 J17 h107 => ?_)
                            · refine k_aload F dL_law_459 4 rfl ?_
                              refine k_iload F dL_law_461 13 rfl ?_
                              refine k_iald F rfl 40 (aL_5 cI cZ ad) r40 dL_law_463 h105 (fun x24 r52 h106 => ?_)
                              exact k_sub [0, 1, 2, 3, 4, 5, 6, 7, 8, 9, 10, 11, 12, 13] rfl (J16 x24 S39 h106 r52)
                            · refine k_if_eq F r30 (tgt := 459) dL_law_439 (by decide) h107 (fun h108 => ?_) (fun h109 => ?_)
                              · exact k_sub [0, 1, 2, 3, 4, 5, 6, 7, 8, 9, 10, 11, 12, 13] rfl (J17 S38 h108)
                              · refine k_aload F dL_law_442 4 rfl ?_
                                refine k_iload F dL_law_444 13 rfl ?_
                                refine k_iald F rfl 40 (aL_5 cI cZ ad) r40 dL_law_446 h109 (fun x25 r53 h110 => ?_)
                                refine k_iload F dL_law_447 6 rfl ?_
                                refine k_icmp_lt F r53 r37 (tgt := 459) dL_law_449 (by decide) h110 (fun h111 => ?_) (fun h112 => ?_)
                                · exact k_sub [0, 1, 2, 3, 4, 5, 6, 7, 8, 9, 10, 11, 12, 13] rfl (J17 S38 h111)
                                · refine k_iload F dL_law_452 6 rfl ?_
                                  refine k_iconst F dL_law_454 ?_
                                  refine k_isub F dL_law_455 h112 (fun x26 r54 h113 => ?_)
                                  refine k_goto F (tgt := 464) dL_law_456 (by decide) ?_
                                  exact k_sub [0, 1, 2, 3, 4, 5, 6, 7, 8, 9, 10, 11, 12, 13] rfl (J16 x26 S38 h113 r54)
                          · refine k_if_eq F r30 (tgt := 437) dL_law_414 (by decide) h114 (fun h115 => ?_) (fun h116 => ?_)
                            · exact k_sub [0, 1, 2, 3, 4, 5, 6, 7, 8, 9, 10, 11, 12, 13] rfl (J18 S28 h115)
                            · refine k_aload F dL_law_417 4 rfl ?_
                              refine k_iload F dL_law_419 13 rfl ?_
                              refine k_iald F rfl 40 (aL_5 cI cZ ad) r40 dL_law_421 h116 (fun x27 r55 h117 => ?_)
                              refine k_iload F dL_law_422 9 rfl ?_
                              refine k_icmp_le F r55 r26 (tgt := 437) dL_law_424 (by decide) h117 (fun h118 => ?_) (fun h119 => ?_)
                              · exact k_sub [0, 1, 2, 3, 4, 5, 6, 7, 8, 9, 10, 11, 12, 13] rfl (J18 S28 h118)
                              · refine k_aload F dL_law_427 4 rfl ?_
                                refine k_iload F dL_law_429 13 rfl ?_
                                refine k_iald F rfl 40 (aL_5 cI cZ ad) r40 dL_law_431 h119 (fun x28 r56 h120 => ?_)
                                refine k_iconst F dL_law_432 ?_
                                refine k_isub F dL_law_433 h120 (fun x29 r57 h121 => ?_)
                                refine k_goto F (tgt := 464) dL_law_434 (by decide) ?_
                                exact k_sub [0, 1, 2, 3, 4, 5, 6, 7, 8, 9, 10, 11, 12, 13] rfl (J16 x29 S28 h121 r57)
                    · refine k_if_eq F r30 (tgt := 399) dL_law_389 (by decide) h122 (fun h123 => ?_) (fun h124 => ?_)
                      · refine k_iload F dL_law_399 10 rfl ?_
                        exact k_sub [1, 2, 3, 4, 5, 6, 0, 7, 8, 9, 10, 11, 12] rfl (J19 v13 S25 h123 r29)
                      · refine k_aload_n F dL_law_392 rfl 3 rfl ?_
                        refine k_iload F dL_law_393 9 rfl ?_
                        refine k_iald F rfl 38 (aL_1 cI cZ ad) r26 dL_law_395 h124 (fun x30 r58 h125 => ?_)
                        refine k_goto F (tgt := 401) dL_law_396 (by decide) ?_
                        exact k_sub [1, 2, 3, 4, 5, 6, 0, 7, 8, 9, 10, 11, 12] rfl (J19 x30 S25 h125 r58)
                  · refine k_if_eq F r30 (tgt := 380) dL_law_373 (by decide) h126 (fun h127 => ?_) (fun h128 => ?_)
                    · refine k_iconst F dL_law_380 ?_
                      exact k_sub [0, 1, 2, 3, 4, 5, 7, 8, 9, 10, 11, 12] rfl (J20 0 S24 h127 iR_0)
                    · refine k_iconst F dL_law_376 ?_
                      refine k_goto F (tgt := 381) dL_law_377 (by decide) ?_
                      exact k_sub [0, 1, 2, 3, 4, 5, 7, 8, 9, 10, 11, 12] rfl (J20 1 S24 h128 iR_1)
                · refine k_sub [2, 3, 4, 5, 6, 7, 8, 9, 10, 11, 12, 13, 1, 0] rfl (zl1_e (F := (b_L_law_339 a6 j21 v14)) (fun v29 S40 => inR v29 → zk Γ (wL cI cZ ad) (RG bsL) S40 [(0, .ref b), (1, .ref (ad 0)), (2, .ref (ad 38)), (3, .ref (ad 39)), (4, .ref (ad 40)), (5, .ref (ad 41)), (6, .int (zI a6)), (8, .int (zI a8)), (9, .int (zI a9)), (11, .int (zI x14)), (12, .int (zI v13)), (13, .int (zI v14)), (14, .int (zI v15)), (15, .int (zI v29))] 339 []) (fun rec4 v29 S40 hrec4 h130 r59 => ?_) 1000 x14 S20 h129 r26)
                  refine k_iload F dL_law_339 13 rfl ?_
                  refine k_iload F dL_law_341 6 rfl ?_
                  refine k_iconst F dL_law_343 ?_
                  refine k_isub F dL_law_344 h130 (fun x31 r60 h131 => ?_)
                  refine k_icmp_ge F r59 r60 (tgt := 369) dL_law_345 (by decide) h131 (fun h132 => ?_) (fun h133 => ?_)
                  · exact k_sub [0, 1, 2, 3, 4, 5, 6, 7, 8, 9, 10, 11, 12] rfl (J21 S40 h132)
                  · refine k_iload F dL_law_348 11 rfl ?_
                    refine k_if_eq F r30 (tgt := 369) dL_law_350 (by decide) h133 (fun h134 => ?_) (fun h135 => ?_)
                    · exact k_sub [0, 1, 2, 3, 4, 5, 6, 7, 8, 9, 10, 11, 12] rfl (J21 S40 h134)
                    · refine k_aload_n F dL_law_353 rfl 2 rfl ?_
                      refine k_iload F dL_law_354 13 rfl ?_
                      refine k_aload_n F dL_law_356 rfl 2 rfl ?_
                      refine k_iload F dL_law_357 13 rfl ?_
                      refine k_iconst F dL_law_359 ?_
                      refine k_iadd F dL_law_360 h135 (fun x32 r61 h136 => ?_)
                      refine k_iald F rfl 38 (aL_1 cI cZ ad) r61 dL_law_361 h136 (fun x33 r62 h137 => ?_)
                      refine k_iast F rfl 38 (aL_1 cI cZ ad) (sL_1 cI cZ ad) (by decide) r59 r62 dL_law_362 h137 (fun S41 h138 => ?_)
                      refine k_iinc F (k := 13) (lv' := fun y => [(15, .int (zI y)), (0, .ref b), (1, .ref (ad 0)), (2, .ref (ad 38)), (3, .ref (ad 39)), (4, .ref (ad 40)), (5, .ref (ad 41)), (6, .int (zI a6)), (8, .int (zI a8)), (9, .int (zI a9)), (11, .int (zI x14)), (12, .int (zI v13)), (13, .int (zI v14)), (14, .int (zI v15))]) dL_law_363 rfl (by decide) (fun _ => rfl) h138 (fun x34 r63 h139 => ?_)
                      refine k_goto F (tgt := 339) dL_law_366 (by decide) ?_
                      exact k_sub [1, 2, 3, 4, 5, 6, 7, 8, 9, 10, 11, 12, 13, 0] rfl (hrec4 x34 S41 h139 r63)
          · refine k_icmp_lt F r26 ra6 (tgt := 310) dL_law_301 (by decide) h140 (fun h141 => ?_) (fun h142 => ?_)
            · refine k_iload F dL_law_310 0 rfl ?_
              refine zj0_e (PJ := (fun S42 => zk Γ (wL cI cZ ad) (RG bsL) S42 [(0, .ref b), (1, .ref (ad 0)), (2, .ref (ad 38)), (3, .ref (ad 39)), (4, .ref (ad 40)), (5, .ref (ad 41)), (6, .int (zI a6)), (8, .int (zI a8)), (9, .int (zI a9)), (11, .int (zI x14)), (12, .int (zI v13)), (13, .int (zI v14))] 327 [])) h141 (fun S42 h143 => ?_) (fun j23 J23 h144 => ?_)
              · refine k_iconst F dL_law_327 ?_
                exact k_sub [0, 1, 2, 3, 4, 5, 6, 7, 8, 9, 10, 11] rfl (J22 0 S42 h143 iR_0)
              · refine k_if_eq F r30 (tgt := 327) dL_law_312 (by decide) h144 (fun h145 => ?_) (fun h146 => ?_)
                · exact k_sub [1, 2, 3, 4, 5, 6, 7, 8, 9, 10, 11, 0] rfl (J23 S19 h145)
                · refine k_iload F dL_law_315 7 rfl ?_
                  refine k_iconst F dL_law_317 ?_
                  refine k_icmp_ne F ra6 iR_1 (tgt := 327) dL_law_318 (by decide) h146 (fun h147 => ?_) (fun h148 => ?_)
                  · exact k_sub [1, 2, 3, 4, 5, 6, 7, 8, 9, 10, 11, 0] rfl (J23 S19 h147)
                  · refine k_sipush F dL_law_321 sp_m1003 ?_
                    refine k_goto F (tgt := 328) dL_law_324 (by decide) ?_
                    exact k_sub [1, 2, 3, 4, 5, 6, 7, 8, 9, 10, 11, 0] rfl (J22 (-1003) S19 h148 iR_m1003)
            · refine k_sipush F dL_law_304 sp_m1001 ?_
              refine k_goto F (tgt := 328) dL_law_307 (by decide) ?_
              exact k_sub [1, 2, 3, 4, 5, 6, 7, 8, 9, 10, 11, 0] rfl (J22 (-1001) S19 h142 iR_m1001)
        · refine k_if_ge F r29 (tgt := 294) dL_law_287 (by decide) h149 (fun h150 => ?_) (fun h151 => ?_)
          · refine k_iconst F dL_law_294 ?_
            exact k_sub [1, 2, 3, 4, 5, 6, 7, 8, 9, 10, 0] rfl (J24 0 S18 h150 iR_0)
          · refine k_iconst F dL_law_290 ?_
            refine k_goto F (tgt := 295) dL_law_291 (by decide) ?_
            exact k_sub [1, 2, 3, 4, 5, 6, 7, 8, 9, 10, 0] rfl (J24 1 S18 h151 iR_1)
      · refine k_if_ne F r28 (tgt := 273) dL_law_266 (by decide) h152 (fun h153 => ?_) (fun h154 => ?_)
        · refine k_iload F dL_law_273 1 rfl ?_
          refine k_sipush F dL_law_275 sp_1024 ?_
          refine k_idivq F iR_1024 dL_law_278 h153 (fun x35 r64 h155 => ?_)
          refine k_iconst F dL_law_279 ?_
          refine k_callSi F cal_L_up wm_310 (fun l D A hD hG x S' h => c_L_up hD hG r64 iR_4 h) ⟨rfl, rfl, Nat.le_of_ble_eq_true rfl, Nat.le_of_ble_eq_true rfl⟩ rfl rfl (Nat.le_of_ble_eq_true rfl) dL_law_280 h155 (fun x36 S43 r65 b5 h156 => ?_)
          exact k_sub [2, 3, 4, 5, 6, 7, 8, 10, 11, 0] rfl (J25 x36 S43 h156 r65)
        · refine k_iconst F dL_law_269 ?_
          refine k_goto F (tgt := 283) dL_law_270 (by decide) ?_
          exact k_sub [2, 3, 4, 5, 6, 7, 8, 10, 11, 0] rfl (J25 (-1) S17 h154 iR_m1)
    · refine k_iload F dL_law_146 0 rfl ?_
      refine k_bipush F dL_law_148 bp_8 ?_
      refine k_idivq F iR_8 dL_law_150 h50 (fun x37 r66 h157 => ?_)
      refine k_iconst F dL_law_151 ?_
      refine k_callSi F cal_L_up wm_310 (fun l D A hD hG x S' h => c_L_up hD hG r66 iR_4 h) ⟨rfl, rfl, Nat.le_of_ble_eq_true rfl, Nat.le_of_ble_eq_true rfl⟩ rfl rfl (Nat.le_of_ble_eq_true rfl) dL_law_152 h157 (fun x38 S44 r67 b6 h158 => ?_)
      refine k_istore F dL_law_155 (by decide) rfl ?_
      refine k_iconst F dL_law_157 ?_
      refine k_iload F dL_law_158 1 rfl ?_
      refine k_bipush F dL_law_160 bp_32 ?_
      refine k_idivq F iR_32 dL_law_162 h158 (fun x39 r68 h159 => ?_)
      refine k_iconst F dL_law_163 ?_
      refine k_callSi F cal_L_up wm_310 (fun l D A hD hG x S' h => c_L_up hD hG r68 iR_3 h) ⟨rfl, rfl, Nat.le_of_ble_eq_true rfl, Nat.le_of_ble_eq_true rfl⟩ rfl rfl (Nat.le_of_ble_eq_true rfl) dL_law_164 h159 (fun x40 S45 r69 b7 h160 => ?_)
      refine k_iadd F dL_law_167 h160 (fun x41 r70 h161 => ?_)
      refine k_istore F dL_law_168 (by decide) rfl ?_
      refine k_aload_n F dL_law_170 rfl 5 rfl ?_
      refine k_iload F dL_law_171 9 rfl ?_
      refine k_iload F dL_law_173 1 rfl ?_
      refine k_iload F dL_law_175 0 rfl ?_
      refine k_callSi F cal_L_nth wm_337 (fun l D A hD hG x S' h => c_L_nth hD hG ra6 r67 r70 h) ⟨rfl, rfl, Nat.le_of_ble_eq_true rfl, Nat.le_of_ble_eq_true rfl⟩ rfl rfl (Nat.le_of_ble_eq_true rfl) dL_law_177 h161 (fun x42 S46 r71 b8 h162 => ?_)
      refine k_istore F dL_law_180 (by decide) rfl ?_
      refine k_aload_n F dL_law_182 rfl 5 rfl ?_
      refine k_iload F dL_law_183 2 rfl ?_
      refine k_iload F dL_law_185 1 rfl ?_
      refine k_callQ F X hkn hk9 calw_comment wm_338 (fun l D A hst hD hG h0 r h hE => c_L_comment hst hD hG r67 r70 h0 h hE) ⟨Nat.le_of_ble_eq_true rfl, Nat.le_of_ble_eq_true rfl⟩ rfl rfl (Nat.le_of_ble_eq_true rfl) dL_law_187 h162 (fun x43 S47 r72 h163 => ?_)
      refine k_iload F2 dL_law_190 0 rfl ?_
      refine zj1_e (PJ := (fun v30 S48 => inR v30 → zk (zup Γ (k9 + 1) (n9 + 6)) (wL cI cZ ad) (RG bsL) S48 [(0, .ref b), (1, .ref (ad 0)), (2, .ref (ad 38)), (3, .ref (ad 39)), (4, .ref (ad 40)), (5, .ref (ad 41)), (6, .int (zI a6)), (8, .int (zI a8)), (9, .int (zI a9)), (11, .int (zI x38)), (13, .int (zI x42))] 203 [.int (zI v30), .int (zI x43)])) h163 (fun v30 S48 h164 r73 => ?_) (fun j28 J28 h177 => ?_)
      · refine zj1_e (PJ := (fun v31 S49 => inR v31 → zk (zup Γ (k9 + 1) (n9 + 6)) (wL cI cZ ad) (RG bsL) S49 [(0, .ref b), (1, .ref (ad 0)), (2, .ref (ad 38)), (3, .ref (ad 39)), (4, .ref (ad 40)), (5, .ref (ad 41)), (6, .int (zI a6)), (8, .int (zI a8)), (9, .int (zI a9)), (11, .int (zI x38)), (13, .int (zI x42))] 211 [.int (zI v31)])) h164 (fun v31 S49 h165 r74 => ?_) (fun j27 J27 h174 => ?_)
        · refine k_istore F2 dL_law_211 (by decide) rfl ?_
          refine k_iload F2 dL_law_213 11 rfl ?_
          refine zj1_e (PJ := (fun v32 S50 => inR v32 → zk (zup Γ (k9 + 1) (n9 + 6)) (wL cI cZ ad) (RG bsL) S50 [(0, .ref b), (1, .ref (ad 0)), (2, .ref (ad 38)), (3, .ref (ad 39)), (4, .ref (ad 40)), (5, .ref (ad 41)), (6, .int (zI a6)), (7, .int (zI v31)), (8, .int (zI v32)), (9, .int (zI a9))] 240 [])) h165 (fun v32 S50 h166 r75 => ?_) (fun j26 J26 h167 => ?_)
          · refine k_goto F2 (tgt := 575) dL_law_240 (by decide) ?_
            exact k_sub [0, 1, 2, 3, 4, 5, 6, 7, 8, 9] rfl (J8 a6 v31 v32 S50 h166 ra6 r74 r75)
          · refine k_if_lt F2 r71 (tgt := 240) dL_law_215 (by decide) h167 (fun h168 => ?_) (fun h169 => ?_)
            · exact k_sub [1, 2, 3, 4, 5, 6, 7, 0, 8, 9] rfl (J26 a8 S49 h168 ra8)
            · refine k_aload_n F2 dL_law_218 rfl 4 rfl ?_
              refine k_iload F2 dL_law_219 8 rfl ?_
              refine k_iload F2 dL_law_221 10 rfl ?_
              refine k_iast F2 rfl 39 (aL_3 cI cZ ad) (sL_3 cI cZ ad) (by decide) ra8 r67 dL_law_223 h169 (fun S51 h170 => ?_)
              refine k_aload F2 dL_law_224 5 rfl ?_
              refine k_iload F2 dL_law_226 8 rfl ?_
              refine k_iload F2 dL_law_228 11 rfl ?_
              refine k_iast F2 rfl 40 (aL_5 cI cZ ad) (sL_5 cI cZ ad) (by decide) ra8 r71 dL_law_230 h170 (fun S52 h171 => ?_)
              refine k_aload F2 dL_law_231 6 rfl ?_
              refine k_iload F2 dL_law_233 8 rfl ?_
              refine k_iconst F2 dL_law_235 ?_
              refine k_iast F2 rfl 41 (aL_7 cI cZ ad) (sL_7 cI cZ ad) (by decide) ra8 iR_0 dL_law_236 h171 (fun S53 h172 => ?_)
              refine k_iinc F2 (k := 8) (lv' := fun y => [(8, .int (zI y)), (7, .int (zI v31)), (0, .ref b), (1, .ref (ad 0)), (2, .ref (ad 38)), (3, .ref (ad 39)), (4, .ref (ad 40)), (5, .ref (ad 41)), (6, .int (zI a6)), (9, .int (zI a9)), (11, .int (zI x38)), (13, .int (zI x42))]) dL_law_237 rfl (by decide) (fun _ => rfl) h172 (fun x44 r76 h173 => ?_)
              exact k_sub [2, 3, 4, 5, 6, 7, 8, 1, 0, 9] rfl (J26 x44 S53 h173 r76)
        · refine k_icmp_ne F2 r72 r73 (tgt := 210) dL_law_203 (by decide) h174 (fun h175 => ?_) (fun h176 => ?_)
          · refine k_iconst F2 dL_law_210 ?_
            exact k_sub [0, 1, 2, 3, 4, 5, 6, 7, 8, 9, 10] rfl (J27 0 S48 h175 iR_0)
          · refine k_iconst F2 dL_law_206 ?_
            refine k_goto F2 (tgt := 211) dL_law_207 (by decide) ?_
            exact k_sub [0, 1, 2, 3, 4, 5, 6, 7, 8, 9, 10] rfl (J27 1 S48 h176 iR_1)
      · refine k_if_ge F2 r71 (tgt := 201) dL_law_192 (by decide) h177 (fun h178 => ?_) (fun h179 => ?_)
        · refine k_iload F2 dL_law_201 12 rfl ?_
          exact k_sub [4, 5, 6, 7, 8, 9, 10, 12, 13, 2, 0] rfl (J28 a8 S47 h178 ra8)
        · refine k_sipush F2 dL_law_195 sp_m1003 ?_
          refine k_goto F2 (tgt := 203) dL_law_198 (by decide) ?_
          exact k_sub [4, 5, 6, 7, 8, 9, 10, 12, 13, 2, 0] rfl (J28 (-1003) S47 h179 iR_m1003)
end
section
/-! THE PURE SIDE: what the mirrors of the class say (rows of claims/whole, taken by name) -/
theorem zar_p {R : Type} {e : Int} {k : Int → Option R} (h : inR e) : zar e k = k e := if_pos h
theorem zld_p {R : Type} {a : Int → Int} {n i : Int} {k : Int → Option R} (h : 0 ≤ i ∧ i < n) : zld a n i k = k (a i) := if_pos h
theorem zst_p {R : Type} {S : zSt} {j : Nat} {n i v : Int} {k : zSt → Option R} (h : 0 ≤ i ∧ i < n) : zst S j n i v k = k (zput S j i v) := if_pos h
theorem zdv_p {R : Type} {a b : Int} {k : Int → Option R} (h : 0 ≤ a ∧ 0 < b) : zdv a b k = k (a / b) := if_pos h
theorem zrm_p {R : Type} {a b : Int} {k : Int → Option R} (h : 0 ≤ a ∧ 0 < b) : zrm a b k = k (a % b) := if_pos h
theorem zc01_p {R : Type} {x : Int} {k : Option R} (h : x = 0 ∨ x = 1) : zc01 x k = k := if_pos h
theorem zbd_s {R : Type} (r : Int) (S : zSt) (k : Int → zSt → Option R) : zbd (some (r, S)) k = k r S := rfl
theorem zput_1 (S : zSt) (j : Nat) (i v : Int) : (zput S j i v).1 = S.1 := rfl
theorem zset_2 (S : zSt) (j : Nat) (v : Int) : (zset S j v).2 = S.2 := rfl
theorem zput_e (S : zSt) (j : Nat) (i v : Int) : (zput S j i v).2 j = fun t => if t = i then v else S.2 j t := if_pos rfl
theorem zput_n (S : zSt) {j q : Nat} (i v : Int) (h : q ≠ j) : (zput S j i v).2 q = S.2 q := if_neg h
theorem zset_e (S : zSt) (j : Nat) (v : Int) : (zset S j v).1 j = v := if_pos rfl
theorem zset_n (S : zSt) {j q : Nat} (v : Int) (h : q ≠ j) : (zset S j v).1 q = S.1 q := if_neg h
def zat (a : Int → Int) (n i : Int) : Int := if 0 ≤ i ∧ i < n then a i else -1
theorem zat_p {a : Int → Int} {n i : Int} (h : 0 ≤ i ∧ i < n) : zat a n i = a i := if_pos h
theorem p_at (S : zSt) (j : Nat) (n i : Int) : m_at S j n i = some (zat (S.2 j) n i, S) := by
  unfold m_at zat
  by_cases h1 : i < 0
  · rw [if_pos h1, if_neg (by omega)]
  · by_cases h2 : n ≤ i
    · rw [if_neg h1, if_pos h2, if_neg (by omega)]
    · rw [if_neg h1, if_neg h2, zld_p (by omega), if_pos (by omega)]
def zb (c : Prop) [Decidable c] : Int := if c then 1 else 0
theorem zb_p {c : Prop} [Decidable c] (h : c) : zb c = 1 := if_pos h
theorem zb_n {c : Prop} [Decidable c] (h : ¬ c) : zb c = 0 := if_neg h
theorem zb_0 {c : Prop} [Decidable c] : zb c = 0 ↔ ¬ c := by
  unfold zb
  by_cases h : c
  · rw [if_pos h]; exact ⟨fun q => (by cases q), fun q => absurd h q⟩
  · rw [if_neg h]; exact ⟨fun _ => h, fun _ => rfl⟩
theorem p_X0_has (S : zSt) (a : Int) : m_X0_has S a = some (zb (0 ≤ a ∧ a < S.1 2), S) := by
  simp only [m_X0_has, zj0, zlt, zb]
  repeat' split
  all_goals first | rfl | (exfalso; omega)
theorem p_X1_has (S : zSt) (a : Int) : m_X1_has S a = some (zb (0 ≤ a ∧ a < S.1 3), S) := by
  simp only [m_X1_has, zj0, zlt, zb]
  repeat' split
  all_goals first | rfl | (exfalso; omega)
theorem p_X7_has (S : zSt) (a : Int) : m_X7_has S a = some (zb (0 ≤ a ∧ a < S.1 1), S) := by
  simp only [m_X7_has, zj0, zlt, zb]
  repeat' split
  all_goals first | rfl | (exfalso; omega)
theorem p_X0_isFull (S : zSt) : m_X0_isFull S = some (zb (12 ≤ S.1 2), S) := by
  simp only [m_X0_isFull, zlt, zb]
  repeat' split
  all_goals first | rfl | (exfalso; omega)
theorem p_X1_isFull (S : zSt) : m_X1_isFull S = some (zb (60 ≤ S.1 3), S) := by
  simp only [m_X1_isFull, zlt, zb]
  repeat' split
  all_goals first | rfl | (exfalso; omega)
theorem p_X8_needArgument (S : zSt) (a b c : Int) : m_X8_needArgument S a b c = if b ≤ a ∧ a ≤ c then some (.inl (0, S)) else some (.inr ("java/lang/IllegalArgumentException", S)) := by
  simp only [m_X8_needArgument, zj0]
  repeat' split
  all_goals first | rfl | (exfalso; omega)
theorem p_X8_needUnit (S : zSt) (a : Int) : m_X8_needUnit S a = if 0 ≤ a ∧ a < S.1 1 then some (.inl (0, S)) else some (.inr ("java/lang/IndexOutOfBoundsException", S)) := by
  simp only [m_X8_needUnit, p_X7_has, zbd_s, zb_0]
  repeat' split
  all_goals first | rfl | (exfalso; omega)
theorem p_X8_needAuthor (S : zSt) (a : Int) : m_X8_needAuthor S a = if 0 ≤ a ∧ a < S.1 2 then some (.inl (0, S)) else some (.inr ("java/lang/IndexOutOfBoundsException", S)) := by
  simp only [m_X8_needAuthor, p_X0_has, zbd_s, zb_0]
  repeat' split
  all_goals first | rfl | (exfalso; omega)
theorem p_X8_needComment (S : zSt) (a : Int) : m_X8_needComment S a = if 0 ≤ a ∧ a < S.1 3 then some (.inl (0, S)) else some (.inr ("java/lang/IndexOutOfBoundsException", S)) := by
  simp only [m_X8_needComment, p_X1_has, zbd_s, zb_0]
  repeat' split
  all_goals first | rfl | (exfalso; omega)
theorem p_X8_needRoomForComment (S : zSt) : m_X8_needRoomForComment S = if S.1 3 < 60 then some (.inl (0, S)) else some (.inr ("java/lang/IllegalStateException", S)) := by
  simp only [m_X8_needRoomForComment, p_X1_isFull, zbd_s, zb_0]
  repeat' split
  all_goals first | rfl | (exfalso; omega)
theorem p_X7_sizeOf (S : zSt) (a : Int) (h : S.1 1 ≤ 20) : m_X7_sizeOf S a = some (if 0 ≤ a ∧ a < S.1 1 then S.2 2 a else 0, S) := by
  simp only [m_X7_sizeOf, p_X7_has, zbd_s, zb_0]
  by_cases c : 0 ≤ a ∧ a < S.1 1
  · rw [if_neg (not_not_intro c), if_pos c, zld_p (by omega)]
  · rw [if_pos c, if_neg c]
theorem p_X7_hasPlace (S : zSt) (a k : Int) (h : S.1 1 ≤ 20) : m_X7_hasPlace S a k = some (zb (0 ≤ k ∧ k < (if 0 ≤ a ∧ a < S.1 1 then S.2 2 a else 0)), S) := by
  simp only [m_X7_hasPlace, p_X7_sizeOf S a h, zbd_s, zj0, zb]
  by_cases c : 0 ≤ a ∧ a < S.1 1
  · simp only [if_pos c]
    repeat' split
    all_goals first | rfl | (exfalso; omega)
  · simp only [if_neg c]
    repeat' split
    all_goals first | rfl | (exfalso; omega)
theorem zbx_l {R : Type} (r : Int) (S : zSt) (k : Int → zSt → Option (R ⊕ (String × zSt))) : zbx (some (.inl (r, S))) k = k r S := rfl
theorem zbx_r {R : Type} (e : String × zSt) (k : Int → zSt → Option (R ⊕ (String × zSt))) : zbx (some (.inr e)) k = some (.inr e) := rfl
theorem p_X4_isFull (S : zSt) : m_X4_isFull S = some (zb (12 ≤ S.1 0), S) := by
  simp only [m_X4_isFull, zlt, zb]
  repeat' split
  all_goals first | rfl | (exfalso; omega)
theorem p_X4_add (S : zSt) (a : Int) (h0 : 0 ≤ S.1 0) (h : S.1 0 < 12) : m_X4_add S a = some (0, zset (zput S 0 (S.1 0) a) 0 (S.1 0 + 1)) := by
  simp (disch := omega) only [m_X4_add, p_X4_isFull, zlt, zbd_s, zbx_l, zbx_r, zj0, zj1, zj2, zj3, zset_2, zput_1, if_true, if_false, zar_p, zld_p, zst_p, zdv_p, zrm_p, zc01_p, zb_p, zb_n, if_pos, if_neg]
theorem p_X7_wordAt (S : zSt) (u k : Int) (h : S.1 1 ≤ 20) (hs : ∀ u, 0 ≤ u → u < S.1 1 → S.2 2 u ≤ 12) : m_X7_wordAt S u k = some (if (0 ≤ u ∧ u < S.1 1) ∧ 0 ≤ k ∧ k < S.2 2 u then S.2 1 (u * 12 + k) else -1, S) := by
  simp only [m_X7_wordAt, p_X7_hasPlace S u k h, zbd_s, zb_0]
  by_cases c : 0 ≤ u ∧ u < S.1 1
  · have hs1 := hs u c.1 c.2
    simp only [if_pos c]
    by_cases c2 : 0 ≤ k ∧ k < S.2 2 u
    · simp (disch := omega) only [zlt, zbd_s, zbx_l, zbx_r, zj0, zj1, zj2, zj3, zset_2, zput_1, if_true, if_false, zar_p, zld_p, zst_p, zdv_p, zrm_p, zc01_p, zb_p, zb_n, if_pos, if_neg]
    · simp (disch := omega) only [zlt, zbd_s, zbx_l, zbx_r, zj0, zj1, zj2, zj3, zset_2, zput_1, if_true, if_false, zar_p, zld_p, zst_p, zdv_p, zrm_p, zc01_p, zb_p, zb_n, if_pos, if_neg]
  · simp only [if_neg c]
    simp (disch := omega) only [zlt, zbd_s, zbx_l, zbx_r, zj0, zj1, zj2, zj3, zset_2, zput_1, if_true, if_false, zar_p, zld_p, zst_p, zdv_p, zrm_p, zc01_p, zb_p, zb_n, if_pos, if_neg]
theorem p_X0_add (S : zSt) (a b c : Int) (h0 : 0 ≤ S.1 2) (h : S.1 2 < 12) : m_X0_add S a b c = some (0, zset (zput (zput (zput S 4 (S.1 2) a) 5 (S.1 2) b) 6 (S.1 2) c) 2 (S.1 2 + 1)) := by
  simp (disch := omega) only [m_X0_add, p_X0_isFull, zlt, zbd_s, zbx_l, zbx_r, zj0, zj1, zj2, zj3, zset_2, zput_1, if_true, if_false, zar_p, zld_p, zst_p, zdv_p, zrm_p, zc01_p, zb_p, zb_n, if_pos, if_neg]
theorem zl1_s {R : Type} (g : Nat) (F : (Int → zSt → Option R) → Int → zSt → Option R) (a : Int) (S : zSt) : zl1 (g + 1) F a S = F (zl1 g F) a S := rfl
theorem zl2_s {R : Type} (g : Nat) (F : (Int → Int → zSt → Option R) → Int → Int → zSt → Option R) (a b : Int) (S : zSt) : zl2 (g + 1) F a b S = F (zl2 g F) a b S := rfl
theorem zl3_s {R : Type} (g : Nat) (F : (Int → Int → Int → zSt → Option R) → Int → Int → Int → zSt → Option R) (a b c : Int) (S : zSt) : zl3 (g + 1) F a b c S = F (zl3 g F) a b c S := rfl
theorem zl4_s {R : Type} (g : Nat) (F : (Int → Int → Int → Int → zSt → Option R) → Int → Int → Int → Int → zSt → Option R) (a b c d : Int) (S : zSt) : zl4 (g + 1) F a b c d S = F (zl4 g F) a b c d S := rfl
theorem zw1 {R : Type} {F : (Int → zSt → Option R) → Int → zSt → Option R} (I : Nat → Int → zSt → Prop) (Q : Option R → Prop) (step : ∀ (rec : Int → zSt → Option R) (d : Nat) (a0 : Int) (S : zSt), I d a0 S → Q (F rec a0 S) ∨ ∃ (e : Nat) (x0 : Int) (T : zSt), e < d ∧ I e x0 T ∧ F rec a0 S = rec x0 T) : ∀ (g d : Nat) (a0 : Int) (S : zSt), I d a0 S → d < g → Q (zl1 g F a0 S) := by
  intro g
  induction g with
  | zero => intro d a0 S _ h; exact absurd h (Nat.not_lt_zero d)
  | succ g ih =>
    intro d a0 S hI h
    rw [zl1_s]
    rcases step (zl1 g F) d a0 S hI with q | ⟨e, x0, T, h1, h2, h3⟩
    · exact q
    · rw [h3]; exact ih e x0 T h2 (by omega)
theorem zw2 {R : Type} {F : (Int → Int → zSt → Option R) → Int → Int → zSt → Option R} (I : Nat → Int → Int → zSt → Prop) (Q : Option R → Prop) (step : ∀ (rec : Int → Int → zSt → Option R) (d : Nat) (a0 a1 : Int) (S : zSt), I d a0 a1 S → Q (F rec a0 a1 S) ∨ ∃ (e : Nat) (x0 x1 : Int) (T : zSt), e < d ∧ I e x0 x1 T ∧ F rec a0 a1 S = rec x0 x1 T) : ∀ (g d : Nat) (a0 a1 : Int) (S : zSt), I d a0 a1 S → d < g → Q (zl2 g F a0 a1 S) := by
  intro g
  induction g with
  | zero => intro d a0 a1 S _ h; exact absurd h (Nat.not_lt_zero d)
  | succ g ih =>
    intro d a0 a1 S hI h
    rw [zl2_s]
    rcases step (zl2 g F) d a0 a1 S hI with q | ⟨e, x0, x1, T, h1, h2, h3⟩
    · exact q
    · rw [h3]; exact ih e x0 x1 T h2 (by omega)
theorem zw3 {R : Type} {F : (Int → Int → Int → zSt → Option R) → Int → Int → Int → zSt → Option R} (I : Nat → Int → Int → Int → zSt → Prop) (Q : Option R → Prop) (step : ∀ (rec : Int → Int → Int → zSt → Option R) (d : Nat) (a0 a1 a2 : Int) (S : zSt), I d a0 a1 a2 S → Q (F rec a0 a1 a2 S) ∨ ∃ (e : Nat) (x0 x1 x2 : Int) (T : zSt), e < d ∧ I e x0 x1 x2 T ∧ F rec a0 a1 a2 S = rec x0 x1 x2 T) : ∀ (g d : Nat) (a0 a1 a2 : Int) (S : zSt), I d a0 a1 a2 S → d < g → Q (zl3 g F a0 a1 a2 S) := by
  intro g
  induction g with
  | zero => intro d a0 a1 a2 S _ h; exact absurd h (Nat.not_lt_zero d)
  | succ g ih =>
    intro d a0 a1 a2 S hI h
    rw [zl3_s]
    rcases step (zl3 g F) d a0 a1 a2 S hI with q | ⟨e, x0, x1, x2, T, h1, h2, h3⟩
    · exact q
    · rw [h3]; exact ih e x0 x1 x2 T h2 (by omega)
theorem zw22 {R R2 : Type} {F : (Int → Int → zSt → Option R) → Int → Int → zSt → Option R} {G : (Int → Int → zSt → Option R2) → Int → Int → zSt → Option R2} (I : Nat → Int → Int → zSt → Int → Int → zSt → Prop) (Q : Option R → Option R2 → Prop) (step : ∀ (rec : Int → Int → zSt → Option R) (rec2 : Int → Int → zSt → Option R2) (d : Nat) (a0 a1 : Int) (S : zSt) (b0 b1 : Int) (S2 : zSt), I d a0 a1 S b0 b1 S2 → Q (F rec a0 a1 S) (G rec2 b0 b1 S2) ∨ ∃ (e : Nat) (x0 x1 : Int) (T : zSt) (y0 y1 : Int) (T2 : zSt), e < d ∧ I e x0 x1 T y0 y1 T2 ∧ F rec a0 a1 S = rec x0 x1 T ∧ G rec2 b0 b1 S2 = rec2 y0 y1 T2) : ∀ (g g2 d : Nat) (a0 a1 : Int) (S : zSt) (b0 b1 : Int) (S2 : zSt), I d a0 a1 S b0 b1 S2 → d < g → d < g2 → Q (zl2 g F a0 a1 S) (zl2 g2 G b0 b1 S2) := by
  intro g
  induction g with
  | zero => intro g2 d a0 a1 S b0 b1 S2 _ h; exact absurd h (Nat.not_lt_zero d)
  | succ g ih =>
    intro g2 d a0 a1 S b0 b1 S2 hI h h2
    obtain ⟨g2, rfl⟩ : ∃ k, g2 = k + 1 := ⟨g2 - 1, by omega⟩
    rw [zl2_s, zl2_s]
    rcases step (zl2 g F) (zl2 g2 G) d a0 a1 S b0 b1 S2 hI with q | ⟨e, x0, x1, T, y0, y1, T2, h3, h4, h5, h6⟩
    · exact q
    · rw [h5, h6]; exact ih g2 e x0 x1 T y0 y1 T2 h4 (by omega) (by omega)
theorem zw23 {R R2 : Type} {F : (Int → Int → zSt → Option R) → Int → Int → zSt → Option R} {G : (Int → Int → Int → zSt → Option R2) → Int → Int → Int → zSt → Option R2} (I : Nat → Int → Int → zSt → Int → Int → Int → zSt → Prop) (Q : Option R → Option R2 → Prop) (step : ∀ (rec : Int → Int → zSt → Option R) (rec2 : Int → Int → Int → zSt → Option R2) (d : Nat) (a0 a1 : Int) (S : zSt) (b0 b1 b2 : Int) (S2 : zSt), I d a0 a1 S b0 b1 b2 S2 → Q (F rec a0 a1 S) (G rec2 b0 b1 b2 S2) ∨ ∃ (e : Nat) (x0 x1 : Int) (T : zSt) (y0 y1 y2 : Int) (T2 : zSt), e < d ∧ I e x0 x1 T y0 y1 y2 T2 ∧ F rec a0 a1 S = rec x0 x1 T ∧ G rec2 b0 b1 b2 S2 = rec2 y0 y1 y2 T2) : ∀ (g g2 d : Nat) (a0 a1 : Int) (S : zSt) (b0 b1 b2 : Int) (S2 : zSt), I d a0 a1 S b0 b1 b2 S2 → d < g → d < g2 → Q (zl2 g F a0 a1 S) (zl3 g2 G b0 b1 b2 S2) := by
  intro g
  induction g with
  | zero => intro g2 d a0 a1 S b0 b1 b2 S2 _ h; exact absurd h (Nat.not_lt_zero d)
  | succ g ih =>
    intro g2 d a0 a1 S b0 b1 b2 S2 hI h h2
    obtain ⟨g2, rfl⟩ : ∃ k, g2 = k + 1 := ⟨g2 - 1, by omega⟩
    rw [zl2_s, zl3_s]
    rcases step (zl2 g F) (zl3 g2 G) d a0 a1 S b0 b1 b2 S2 hI with q | ⟨e, x0, x1, T, y0, y1, y2, T2, h3, h4, h5, h6⟩
    · exact q
    · rw [h5, h6]; exact ih g2 e x0 x1 T y0 y1 y2 T2 h4 (by omega) (by omega)
def zrp (S : zSt) (j : Nat) (f : Int → Int) : zSt := (S.1, fun q => if q = j then f else S.2 q)
theorem zrp_e (S : zSt) (j : Nat) (f : Int → Int) : (zrp S j f).2 j = f := if_pos rfl
theorem zrp_n (S : zSt) {j q : Nat} (f : Int → Int) (h : q ≠ j) : (zrp S j f).2 q = S.2 q := if_neg h
theorem zrp_1 (S : zSt) (j : Nat) (f : Int → Int) : (zrp S j f).1 = S.1 := rfl
theorem zrp_self (S : zSt) (j : Nat) : zrp S j (S.2 j) = S := by
  refine Prod.ext rfl (funext fun q => ?_)
  show (if q = j then S.2 j else S.2 q) = S.2 q
  by_cases e : q = j
  · rw [if_pos e, e]
  · rw [if_neg e]
def zfu (f : Int → Int) (i v : Int) : Int → Int := fun t => if t = i then v else f t
theorem zfu_e (f : Int → Int) (i v : Int) : zfu f i v i = v := if_pos rfl
theorem zfu_n (f : Int → Int) {i t : Int} (v : Int) (h : t ≠ i) : zfu f i v t = f t := if_neg h
theorem zput_rp (S : zSt) (j : Nat) (f : Int → Int) (i v : Int) : zput (zrp S j f) j i v = zrp S j (zfu f i v) := by
  refine Prod.ext rfl (funext fun q => ?_)
  show (if q = j then (fun t => if t = i then v else (zrp S j f).2 j t) else (zrp S j f).2 q) = (if q = j then (fun t => if t = i then v else f t) else S.2 q)
  by_cases e : q = j
  · rw [if_pos e, if_pos e, zrp_e]
  · rw [if_neg e, if_neg e, zrp_n S f e]
theorem zset_rp (S : zSt) (j k : Nat) (f : Int → Int) (v : Int) : zset (zrp S j f) k v = zrp (zset S k v) j f := rfl
theorem p_X4_wordAt (S : zSt) (k : Int) (h : 0 ≤ k ∧ k < S.1 0) (h2 : S.1 0 ≤ 12) : m_X4_wordAt S k = some (S.2 0 k, S) := by
  simp (disch := omega) only [m_X4_wordAt, p_at, zat_p, zlt, zbd_s, zbx_l, zbx_r, zj0, zj1, zj2, zj3, zset_2, zput_1, if_true, if_false, zar_p, zld_p, zst_p, zdv_p, zrm_p, zc01_p, zb_p, zb_n, if_pos, if_neg]
theorem p_X7_put (S : zSt) (a k w : Int) (ha : 0 ≤ a ∧ a < S.1 1) (hk : 0 ≤ k ∧ k < S.2 2 a) (h1 : S.1 1 ≤ 20) (h2 : S.2 2 a ≤ 12) : m_X7_put S a k w = some (0, zput S 1 (12 * a + k) w) := by
  have e : a * 12 + k = 12 * a + k := by omega
  simp (disch := omega) only [m_X7_put, p_X7_hasPlace S a k h1, e, zlt, zbd_s, zbx_l, zbx_r, zj0, zj1, zj2, zj3, zset_2, zput_1, if_true, if_false, zar_p, zld_p, zst_p, zdv_p, zrm_p, zc01_p, zb_p, zb_n, if_pos, if_neg]
theorem p_X7_add (S : zSt) (h0 : 0 ≤ S.1 1 ∧ S.1 1 < 20) (h1 : 0 ≤ S.1 0 ∧ S.1 0 ≤ 12) : ∃ f, m_X7_add S = some (0, zrp (zput (zset S 1 (S.1 1 + 1)) 2 (S.1 1) (S.1 0)) 1 f) ∧ (∀ t, t < 12 * S.1 1 → f t = S.2 1 t) ∧ ∀ k, 0 ≤ k → k < S.1 0 → f (12 * S.1 1 + k) = S.2 0 k := by
  have key := zw1 (F := b_X7_add_35 (S.1 1)) (fun d i T => 0 ≤ i ∧ i + d = S.1 0 ∧ ∃ f, T = zrp (zput (zset S 1 (S.1 1 + 1)) 2 (S.1 1) (S.1 0)) 1 f ∧ (∀ t, t < 12 * S.1 1 → f t = S.2 1 t) ∧ ∀ k, 0 ≤ k → k < i → f (12 * S.1 1 + k) = S.2 0 k)
    (fun x => ∃ f, x = some (0, zrp (zput (zset S 1 (S.1 1 + 1)) 2 (S.1 1) (S.1 0)) 1 f) ∧ (∀ t, t < 12 * S.1 1 → f t = S.2 1 t) ∧ ∀ k, 0 ≤ k → k < S.1 0 → f (12 * S.1 1 + k) = S.2 0 k) (by
      rintro rec d i T ⟨h2, h3, f, rfl, h4, h5⟩
      have z1 : (zrp (zput (zset S 1 (S.1 1 + 1)) 2 (S.1 1) (S.1 0)) 1 f).1 0 = S.1 0 := rfl
      have z2 : (zrp (zput (zset S 1 (S.1 1 + 1)) 2 (S.1 1) (S.1 0)) 1 f).1 1 = S.1 1 + 1 := rfl
      have z3 : (zrp (zput (zset S 1 (S.1 1 + 1)) 2 (S.1 1) (S.1 0)) 1 f).2 2 (S.1 1) = S.1 0 := if_pos rfl
      have z4 : (zrp (zput (zset S 1 (S.1 1 + 1)) 2 (S.1 1) (S.1 0)) 1 f).2 0 = S.2 0 := rfl
      by_cases c : S.1 0 ≤ i
      · refine Or.inl ⟨f, ?_, h4, fun k h6 h7 => h5 k h6 (by omega)⟩
        simp (disch := omega) only [b_X7_add_35, m_X4_size, z1, zlt, zbd_s, zbx_l, zbx_r, zj0, zj1, zj2, zj3, zset_2, zput_1, if_true, if_false, zar_p, zld_p, zst_p, zdv_p, zrm_p, zc01_p, zb_p, zb_n, if_pos, if_neg]
      · refine Or.inr ⟨d - 1, i + 1, _, by omega, ⟨by omega, by omega, zfu f (12 * S.1 1 + i) (S.2 0 i), rfl, fun t h6 => ?_, fun k h6 h7 => ?_⟩, ?_⟩
        · rw [zfu_n _ _ (by omega)]; exact h4 t h6
        · by_cases e : k = i
          · rw [e, zfu_e]
          · rw [zfu_n _ _ (by omega)]; exact h5 k h6 (by omega)
        · have hp := fun w => p_X7_put (zrp (zput (zset S 1 (S.1 1 + 1)) 2 (S.1 1) (S.1 0)) 1 f) (S.1 1) i w ⟨by omega, by rw [z2]; omega⟩ ⟨h2, by rw [z3]; omega⟩ (by rw [z2]; omega) (by rw [z3]; omega)
          have hw := p_X4_wordAt (zrp (zput (zset S 1 (S.1 1 + 1)) 2 (S.1 1) (S.1 0)) 1 f) i ⟨h2, by rw [z1]; omega⟩ (by rw [z1]; omega)
          rw [z4] at hw
          simp (disch := omega) only [b_X7_add_35, m_X4_size, z1, hw, hp, zput_rp, zlt, zbd_s, zbx_l, zbx_r, zj0, zj1, zj2, zj3, zset_2, zput_1, if_true, if_false, zar_p, zld_p, zst_p, zdv_p, zrm_p, zc01_p, zb_p, zb_n, if_pos, if_neg])
    1000 (S.1 0).toNat 0 (zput (zset S 1 (S.1 1 + 1)) 2 (S.1 1) (S.1 0)) ⟨by omega, by omega, S.2 1, (zrp_self _ 1).symm, fun t _ => rfl, fun k h2 h3 => absurd h2 (by omega)⟩ (by omega)
  obtain ⟨f, e1, e2, e3⟩ := key
  refine ⟨f, ?_, e2, e3⟩
  simp (disch := omega) only [m_X7_add, m_X7_isFull, m_X4_size, zset_n, e1, zlt, zbd_s, zbx_l, zbx_r, zj0, zj1, zj2, zj3, zset_2, zput_1, if_true, if_false, zar_p, zld_p, zst_p, zdv_p, zrm_p, zc01_p, zb_p, zb_n, if_pos, if_neg]
theorem p_X1_add (S : zSt) (a b c d : Int) (h : 0 ≤ S.1 3 ∧ S.1 3 < 60) : m_X1_add S a b c d = some (S.1 3, zset (zput (zput (zput (zput S 7 (S.1 3) a) 8 (S.1 3) b) 9 (S.1 3) c) 10 (S.1 3) d) 3 (S.1 3 + 1)) := by
  simp (disch := omega) only [m_X1_add, p_X1_isFull, zset_e, Int.add_sub_cancel, zlt, zbd_s, zbx_l, zbx_r, zj0, zj1, zj2, zj3, zset_2, zput_1, if_true, if_false, zar_p, zld_p, zst_p, zdv_p, zrm_p, zc01_p, zb_p, zb_n, if_pos, if_neg]
theorem p_X1_hookTo (S : zSt) (c u p w : Int) (h : 0 ≤ c ∧ c < S.1 3) (h2 : S.1 3 ≤ 60) : m_X1_hookTo S c u p w = some (0, zput (zput (zput (zput (zput S 11 c (-1)) 12 c c) 13 c u) 14 c p) 15 c w) := by
  simp (disch := omega) only [m_X1_hookTo, p_X1_has, zlt, zbd_s, zbx_l, zbx_r, zj0, zj1, zj2, zj3, zset_2, zput_1, if_true, if_false, zar_p, zld_p, zst_p, zdv_p, zrm_p, zc01_p, zb_p, zb_n, if_pos, if_neg]
theorem q_comm2 {C : zSt} {a u k w m l g n na nu r : Int} (c3 : C.1 3 = n) (p3 : C.1 2 = na) (t3 : C.1 1 = nu) (h1 : 0 ≤ a ∧ a < na) (hb : 0 ≤ u ∧ u < nu) (h : ((0 ≤ k ∧ k ≤ 4) ∧ (1 ≤ l ∧ l ≤ 9) ∧ 0 ≤ g ∧ g ≤ 1) ∧ (0 ≤ w ∧ w ≤ 59) ∧ 1 ≤ m ∧ m ≤ 12) (h5 : 0 ≤ n ∧ n < 60) (hf : m_X7_placeOf C u w m = some (r, C)) (hr : 0 ≤ r) : m_X8_comment C a u k w m l g = some (.inl (n, zput (zput (zput (zput (zput (zset (zput (zput (zput (zput C 7 n a) 8 n k) 9 n l) 10 n g) 3 (n + 1)) 11 n (-1)) 12 n n) 13 n u) 14 n r) 15 n w)) := by
  simp (disch := omega) only [m_X8_comment, p_X8_needAuthor, p_X8_needUnit, p_X8_needArgument, p_X8_needRoomForComment, p3, c3, t3, hf, m_X1_add, p_X1_isFull, m_X1_hookTo, p_X1_has, zset_e, zset_n, Int.add_sub_cancel, zlt, zbd_s, zbx_l, zbx_r, zj0, zj1, zj2, zj3, zset_2, zput_1, if_true, if_false, zar_p, zld_p, zst_p, zdv_p, zrm_p, zc01_p, zb_p, zb_n, if_pos, if_neg]
theorem q_comm4 {C : zSt} {a u k w m l g n na nu r : Int} (c3 : C.1 3 = n) (p3 : C.1 2 = na) (t3 : C.1 1 = nu) (h1 : 0 ≤ a ∧ a < na) (hb : 0 ≤ u ∧ u < nu) (h : ((0 ≤ k ∧ k ≤ 4) ∧ (1 ≤ l ∧ l ≤ 9) ∧ 0 ≤ g ∧ g ≤ 1) ∧ (0 ≤ w ∧ w ≤ 59) ∧ 1 ≤ m ∧ m ≤ 12) (h5 : 0 ≤ n ∧ n ≤ 60) (hf : m_X7_placeOf C u w m = some (r, C)) (hr : n = 60 ∨ r = -1) : m_X8_comment C a u k w m l g = some (.inr ("java/lang/IllegalStateException", C)) := by
  by_cases e : n = 60
  · simp (disch := omega) only [m_X8_comment, p_X8_needAuthor, p_X8_needUnit, p_X8_needArgument, p_X8_needRoomForComment, p3, c3, t3, hf, zlt, zbd_s, zbx_l, zbx_r, zj0, zj1, zj2, zj3, zset_2, zput_1, if_true, if_false, zar_p, zld_p, zst_p, zdv_p, zrm_p, zc01_p, zb_p, zb_n, if_pos, if_neg]
  · simp (disch := omega) only [m_X8_comment, p_X8_needAuthor, p_X8_needUnit, p_X8_needArgument, p_X8_needRoomForComment, p3, c3, t3, hf, zlt, zbd_s, zbx_l, zbx_r, zj0, zj1, zj2, zj3, zset_2, zput_1, if_true, if_false, zar_p, zld_p, zst_p, zdv_p, zrm_p, zc01_p, zb_p, zb_n, if_pos, if_neg]
theorem zput_rp2 (S : zSt) {a b : Nat} (f g : Int → Int) (i v : Int) (h : a ≠ b) : zput (zrp (zrp S a f) b g) a i v = zrp (zrp S a (zfu f i v)) b g := by
  refine Prod.ext rfl (funext fun q => ?_)
  show (if q = a then (fun t => if t = i then v else (if a = b then g else if a = a then f else S.2 a) t) else (if q = b then g else if q = a then f else S.2 q)) = (if q = b then g else if q = a then zfu f i v else S.2 q)
  rw [if_neg h, if_pos rfl]
  by_cases e : q = a
  · rw [if_pos e, if_neg (by rw [e]; exact h), if_pos e]; rfl
  · rw [if_neg e, if_neg e, if_neg e]
theorem zrp2_self (S : zSt) (a b : Nat) : zrp (zrp S a (S.2 a)) b (S.2 b) = S := by rw [zrp_self, zrp_self]
theorem p_X1_isHook (S : zSt) (c u : Int) (hc : 0 ≤ c ∧ c < S.1 3) (hn : S.1 3 ≤ 60) : m_X1_isHook S c u = some (zb (S.2 11 c = -1 ∧ S.2 13 c = u), S) := by
  by_cases h : S.2 11 c = -1
  · by_cases h2 : S.2 13 c = u
    · simp (disch := omega) only [m_X1_isHook, p_X1_has, zlt, zbd_s, zbx_l, zbx_r, zj0, zj1, zj2, zj3, zset_2, zput_1, if_true, if_false, zar_p, zld_p, zst_p, zdv_p, zrm_p, zc01_p, zb_p, zb_n, if_pos, if_neg]
    · simp (disch := omega) only [m_X1_isHook, p_X1_has, zlt, zbd_s, zbx_l, zbx_r, zj0, zj1, zj2, zj3, zset_2, zput_1, if_true, if_false, zar_p, zld_p, zst_p, zdv_p, zrm_p, zc01_p, zb_p, zb_n, if_pos, if_neg]
  · simp (disch := omega) only [m_X1_isHook, p_X1_has, zlt, zbd_s, zbx_l, zbx_r, zj0, zj1, zj2, zj3, zset_2, zput_1, if_true, if_false, zar_p, zld_p, zst_p, zdv_p, zrm_p, zc01_p, zb_p, zb_n, if_pos, if_neg]
theorem q_hk1 {S : zSt} {u n x i r : Int} {rec : Int → Int → zSt → Option zRes} {j1 : Int → zSt → Option zRes} (hn : S.1 3 = n) (hn2 : n ≤ 60) (hi : 0 ≤ i ∧ i < n) (hx : 0 ≤ x ∧ x ≤ 60) (h1 : S.2 11 i = -1) (h2 : S.2 13 i = u) (hr : m_X7_nearest S u (S.2 15 i) (S.2 14 i) = some (r, S)) (hr2 : -1 ≤ r ∧ r < 12) (hl : S.2 16 i = 0 ∨ S.2 16 i = 1) : b_X1_hookAnew_5 u j1 rec x i S = (if r = -1 then (if S.2 16 i = 1 then rec x (i + 1) S else rec (x + 1) (i + 1) (zput S 16 i 1)) else (if S.2 16 i = 0 then rec x (i + 1) (zput S 14 i r) else rec (x + 1) (i + 1) (zput (zput S 14 i r) 16 i 0))) := by
  have hk := p_X1_isHook S i u (by omega) (by omega)
  have e : ∀ v, (zput S 14 i v).2 16 = S.2 16 := fun v => rfl
  by_cases c1 : r = -1
  · rcases hl with c2 | c2
    · simp (disch := omega) only [b_X1_hookAnew_5, hn, hk, hr, c2, zlt, zbd_s, zbx_l, zbx_r, zj0, zj1, zj2, zj3, zset_2, zput_1, if_true, if_false, zar_p, zld_p, zst_p, zdv_p, zrm_p, zc01_p, zb_p, zb_n, if_pos, if_neg]
    · simp (disch := omega) only [b_X1_hookAnew_5, hn, hk, hr, c2, zlt, zbd_s, zbx_l, zbx_r, zj0, zj1, zj2, zj3, zset_2, zput_1, if_true, if_false, zar_p, zld_p, zst_p, zdv_p, zrm_p, zc01_p, zb_p, zb_n, if_pos, if_neg]
  · rcases hl with c2 | c2
    · simp (disch := omega) only [b_X1_hookAnew_5, hn, hk, hr, e, c2, zlt, zbd_s, zbx_l, zbx_r, zj0, zj1, zj2, zj3, zset_2, zput_1, if_true, if_false, zar_p, zld_p, zst_p, zdv_p, zrm_p, zc01_p, zb_p, zb_n, if_pos, if_neg]
    · simp (disch := omega) only [b_X1_hookAnew_5, hn, hk, hr, e, c2, zlt, zbd_s, zbx_l, zbx_r, zj0, zj1, zj2, zj3, zset_2, zput_1, if_true, if_false, zar_p, zld_p, zst_p, zdv_p, zrm_p, zc01_p, zb_p, zb_n, if_pos, if_neg]
theorem q_cg1 {S : zSt} {u a l n i : Int} {rec : Int → zSt → Option zRes} (hn : S.1 3 = n) (hn2 : n ≤ 60) (hi : 0 ≤ i ∧ i < n) (h1 : S.2 11 i = -1) (h2 : S.2 13 i = u) (hp : 0 ≤ S.2 14 i ∧ S.2 14 i ≤ 12) : b_X1_closeGap_3 u a l rec i S = rec (i + 1) (zput S 14 i (if l < (if a < S.2 14 i then S.2 14 i - 1 else S.2 14 i) then l else if a < S.2 14 i then S.2 14 i - 1 else S.2 14 i)) := by
  have hk := p_X1_isHook S i u (by omega) (by omega)
  by_cases c1 : a < S.2 14 i
  · simp (disch := omega) only [b_X1_closeGap_3, hn, hk, zlt, zbd_s, zbx_l, zbx_r, zj0, zj1, zj2, zj3, zset_2, zput_1, if_true, if_false, zar_p, zld_p, zst_p, zdv_p, zrm_p, zc01_p, zb_p, zb_n, if_pos, if_neg]
  · simp (disch := omega) only [b_X1_closeGap_3, hn, hk, zlt, zbd_s, zbx_l, zbx_r, zj0, zj1, zj2, zj3, zset_2, zput_1, if_true, if_false, zar_p, zld_p, zst_p, zdv_p, zrm_p, zc01_p, zb_p, zb_n, if_pos, if_neg]
theorem q_cg2 {S : zSt} {u a l n i : Int} {rec : Int → zSt → Option zRes} (hn : S.1 3 = n) (hn2 : n ≤ 60) (hi : 0 ≤ i ∧ i < n) (h : ¬ (S.2 11 i = -1 ∧ S.2 13 i = u)) : b_X1_closeGap_3 u a l rec i S = rec (i + 1) S := by
  have hk := p_X1_isHook S i u (by omega) (by omega)
  simp (disch := omega) only [b_X1_closeGap_3, hn, hk, zlt, zbd_s, zbx_l, zbx_r, zj0, zj1, zj2, zj3, zset_2, zput_1, if_true, if_false, zar_p, zld_p, zst_p, zdv_p, zrm_p, zc01_p, zb_p, zb_n, if_pos, if_neg]
theorem q_cg {S : zSt} {u a l n : Int} (hn : S.1 3 = n) (hn2 : 0 ≤ n ∧ n ≤ 60) (hp : ∀ j, 0 ≤ j → j < n → S.2 11 j = -1 → 0 ≤ S.2 14 j ∧ S.2 14 j ≤ 12) : ∃ g, m_X1_closeGap S u a l = some (0, zrp S 14 g) ∧ ∀ j, ((0 ≤ j ∧ j < n) ∧ S.2 11 j = -1 ∧ S.2 13 j = u → g j = (if l < (if a < S.2 14 j then S.2 14 j - 1 else S.2 14 j) then l else if a < S.2 14 j then S.2 14 j - 1 else S.2 14 j)) ∧ (¬ ((0 ≤ j ∧ j < n) ∧ S.2 11 j = -1 ∧ S.2 13 j = u) → g j = S.2 14 j) := by
  refine zw1 (F := b_X1_closeGap_3 u a l) (fun d i T => 0 ≤ i ∧ i + d = n ∧ ∃ g, T = zrp S 14 g ∧ ∀ j, ((0 ≤ j ∧ j < i) ∧ S.2 11 j = -1 ∧ S.2 13 j = u → g j = (if l < (if a < S.2 14 j then S.2 14 j - 1 else S.2 14 j) then l else if a < S.2 14 j then S.2 14 j - 1 else S.2 14 j)) ∧ (¬ ((0 ≤ j ∧ j < i) ∧ S.2 11 j = -1 ∧ S.2 13 j = u) → g j = S.2 14 j)) (fun x => ∃ g, x = some (0, zrp S 14 g) ∧ ∀ j, ((0 ≤ j ∧ j < n) ∧ S.2 11 j = -1 ∧ S.2 13 j = u → g j = (if l < (if a < S.2 14 j then S.2 14 j - 1 else S.2 14 j) then l else if a < S.2 14 j then S.2 14 j - 1 else S.2 14 j)) ∧ (¬ ((0 ≤ j ∧ j < n) ∧ S.2 11 j = -1 ∧ S.2 13 j = u) → g j = S.2 14 j)) ?_ 1000 n.toNat 0 S ⟨by omega, by omega, S.2 14, (zrp_self S 14).symm, fun j => ⟨fun q => absurd q.1 (by omega), fun _ => rfl⟩⟩ (by omega)
  rintro rec d i T ⟨h1, h2, g, rfl, h3⟩
  have e1 : (zrp S 14 g).1 3 = n := hn
  by_cases c : n ≤ i
  · refine Or.inl ⟨g, ?_, ?_⟩
    · clear h3; simp (disch := omega) only [b_X1_closeGap_3, e1, zlt, zbd_s, zbx_l, zbx_r, zj0, zj1, zj2, zj3, zset_2, zput_1, if_true, if_false, zar_p, zld_p, zst_p, zdv_p, zrm_p, zc01_p, zb_p, zb_n, if_pos, if_neg]
    · rw [show n = i by omega]; exact h3
  · have hg : g i = S.2 14 i := (h3 i).2 fun q => by have := q.1; omega
    by_cases c1 : S.2 11 i = -1 ∧ S.2 13 i = u
    · have hp1 := hp i h1 (by omega) c1.1
      have st := q_cg1 (S := zrp S 14 g) (u := u) (a := a) (l := l) (rec := rec) e1 hn2.2 ⟨h1, by omega⟩ c1.1 c1.2 (by rw [zrp_e, hg]; exact hp1)
      rw [zrp_e, hg] at st
      refine Or.inr ⟨d - 1, i + 1, _, by omega, ⟨by omega, by omega, _, zput_rp _ _ _ _ _, fun j => ?_⟩, st⟩
      by_cases e : j = i
      · subst e
        rw [zfu_e]
        exact ⟨fun _ => rfl, fun q => absurd ⟨⟨h1, by omega⟩, c1⟩ q⟩
      · rw [zfu_n _ _ e]
        exact ⟨fun q => (h3 j).1 ⟨⟨q.1.1, by have := q.1.2; omega⟩, q.2⟩, fun q => (h3 j).2 fun z => q ⟨⟨z.1.1, by have := z.1.2; omega⟩, z.2⟩⟩
    · refine Or.inr ⟨d - 1, i + 1, zrp S 14 g, by omega, ⟨by omega, by omega, g, rfl, fun j => ?_⟩, q_cg2 (S := zrp S 14 g) e1 hn2.2 ⟨h1, by omega⟩ c1⟩
      by_cases e : j = i
      · subst e
        exact ⟨fun q => absurd q.2 c1, fun _ => hg⟩
      · exact ⟨fun q => (h3 j).1 ⟨⟨q.1.1, by have := q.1.2; omega⟩, q.2⟩, fun q => (h3 j).2 fun z => q ⟨⟨z.1.1, by have := z.1.2; omega⟩, z.2⟩⟩
def zsh (g : Int → Int) (lo hi : Int) : Int → Int := fun j => if lo ≤ j ∧ j < hi then g (j + 1) else g j
theorem zsh_0 (g : Int → Int) {lo hi : Int} (h : hi ≤ lo) : zsh g lo hi = g := funext fun j => if_neg (by omega)
theorem zsh_at (g : Int → Int) {lo hi j : Int} (h : hi ≤ j ∨ j < lo) : zsh g lo hi j = g j := if_neg (by omega)
theorem zsh_in (g : Int → Int) {lo hi j : Int} (h : lo ≤ j ∧ j < hi) : zsh g lo hi j = g (j + 1) := if_pos h
theorem zsh_s (g : Int → Int) {lo i : Int} (h : lo ≤ i) : zfu (zsh g lo i) i (g (i + 1)) = zsh g lo (i + 1) := by
  funext j
  by_cases e : j = i
  · subst e; rw [zfu_e, zsh_in g ⟨h, by omega⟩]
  · rw [zfu_n _ _ e]
    by_cases q : lo ≤ j ∧ j < i
    · rw [zsh_in g q, zsh_in g ⟨q.1, by omega⟩]
    · rw [zsh_at g (by omega), zsh_at g (by omega)]
theorem q_tk1 {C : zSt} {u a s : Int} (hu : 0 ≤ u ∧ u < C.1 1) (hU : C.1 1 ≤ 20) (hS : ∀ x, 0 ≤ x → x < C.1 1 → C.2 2 x ≤ 12) (hs : C.2 2 u = s) (hs2 : 1 ≤ s ∧ s ≤ 12) (ha : 0 ≤ a ∧ a < s) {j1 : zSt → Option zRes} : zl1 1000 (b_X7_takeOut_12 u j1) a C = j1 (zrp C 1 (zsh (C.2 1) (12 * u + a) (12 * u + s - 1))) := by
  refine zw1 (F := b_X7_takeOut_12 u j1) (fun d i S => a ≤ i ∧ i + d = s - 1 ∧ S = zrp C 1 (zsh (C.2 1) (12 * u + a) (12 * u + i))) (fun x => x = j1 (zrp C 1 (zsh (C.2 1) (12 * u + a) (12 * u + s - 1)))) ?_ 1000 (s - 1 - a).toNat a C ⟨by omega, by omega, by rw [zsh_0 _ (by omega), zrp_self]⟩ (by omega)
  rintro rec d i S ⟨h1, h2, rfl⟩
  have e1 : (zrp C 1 (zsh (C.2 1) (12 * u + a) (12 * u + i))).2 2 u = s := hs
  by_cases c : s ≤ i + 1
  · refine Or.inl ?_
    rw [show 12 * u + s - 1 = 12 * u + i by omega]
    clear hS
    simp (disch := omega) only [b_X7_takeOut_12, e1, zlt, zbd_s, zbx_l, zbx_r, zj0, zj1, zj2, zj3, zset_2, zput_1, if_true, if_false, zar_p, zld_p, zst_p, zdv_p, zrm_p, zc01_p, zb_p, zb_n, if_pos, if_neg]
  · have w1 : m_X7_wordAt (zrp C 1 (zsh (C.2 1) (12 * u + a) (12 * u + i))) u (i + 1) = some (C.2 1 (12 * u + i + 1), zrp C 1 (zsh (C.2 1) (12 * u + a) (12 * u + i))) := by
      rw [p_X7_wordAt (zrp C 1 (zsh (C.2 1) (12 * u + a) (12 * u + i))) u (i + 1) hU hS]
      have q : (0 ≤ u ∧ u < (zrp C 1 (zsh (C.2 1) (12 * u + a) (12 * u + i))).1 1) ∧ 0 ≤ i + 1 ∧ i + 1 < (zrp C 1 (zsh (C.2 1) (12 * u + a) (12 * u + i))).2 2 u := ⟨hu, by omega, by omega⟩
      rw [if_pos q, zrp_e, zsh_at _ (by omega), show u * 12 + (i + 1) = 12 * u + i + 1 by omega]
    have w2 : ∀ v, m_X7_put (zrp C 1 (zsh (C.2 1) (12 * u + a) (12 * u + i))) u i v = some (0, zput (zrp C 1 (zsh (C.2 1) (12 * u + a) (12 * u + i))) 1 (12 * u + i) v) := fun v => p_X7_put _ _ _ _ hu ⟨by omega, by omega⟩ hU (by omega)
    refine Or.inr ⟨d - 1, i + 1, zrp C 1 (zsh (C.2 1) (12 * u + a) (12 * u + (i + 1))), by omega, ⟨by omega, by omega, rfl⟩, ?_⟩
    have w3 := zput_rp C 1 (zsh (C.2 1) (12 * u + a) (12 * u + i)) (12 * u + i) (C.2 1 (12 * u + i + 1))
    rw [zsh_s _ (by omega)] at w3
    rw [← Int.add_assoc, ← w3]
    clear hS w3
    generalize zrp C 1 (zsh (C.2 1) (12 * u + a) (12 * u + i)) = T at *
    simp (disch := omega) only [b_X7_takeOut_12, e1, w1, w2, zlt, zbd_s, zbx_l, zbx_r, zj0, zj1, zj2, zj3, zset_2, zput_1, if_true, if_false, zar_p, zld_p, zst_p, zdv_p, zrm_p, zc01_p, zb_p, zb_n, if_pos, if_neg]
theorem q_tk {C : zSt} {u a s : Int} (hu : 0 ≤ u ∧ u < C.1 1) (hU : C.1 1 ≤ 20) (hS : ∀ x, 0 ≤ x → x < C.1 1 → C.2 2 x ≤ 12) (hs : C.2 2 u = s) (hs2 : 1 ≤ s ∧ s ≤ 12) (ha : 0 ≤ a ∧ a < s) : m_X7_takeOut C u a = some (0, zput (zrp C 1 (zsh (C.2 1) (12 * u + a) (12 * u + s - 1))) 2 u (s - 1)) := by
  have hp : m_X7_hasPlace C u a = some (1, C) := by
    rw [p_X7_hasPlace _ _ _ hU, if_pos hu, zb_p ⟨ha.1, by omega⟩]
  have h := fun j1 => q_tk1 hu hU hS hs hs2 ha (j1 := j1)
  have e1 : (zrp C 1 (zsh (C.2 1) (12 * u + a) (12 * u + s - 1))).2 2 u = s := hs
  clear hS
  show (zbd (m_X7_hasPlace C u a) fun x1 S1 => if x1 = 0 then (some (0, S1)) else (zj0 (fun (S2 : zSt) => zld (S2.2 2) 20 u fun x2 => zar (x2 - 1) fun x3 => zst S2 2 20 u x3 fun S3 => some (0, S3)) fun j1 => zl1 1000 (b_X7_takeOut_12 u j1) a S1)) = _
  rw [hp]
  generalize zl1 (R := zRes) 1000 = zz at *
  generalize zrp C 1 (zsh (C.2 1) (12 * u + a) (12 * u + s - 1)) = T at *
  simp (disch := omega) only [↓zbd_s, ↓if_neg, ↓zj0, h, ↓zld_p, e1, ↓zar_p, ↓zst_p]
theorem q_em8a {C T1 T2 T3 : zSt} {u a s x : Int} (hp : m_X7_hasPlace C u a = some (1, C)) (hz : m_X7_sizeOf C u = some (s, C)) (hs : 2 ≤ s ∧ s ≤ 12) (h1 : m_X7_takeOut C u a = some (0, T1)) (h2 : m_X7_sizeOf T1 u = some (s - 1, T1)) (h3 : m_X1_closeGap T1 u a (s - 1 - 1) = some (0, T2)) (h4 : m_X1_hookAnew T2 u = some (x, T3)) : m_X8_emend C u a (-1) = some (.inl (x, T3)) := by
  simp (disch := omega) only [m_X8_emend, hp, p_X8_needArgument, hz, h1, h2, h3, h4, zlt, zbd_s, zbx_l, zbx_r, zj0, zj1, zj2, zj3, zset_2, zput_1, if_true, if_false, zar_p, zld_p, zst_p, zdv_p, zrm_p, zc01_p, zb_p, zb_n, if_pos, if_neg]
theorem q_em8b {C T1 T3 : zSt} {u a w x : Int} (hp : m_X7_hasPlace C u a = some (1, C)) (hw : 0 ≤ w ∧ w ≤ 59) (h1 : m_X7_put C u a w = some (0, T1)) (h4 : m_X1_hookAnew T1 u = some (x, T3)) : m_X8_emend C u a w = some (.inl (x, T3)) := by
  simp (disch := omega) only [m_X8_emend, hp, p_X8_needArgument, h1, h4, zlt, zbd_s, zbx_l, zbx_r, zj0, zj1, zj2, zj3, zset_2, zput_1, if_true, if_false, zar_p, zld_p, zst_p, zdv_p, zrm_p, zc01_p, zb_p, zb_n, if_pos, if_neg]
end
section
/-! p28, the pure side: the joint state; the class's answers to what the law asks -/
theorem zdq_p {R : Type} {a b : Int} {K : Int → Option R} (h : 0 < b) : zdq a b K = K (zI a / zI b).toInt := if_pos h
theorem zce_p {R : Type} {cel : Int → Int} {k : Int} {K : Int → Option R} (h : 0 ≤ k ∧ k < 200) : zce cel k K = K (cel k) := if_pos h
theorem p_up (S : zSt) (a : Int) {n : Int} (h : 0 < n) : m_L_up S a n = some (upv a n, S) := if_pos h
theorem zby_s {R : Type} (x : Int) (P S : zSt) (K : Int → zSt → Option R) : zby (some (.inl (x, P))) S K = K x (zjn P (zpM S)) := rfl
theorem zbw_l {R : Type} (hs : List String) {b : Int} (x : Int) (P S : zSt) (K : Int → zSt → Option R) (h : 0 ≤ b) : zbw hs b (some (.inl (x, P))) S K = K x (zjn P (zpM S)) := if_pos ⟨h, rfl⟩
theorem zbw_I {R : Type} (hs : List String) {b : Int} (P S : zSt) (K : Int → zSt → Option R) (h : 0 ≤ b) (hm : "java/lang/IllegalStateException" ∈ hs) : zbw hs b (some (.inr ("java/lang/IllegalStateException", P))) S K = K (-1003) (zjn P (zpM S)) := by
  show (if 0 ≤ b ∧ decide ("java/lang/IllegalStateException" ∈ hs) = true then K (zcd (.inr ("java/lang/IllegalStateException", P))) (zjn P (zpM S)) else none) = _
  rw [if_pos ⟨h, decide_eq_true hm⟩, zcd_I]
theorem zbw_O {R : Type} (hs : List String) {b : Int} (P S : zSt) (K : Int → zSt → Option R) (h : 0 ≤ b) (hm : "java/lang/IndexOutOfBoundsException" ∈ hs) : zbw hs b (some (.inr ("java/lang/IndexOutOfBoundsException", P))) S K = K (-1001) (zjn P (zpM S)) := by
  show (if 0 ≤ b ∧ decide ("java/lang/IndexOutOfBoundsException" ∈ hs) = true then K (zcd (.inr ("java/lang/IndexOutOfBoundsException", P))) (zjn P (zpM S)) else none) = _
  rw [if_pos ⟨h, decide_eq_true hm⟩, zcd_O]
theorem zjn_self (S : zSt) : zjn (zpC S) (zpM S) = S := by
  refine Prod.ext (funext fun q => ?_) (funext fun q => ?_)
  · show (if q % 2 = 0 then S.1 (2 * (q / 2)) else S.1 (2 * (q / 2) + 1)) = S.1 q
    by_cases e : q % 2 = 0
    · rw [if_pos e, show 2 * (q / 2) = q by omega]
    · rw [if_neg e, show 2 * (q / 2) + 1 = q by omega]
  · show (if q % 2 = 0 then S.2 (2 * (q / 2)) else S.2 (2 * (q / 2) + 1)) = S.2 q
    by_cases e : q % 2 = 0
    · rw [if_pos e, show 2 * (q / 2) = q by omega]
    · rw [if_neg e, show 2 * (q / 2) + 1 = q by omega]
def zLm (r w p l : Int → Int) : zSt := (fun _ => 0, fun q => if q = 0 then r else if q = 1 then w else if q = 2 then p else if q = 3 then l else fun _ => 0)
/-- the class's state, and the law's rows -/
def zLw (C : zSt) (r w p l : Int → Int) : zSt := zjn C (zLm r w p l)
theorem zLw_C (C : zSt) (r w p l : Int → Int) : zpC (zLw C r w p l) = C := zpC_j _ _
theorem zLw_J (P C : zSt) (r w p l : Int → Int) : zjn P (zpM (zLw C r w p l)) = zLw P r w p l := by unfold zLw; rw [zpM_j]
theorem zLw_1 (C : zSt) (r w p l : Int → Int) : (zLw C r w p l).2 1 = r := rfl
theorem zLw_3 (C : zSt) (r w p l : Int → Int) : (zLw C r w p l).2 3 = w := rfl
theorem zLw_5 (C : zSt) (r w p l : Int → Int) : (zLw C r w p l).2 5 = p := rfl
theorem zLw_7 (C : zSt) (r w p l : Int → Int) : (zLw C r w p l).2 7 = l := rfl
theorem zLw_p1 (C : zSt) (r w p l : Int → Int) (i v : Int) : zput (zLw C r w p l) 1 i v = zLw C (zfu r i v) w p l := by
  refine Prod.ext rfl (funext fun q => ?_)
  show (if q = 1 then (fun t => if t = i then v else r t) else (if q % 2 = 0 then C.2 (q / 2) else if q / 2 = 0 then r else if q / 2 = 1 then w else if q / 2 = 2 then p else if q / 2 = 3 then l else fun _ => 0)) = (if q % 2 = 0 then C.2 (q / 2) else if q / 2 = 0 then zfu r i v else if q / 2 = 1 then w else if q / 2 = 2 then p else if q / 2 = 3 then l else fun _ => 0)
  by_cases e : q = 1
  · subst e; rfl
  · rw [if_neg e]
    repeat' split
    all_goals first | rfl | (exfalso; omega)
theorem zLw_p3 (C : zSt) (r w p l : Int → Int) (i v : Int) : zput (zLw C r w p l) 3 i v = zLw C r (zfu w i v) p l := by
  refine Prod.ext rfl (funext fun q => ?_)
  show (if q = 3 then (fun t => if t = i then v else w t) else (if q % 2 = 0 then C.2 (q / 2) else if q / 2 = 0 then r else if q / 2 = 1 then w else if q / 2 = 2 then p else if q / 2 = 3 then l else fun _ => 0)) = (if q % 2 = 0 then C.2 (q / 2) else if q / 2 = 0 then r else if q / 2 = 1 then zfu w i v else if q / 2 = 2 then p else if q / 2 = 3 then l else fun _ => 0)
  by_cases e : q = 3
  · subst e; rfl
  · rw [if_neg e]
    repeat' split
    all_goals first | rfl | (exfalso; omega)
theorem zLw_p5 (C : zSt) (r w p l : Int → Int) (i v : Int) : zput (zLw C r w p l) 5 i v = zLw C r w (zfu p i v) l := by
  refine Prod.ext rfl (funext fun q => ?_)
  show (if q = 5 then (fun t => if t = i then v else p t) else (if q % 2 = 0 then C.2 (q / 2) else if q / 2 = 0 then r else if q / 2 = 1 then w else if q / 2 = 2 then p else if q / 2 = 3 then l else fun _ => 0)) = (if q % 2 = 0 then C.2 (q / 2) else if q / 2 = 0 then r else if q / 2 = 1 then w else if q / 2 = 2 then zfu p i v else if q / 2 = 3 then l else fun _ => 0)
  by_cases e : q = 5
  · subst e; rfl
  · rw [if_neg e]
    repeat' split
    all_goals first | rfl | (exfalso; omega)
theorem zLw_p7 (C : zSt) (r w p l : Int → Int) (i v : Int) : zput (zLw C r w p l) 7 i v = zLw C r w p (zfu l i v) := by
  refine Prod.ext rfl (funext fun q => ?_)
  show (if q = 7 then (fun t => if t = i then v else l t) else (if q % 2 = 0 then C.2 (q / 2) else if q / 2 = 0 then r else if q / 2 = 1 then w else if q / 2 = 2 then p else if q / 2 = 3 then l else fun _ => 0)) = (if q % 2 = 0 then C.2 (q / 2) else if q / 2 = 0 then r else if q / 2 = 1 then w else if q / 2 = 2 then p else if q / 2 = 3 then zfu l i v else fun _ => 0)
  by_cases e : q = 7
  · subst e; rfl
  · rw [if_neg e]
    repeat' split
    all_goals first | rfl | (exfalso; omega)
/-- the class holds one unit of n words, the law's row r; k hooks, the law's words, places, lost -/
def I28 (C : zSt) (r w p l : Int → Int) (n k : Int) : Prop := (C.1 1 = 1 ∧ C.2 2 0 = n ∧ (1 ≤ n ∧ n ≤ 12) ∧ C.1 2 = 1) ∧ (C.1 3 = k ∧ 0 ≤ k) ∧ (∀ j, 0 ≤ j → j < n → C.2 1 j = r j ∧ 0 ≤ r j ∧ r j ≤ 3) ∧ (∀ j, 0 ≤ j → j < k → C.2 11 j = -1 ∧ C.2 12 j = j ∧ C.2 13 j = 0 ∧ C.2 14 j = p j ∧ C.2 15 j = w j ∧ C.2 16 j = l j ∧ (0 ≤ p j ∧ p j < n) ∧ (l j = 0 ∨ l j = 1) ∧ 0 ≤ w j ∧ w j ≤ 3) ∧ (∀ j, k ≤ j → C.2 16 j = 0)
theorem p_sz {C : zSt} {n : Int} (h1 : C.1 1 = 1) (h2 : C.2 2 0 = n) : m_X7_sizeOf C 0 = some (n, C) := by
  rw [p_X7_sizeOf C 0 (by omega), if_pos (by omega), h2]
theorem p_ss {C : zSt} {n : Int} (h1 : C.1 1 = 1) (h2 : C.2 2 0 = n) (h3 : n ≤ 12) : ∀ u, 0 ≤ u → u < C.1 1 → C.2 2 u ≤ 12 := fun u a b => by
  have e : u = 0 := by omega
  rw [e, h2]; exact h3
theorem p_wa {C : zSt} {n : Int} (h1 : C.1 1 = 1) (h2 : C.2 2 0 = n) (h3 : n ≤ 12) (k : Int) (h4 : 0 ≤ k) : m_X7_wordAt C 0 k = some (if k < n then C.2 1 k else -1, C) := by
  rw [p_X7_wordAt C 0 k (by omega) (p_ss h1 h2 h3)]
  by_cases c : k < n
  · rw [if_pos (by rw [h2]; omega), if_pos c, show 0 * 12 + k = k by omega]
  · rw [if_neg (by rw [h2]; omega), if_neg c]
theorem p_tx {C : zSt} {n : Int} (h1 : C.1 1 = 1) (h2 : C.2 2 0 = n) (h3 : n ≤ 12) (k : Int) (h4 : 0 ≤ k) : m_X8_textOf C 0 k = some (.inl (if k < n then C.2 1 k else -1, C)) := by
  have hw := p_wa h1 h2 h3 k h4
  simp (disch := omega) only [m_X8_textOf, p_X8_needUnit, hw, zlt, zbd_s, zbx_l, zbx_r, zj0, zj1, zj2, zj3, zset_2, zput_1, if_true, if_false, zar_p, zld_p, zst_p, zdv_p, zrm_p, zc01_p, zb_p, zb_n, if_pos, if_neg]
theorem p_t1 {C : zSt} {k j : Int} (h1 : C.1 3 = k) (hk : k ≤ 60) (hj : 0 ≤ j ∧ j < k) (hr : C.2 12 j = j) : m_X8_told C j 1 = some (.inl (C.2 13 j, C)) := by
  simp (disch := omega) only [m_X8_told, p_X8_needComment, p_X8_needArgument, m_X1_unitOf, p_at, zat_p, hr, zlt, zbd_s, zbx_l, zbx_r, zj0, zj1, zj2, zj3, zset_2, zput_1, if_true, if_false, zar_p, zld_p, zst_p, zdv_p, zrm_p, zc01_p, zb_p, zb_n, if_pos, if_neg]
theorem p_t2 {C : zSt} {k j : Int} (h1 : C.1 3 = k) (hk : k ≤ 60) (hj : 0 ≤ j ∧ j < k) (hr : C.2 12 j = j) : m_X8_told C j 2 = some (.inl (C.2 14 j, C)) := by
  simp (disch := omega) only [m_X8_told, p_X8_needComment, p_X8_needArgument, m_X1_placeOf, p_at, zat_p, hr, zlt, zbd_s, zbx_l, zbx_r, zj0, zj1, zj2, zj3, zset_2, zput_1, if_true, if_false, zar_p, zld_p, zst_p, zdv_p, zrm_p, zc01_p, zb_p, zb_n, if_pos, if_neg]
theorem p_t3 {C : zSt} {k j : Int} (h1 : C.1 3 = k) (hk : k ≤ 60) (hj : 0 ≤ j ∧ j < k) (hr : C.2 12 j = j) (hl : C.2 16 j = 0 ∨ C.2 16 j = 1) : m_X8_told C j 3 = some (.inl (C.2 16 j, C)) := by
  rcases hl with e | e
  · simp (disch := omega) only [m_X8_told, p_X8_needComment, p_X8_needArgument, m_X1_isLost, p_X1_has, p_at, zat_p, hr, e, zlt, zbd_s, zbx_l, zbx_r, zj0, zj1, zj2, zj3, zset_2, zput_1, if_true, if_false, zar_p, zld_p, zst_p, zdv_p, zrm_p, zc01_p, zb_p, zb_n, if_pos, if_neg]
  · simp (disch := omega) only [m_X8_told, p_X8_needComment, p_X8_needArgument, m_X1_isLost, p_X1_has, p_at, zat_p, hr, e, zlt, zbd_s, zbx_l, zbx_r, zj0, zj1, zj2, zj3, zset_2, zput_1, if_true, if_false, zar_p, zld_p, zst_p, zdv_p, zrm_p, zc01_p, zb_p, zb_n, if_pos, if_neg]
/-! the law's checks -/
theorem q_578 {S : zSt} {k : Int} {j5 : Int → zSt → Option zL5} (hk : 0 ≤ k ∧ k ≤ 60) (h2 : ∀ j, 0 ≤ j → j < k → m_X8_told (zpC S) j 2 = some (.inl (S.2 5 j, zpC S))) (h3 : ∀ j, 0 ≤ j → j < k → m_X8_told (zpC S) j 3 = some (.inl (S.2 7 j, zpC S))) (h1 : ∀ j, 0 ≤ j → j < k → m_X8_told (zpC S) j 1 = some (.inl (0, zpC S))) : zl2 1000 (b_L_law_578 j5 k) 1 0 S = j5 1 S := by
  refine zw2 (F := b_L_law_578 j5 k) (fun d v i T => T = S ∧ v = 1 ∧ 0 ≤ i ∧ i + d = k) (fun x => x = j5 1 S) ?_ 1000 k.toNat 1 0 S ⟨rfl, rfl, by omega, by omega⟩ (by omega)
  rintro rec d v i T ⟨rfl, rfl, a1, a2⟩
  by_cases c : k ≤ i
  · refine Or.inl ?_
    clear h1 h2 h3
    simp (disch := omega) only [b_L_law_578, ↓if_pos]
  · have e1 := h1 i a1 (by omega)
    have e2 := h2 i a1 (by omega)
    have e3 := h3 i a1 (by omega)
    clear h1 h2 h3
    refine Or.inr ⟨d - 1, 1, i + 1, T, by omega, ⟨rfl, rfl, by omega, by omega⟩, ?_⟩
    simp (disch := omega) only [b_L_law_578, e1, e2, e3, zby_s, zjn_self, ↓zj0, ↓zj1, ↓zj2, ↓zj3, ↓zbd_s, ↓zar_p, ↓zld_p, ↓zst_p, ↓if_pos, ↓if_neg, if_true, if_false]
theorem q_646 {S : zSt} {n : Int} {j1 : Int → zSt → Option zL5} (hn : n ≤ 12) (h : ∀ j, 0 ≤ j → m_X8_textOf (zpC S) 0 j = some (.inl (if j < n then S.2 1 j else -1, zpC S))) : zl2 1000 (b_L_law_646 j1 n) 1 0 S = j1 1 S := by
  refine zw2 (F := b_L_law_646 j1 n) (fun d v i T => T = S ∧ v = 1 ∧ 0 ≤ i ∧ i + d = 13) (fun x => x = j1 1 S) ?_ 1000 13 1 0 S ⟨rfl, rfl, by omega, by omega⟩ (by omega)
  rintro rec d v i T ⟨rfl, rfl, a1, a2⟩
  by_cases c : 13 ≤ i
  · refine Or.inl ?_
    clear h
    simp (disch := omega) only [b_L_law_646, ↓if_pos]
  · have e1 := h i a1
    clear h
    refine Or.inr ⟨d - 1, 1, i + 1, T, by omega, ⟨rfl, rfl, by omega, by omega⟩, ?_⟩
    by_cases c2 : i < n
    · rw [if_pos c2] at e1
      simp (disch := omega) only [b_L_law_646, e1, zby_s, zjn_self, ↓zj0, ↓zj1, ↓zj2, ↓zj3, ↓zbd_s, ↓zar_p, ↓zld_p, ↓zst_p, ↓if_pos, ↓if_neg, if_true, if_false]
    · rw [if_neg c2] at e1
      simp (disch := omega) only [b_L_law_646, e1, zby_s, zjn_self, ↓zj0, ↓zj1, ↓zj2, ↓zj3, ↓zbd_s, ↓zar_p, ↓zld_p, ↓zst_p, ↓if_pos, ↓if_neg, if_true, if_false]
/-! the n-th one of a word -/
theorem q_nthd {S : zSt} {n wd v : Int} (hn : n ≤ 12) (g d : Nat) (y : Int) (hy : 0 ≤ y) (hd : y + d = n) (hg : d < g) : zl3 g (b_L_nth_9 n wd (fun (v1 : Int) (S1 : zSt) => some (v1, S1) : Int → zSt → Option zRes)) v 0 y S = some (v, S) := by
  refine zw3 (F := b_L_nth_9 n wd (fun (v1 : Int) (S1 : zSt) => some (v1, S1) : Int → zSt → Option zRes)) (fun d x c y T => T = S ∧ x = v ∧ c ≤ 0 ∧ -100 ≤ c - d ∧ 0 ≤ y ∧ y + d = n) (fun x => x = some (v, S)) ?_ g d v 0 y S ⟨rfl, rfl, by omega, by omega, hy, hd⟩ hg
  rintro rec d x c y T ⟨rfl, rfl, a1, a2, a3, a4⟩
  by_cases c1 : n ≤ y
  · refine Or.inl ?_
    simp (disch := omega) only [b_L_nth_9, ↓zj1, ↓if_pos]
  · refine Or.inr ?_
    by_cases c2 : T.2 1 y = wd
    · refine ⟨d - 1, x, c - 1, y + 1, T, by omega, ⟨rfl, rfl, by omega, by omega, by omega, by omega⟩, ?_⟩
      simp (disch := omega) only [b_L_nth_9, c2, ↓zj0, ↓zj1, ↓zj2, ↓zj3, ↓zbd_s, ↓zar_p, ↓zld_p, ↓zst_p, ↓if_pos, ↓if_neg, if_true, if_false]
    · refine ⟨d - 1, x, c, y + 1, T, by omega, ⟨rfl, rfl, by omega, by omega, by omega, by omega⟩, ?_⟩
      simp (disch := omega) only [b_L_nth_9, Int.sub_zero, ↓zj0, ↓zj1, ↓zj2, ↓zj3, ↓zbd_s, ↓zar_p, ↓zld_p, ↓zst_p, ↓if_pos, ↓if_neg, if_true, if_false]
theorem q_nthl {Ca S : zSt} {n wd m : Int} (hn : n ≤ 12) (hz : m_X7_sizeOf Ca 0 = some (n, Ca)) (hw : ∀ k, 0 ≤ k → k < n → m_X7_wordAt Ca 0 k = some (S.2 1 k, Ca)) (hm : m ≤ 12) : ∀ (d g g2 : Nat) (s y : Int), 0 ≤ y → y + d = n → 0 ≤ s → s < m → s ≤ y → d < g → d < g2 → ∃ v, (-1 ≤ v ∧ v < n) ∧ zl2 g (b_X7_placeOf_6 0 wd m (fun (S1 : zSt) => some ((-1), S1) : zSt → Option zRes)) s y Ca = some (v, Ca) ∧ zl3 g2 (b_L_nth_9 n wd (fun (v1 : Int) (S1 : zSt) => some (v1, S1) : Int → zSt → Option zRes)) (-1) (m - s) y S = some (v, S) := by
  intro d
  induction d with
  | zero =>
    intro g g2 s y h1 h2 h3 h4 h5 h6 h7
    obtain ⟨g, rfl⟩ : ∃ k, g = k + 1 := ⟨g - 1, by omega⟩
    obtain ⟨g2, rfl⟩ : ∃ k, g2 = k + 1 := ⟨g2 - 1, by omega⟩
    refine ⟨-1, by omega, ?_, ?_⟩
    · simp (disch := omega) only [zl2_s, b_X7_placeOf_6, hz, ↓zj0, ↓zj1, ↓zj2, ↓zj3, ↓zbd_s, ↓zar_p, ↓zld_p, ↓zst_p, ↓if_pos, ↓if_neg, if_true, if_false]
    · simp (disch := omega) only [zl3_s, b_L_nth_9, ↓zj0, ↓zj1, ↓zj2, ↓zj3, ↓zbd_s, ↓zar_p, ↓zld_p, ↓zst_p, ↓if_pos, ↓if_neg, if_true, if_false]
  | succ d ih =>
    intro g g2 s y h1 h2 h3 h4 h5 h6 h7
    obtain ⟨g, rfl⟩ : ∃ k, g = k + 1 := ⟨g - 1, by omega⟩
    obtain ⟨g2, rfl⟩ : ∃ k, g2 = k + 1 := ⟨g2 - 1, by omega⟩
    have w1 := hw y h1 (by omega)
    by_cases c : S.2 1 y = wd
    · by_cases c2 : s + 1 = m
      · have e := q_nthd (S := S) (wd := wd) (v := y) hn g2 d (y + 1) (by omega) (by omega) (by omega)
        clear ih hw
        refine ⟨y, by omega, ?_, ?_⟩
        · simp (disch := omega) only [zl2_s, b_X7_placeOf_6, hz, w1, ↓zj0, ↓zj1, ↓zj2, ↓zj3, ↓zbd_s, ↓zar_p, ↓zld_p, ↓zst_p, ↓if_pos, ↓if_neg, if_true, if_false]
        · rw [← e, show (0 : Int) = m - s - 1 by omega]
          simp (disch := omega) only [zl3_s, b_L_nth_9, c, ↓zj0, ↓zj1, ↓zj2, ↓zj3, ↓zbd_s, ↓zar_p, ↓zld_p, ↓zst_p, ↓if_pos, ↓if_neg, if_true, if_false]
      · obtain ⟨v, i1, i2, i3⟩ := ih g g2 (s + 1) (y + 1) (by omega) (by omega) (by omega) (by omega) (by omega) (by omega) (by omega)
        clear ih hw
        rw [show m - (s + 1) = m - s - 1 by omega] at i3
        refine ⟨v, i1, ?_, ?_⟩
        · rw [← i2]
          simp (disch := omega) only [zl2_s, b_X7_placeOf_6, hz, w1, ↓zj0, ↓zj1, ↓zj2, ↓zj3, ↓zbd_s, ↓zar_p, ↓zld_p, ↓zst_p, ↓if_pos, ↓if_neg, if_true, if_false]
        · rw [← i3]
          simp (disch := omega) only [zl3_s, b_L_nth_9, c, ↓zj0, ↓zj1, ↓zj2, ↓zj3, ↓zbd_s, ↓zar_p, ↓zld_p, ↓zst_p, ↓if_pos, ↓if_neg, if_true, if_false]
    · obtain ⟨v, i1, i2, i3⟩ := ih g g2 s (y + 1) (by omega) (by omega) (by omega) (by omega) (by omega) (by omega) (by omega)
      clear ih hw
      refine ⟨v, i1, ?_, ?_⟩
      · rw [← i2]
        simp (disch := omega) only [zl2_s, b_X7_placeOf_6, hz, w1, ↓zj0, ↓zj1, ↓zj2, ↓zj3, ↓zbd_s, ↓zar_p, ↓zld_p, ↓zst_p, ↓if_pos, ↓if_neg, if_true, if_false]
      · rw [← i3]
        simp (disch := omega) only [zl3_s, b_L_nth_9, Int.sub_zero, ↓zj0, ↓zj1, ↓zj2, ↓zj3, ↓zbd_s, ↓zar_p, ↓zld_p, ↓zst_p, ↓if_pos, ↓if_neg, if_true, if_false]
theorem q_nth {Ca S : zSt} {n wd m : Int} (hn : 1 ≤ n ∧ n ≤ 12) (hz : m_X7_sizeOf Ca 0 = some (n, Ca)) (hw : ∀ k, 0 ≤ k → k < n → m_X7_wordAt Ca 0 k = some (S.2 1 k, Ca)) (hm : 1 ≤ m ∧ m ≤ 12) : ∃ v, (-1 ≤ v ∧ v < n) ∧ m_X7_placeOf Ca 0 wd m = some (v, Ca) ∧ m_L_nth S n wd m = some (v, S) := by
  obtain ⟨v, h1, h2, h3⟩ := q_nthl (wd := wd) hn.2 hz hw hm.2 n.toNat 1000 1000 0 0 (by omega) (by omega) (by omega) (by omega) (by omega) (by omega) (by omega)
  rw [Int.sub_zero] at h3
  exact ⟨v, h1, h2, h3⟩
/-! the nearest place -/
def zds (a b : Int) : Int := if a ≤ b then b - a else a - b
def zNp (f : Int → Int) (w s b y : Int) : Prop := (b = -1 ∧ ∀ k, 0 ≤ k → k < y → f k ≠ w) ∨ ((0 ≤ b ∧ b < y) ∧ f b = w ∧ ∀ k, 0 ≤ k → k < y → f k = w → zds b s ≤ zds k s ∧ (zds b s = zds k s → b ≤ k))
theorem zNp_skip {f : Int → Int} {w s b y : Int} (h : zNp f w s b y) (hy : f y ≠ w) : zNp f w s b (y + 1) := by
  rcases h with ⟨h1, h2⟩ | ⟨h1, h2, h3⟩
  · refine Or.inl ⟨h1, fun k k1 k2 => ?_⟩
    by_cases e : k = y
    · rw [e]; exact hy
    · exact h2 k k1 (by omega)
  · refine Or.inr ⟨⟨h1.1, by omega⟩, h2, fun k k1 k2 k3 => ?_⟩
    by_cases e : k = y
    · rw [e] at k3; exact absurd k3 hy
    · exact h3 k k1 (by omega) k3
theorem zNp_new {f : Int → Int} {w s b y : Int} (h : zNp f w s b y) (h0 : 0 ≤ y) (hy : f y = w) (hc : b = -1 ∨ zds y s < zds b s) : zNp f w s y (y + 1) := by
  refine Or.inr ⟨⟨h0, by omega⟩, hy, fun k k1 k2 k3 => ?_⟩
  by_cases e : k = y
  · rw [e]; exact ⟨Int.le_refl _, fun _ => Int.le_refl _⟩
  · rcases h with ⟨h1, h2⟩ | ⟨h1, h2, h3⟩
    · exact absurd k3 (h2 k k1 (by omega))
    · have := (h3 k k1 (by omega) k3).1
      have hc : zds y s < zds b s := by omega
      exact ⟨by omega, fun q => by omega⟩
theorem zNp_old {f : Int → Int} {w s b y : Int} (h : zNp f w s b y) (hb : b ≠ -1) (hc : zds b s ≤ zds y s) : zNp f w s b (y + 1) := by
  rcases h with ⟨h1, h2⟩ | ⟨h1, h2, h3⟩
  · exact absurd h1 hb
  · refine Or.inr ⟨⟨h1.1, by omega⟩, h2, fun k k1 k2 k3 => ?_⟩
    by_cases e : k = y
    · rw [e]; exact ⟨hc, fun _ => by omega⟩
    · exact h3 k k1 (by omega) k3
theorem zNp_uniq {f : Int → Int} {w s b c y : Int} (h : zNp f w s b y) (g : zNp f w s c y) : b = c := by
  rcases h with ⟨h1, h2⟩ | ⟨h1, h2, h3⟩
  · rcases g with ⟨g1, g2⟩ | ⟨g1, g2, g3⟩
    · omega
    · exact absurd g2 (h2 c g1.1 g1.2)
  · rcases g with ⟨g1, g2⟩ | ⟨g1, g2, g3⟩
    · exact absurd h2 (g2 b h1.1 h1.2)
    · have a := h3 c g1.1 g1.2 g2
      have d := g3 b h1.1 h1.2 h2
      have e : zds b s = zds c s := by omega
      have := a.2 e
      have := d.2 e.symm
      omega
theorem zds_a {a b : Int} (h : a ≤ b) : zds a b = b - a := if_pos h
theorem zds_b {a b : Int} (h : b ≤ a) : zds a b = a - b := by
  unfold zds
  split
  · omega
  · rfl
theorem q_n1 {Ca : zSt} {f : Int → Int} {n wd s : Int} (hn : 1 ≤ n ∧ n ≤ 12) (hz : m_X7_sizeOf Ca 0 = some (n, Ca)) (hw : ∀ k, 0 ≤ k → k < n → m_X7_wordAt Ca 0 k = some (f k, Ca)) (hs : 0 ≤ s ∧ s ≤ 12) : ∃ v, zNp f wd s v n ∧ m_X7_nearest Ca 0 wd s = some (v, Ca) := by
  refine zw2 (F := b_X7_nearest_6 0 wd s (fun (v1 : Int) (S1 : zSt) => some (v1, S1) : Int → zSt → Option zRes)) (fun d b y T => T = Ca ∧ (0 ≤ y ∧ y + d = n) ∧ (-1 ≤ b ∧ b < y) ∧ zNp f wd s b y) (fun x => ∃ v, zNp f wd s v n ∧ x = some (v, Ca)) ?_ 1000 n.toNat (-1) 0 Ca ⟨rfl, by omega, by omega, Or.inl ⟨rfl, fun k k1 k2 => by omega⟩⟩ (by omega)
  rintro rec d b y T ⟨rfl, ⟨a1, a2⟩, a3, hN⟩
  by_cases c : n ≤ y
  · refine Or.inl ⟨b, by rw [show n = y by omega]; exact hN, ?_⟩
    clear hN hw
    simp (disch := omega) only [b_X7_nearest_6, hz, ↓zj0, ↓zj1, ↓zj2, ↓zj3, ↓zbd_s, ↓zar_p, ↓zld_p, ↓zst_p, ↓if_pos, ↓if_neg, if_true, if_false]
  · have w1 := hw y a1 (by omega)
    clear hw
    refine Or.inr ?_
    by_cases c1 : f y = wd
    · by_cases c2 : b = -1
      · refine ⟨d - 1, y, y + 1, T, by omega, ⟨rfl, by omega, by omega, zNp_new hN a1 c1 (Or.inl c2)⟩, ?_⟩
        clear hN
        simp (disch := omega) only [b_X7_nearest_6, hz, w1, c1, c2, ↓zj0, ↓zj1, ↓zj2, ↓zj3, ↓zbd_s, ↓zar_p, ↓zld_p, ↓zst_p, ↓if_pos, ↓if_neg, if_true, if_false]
      · by_cases c3 : zds y s < zds b s
        · refine ⟨d - 1, y, y + 1, T, by omega, ⟨rfl, by omega, by omega, zNp_new hN a1 c1 (Or.inr c3)⟩, ?_⟩
          clear hN
          by_cases e1 : y ≤ s
          · rw [zds_a e1] at c3
            by_cases e2 : b ≤ s
            · rw [zds_a e2] at c3
              first | (exfalso; omega) | simp (disch := omega) only [b_X7_nearest_6, hz, w1, c1, ↓zj0, ↓zj1, ↓zj2, ↓zj3, ↓zbd_s, ↓zar_p, ↓zld_p, ↓zst_p, ↓if_pos, ↓if_neg, if_true, if_false]
            · rw [zds_b (by omega)] at c3
              first | (exfalso; omega) | simp (disch := omega) only [b_X7_nearest_6, hz, w1, c1, ↓zj0, ↓zj1, ↓zj2, ↓zj3, ↓zbd_s, ↓zar_p, ↓zld_p, ↓zst_p, ↓if_pos, ↓if_neg, if_true, if_false]
          · rw [zds_b (by omega)] at c3
            by_cases e2 : b ≤ s
            · rw [zds_a e2] at c3
              first | (exfalso; omega) | simp (disch := omega) only [b_X7_nearest_6, hz, w1, c1, ↓zj0, ↓zj1, ↓zj2, ↓zj3, ↓zbd_s, ↓zar_p, ↓zld_p, ↓zst_p, ↓if_pos, ↓if_neg, if_true, if_false]
            · rw [zds_b (by omega)] at c3
              first | (exfalso; omega) | simp (disch := omega) only [b_X7_nearest_6, hz, w1, c1, ↓zj0, ↓zj1, ↓zj2, ↓zj3, ↓zbd_s, ↓zar_p, ↓zld_p, ↓zst_p, ↓if_pos, ↓if_neg, if_true, if_false]
        · refine ⟨d - 1, b, y + 1, T, by omega, ⟨rfl, by omega, by omega, zNp_old hN c2 (by omega)⟩, ?_⟩
          clear hN
          by_cases e1 : y ≤ s
          · rw [zds_a e1] at c3
            by_cases e2 : b ≤ s
            · rw [zds_a e2] at c3
              first | (exfalso; omega) | simp (disch := omega) only [b_X7_nearest_6, hz, w1, c1, ↓zj0, ↓zj1, ↓zj2, ↓zj3, ↓zbd_s, ↓zar_p, ↓zld_p, ↓zst_p, ↓if_pos, ↓if_neg, if_true, if_false]
            · rw [zds_b (by omega)] at c3
              first | (exfalso; omega) | simp (disch := omega) only [b_X7_nearest_6, hz, w1, c1, ↓zj0, ↓zj1, ↓zj2, ↓zj3, ↓zbd_s, ↓zar_p, ↓zld_p, ↓zst_p, ↓if_pos, ↓if_neg, if_true, if_false]
          · rw [zds_b (by omega)] at c3
            by_cases e2 : b ≤ s
            · rw [zds_a e2] at c3
              first | (exfalso; omega) | simp (disch := omega) only [b_X7_nearest_6, hz, w1, c1, ↓zj0, ↓zj1, ↓zj2, ↓zj3, ↓zbd_s, ↓zar_p, ↓zld_p, ↓zst_p, ↓if_pos, ↓if_neg, if_true, if_false]
            · rw [zds_b (by omega)] at c3
              first | (exfalso; omega) | simp (disch := omega) only [b_X7_nearest_6, hz, w1, c1, ↓zj0, ↓zj1, ↓zj2, ↓zj3, ↓zbd_s, ↓zar_p, ↓zld_p, ↓zst_p, ↓if_pos, ↓if_neg, if_true, if_false]
    · refine ⟨d - 1, b, y + 1, T, by omega, ⟨rfl, by omega, by omega, zNp_skip hN c1⟩, ?_⟩
      clear hN
      simp (disch := omega) only [b_X7_nearest_6, hz, w1, ↓zj0, ↓zj1, ↓zj2, ↓zj3, ↓zbd_s, ↓zar_p, ↓zld_p, ↓zst_p, ↓if_pos, ↓if_neg, if_true, if_false]
theorem q_n2 {S : zSt} {n wd s : Int} (hn : 1 ≤ n ∧ n ≤ 12) (hs : 0 ≤ s ∧ s < n) : ∃ v, zNp (S.2 1) wd s v n ∧ m_L_near S n wd s = some (v, S) := by
  refine zw1 (F := b_L_near_3 n wd s (fun (S1 : zSt) => some ((-1), S1) : zSt → Option zRes)) (fun d a T => T = S ∧ (0 ≤ a ∧ a + d = 12) ∧ ∀ k, 0 ≤ k → k < n → S.2 1 k = wd → a ≤ zds k s) (fun x => ∃ v, zNp (S.2 1) wd s v n ∧ x = some (v, S)) ?_ 1000 12 0 S ⟨rfl, by omega, fun k k1 k2 k3 => by unfold zds; split <;> omega⟩ (by omega)
  rintro rec d a T ⟨rfl, ⟨a1, a2⟩, hN⟩
  by_cases c : 12 ≤ a
  · refine Or.inl ⟨-1, Or.inl ⟨rfl, fun k k1 k2 k3 => ?_⟩, ?_⟩
    · have h := hN k k1 k2 k3
      unfold zds at h
      split at h <;> omega
    · clear hN
      simp (disch := omega) only [b_L_near_3, ↓zj0, ↓zj1, ↓zj2, ↓zj3, ↓zbd_s, ↓zar_p, ↓zld_p, ↓zst_p, ↓if_pos, ↓if_neg, if_true, if_false]
  · by_cases c1 : 0 ≤ s - a ∧ T.2 1 (s - a) = wd
    · refine Or.inl ⟨s - a, Or.inr ⟨by omega, c1.2, fun k k1 k2 k3 => ?_⟩, ?_⟩
      · have h := hN k k1 k2 k3
        rw [zds_a (show s - a ≤ s by omega)]
        refine ⟨by omega, fun q => ?_⟩
        unfold zds at q
        split at q <;> omega
      · have c2 := c1.2
        have c3 := c1.1
        clear hN c1
        simp (disch := omega) only [b_L_near_3, c2, ↓zj0, ↓zj1, ↓zj2, ↓zj3, ↓zbd_s, ↓zar_p, ↓zld_p, ↓zst_p, ↓if_pos, ↓if_neg, if_true, if_false]
    · by_cases c2 : s + a < n ∧ T.2 1 (s + a) = wd
      · refine Or.inl ⟨s + a, Or.inr ⟨by omega, c2.2, fun k k1 k2 k3 => ?_⟩, ?_⟩
        · have h := hN k k1 k2 k3
          rw [zds_b (show s ≤ s + a by omega)]
          refine ⟨by omega, fun q => ?_⟩
          by_cases e : k = s - a
          · rw [e] at k1 k3
            exact absurd ⟨k1, k3⟩ c1
          · unfold zds at q
            split at q <;> omega
        · have c3 := c2.2
          have c4 := c2.1
          clear hN c2
          by_cases e : 0 ≤ s - a
          · have c5 : T.2 1 (s - a) ≠ wd := fun q => c1 ⟨e, q⟩
            clear c1
            simp (disch := omega) only [b_L_near_3, c3, ↓zj0, ↓zj1, ↓zj2, ↓zj3, ↓zbd_s, ↓zar_p, ↓zld_p, ↓zst_p, ↓if_pos, ↓if_neg, if_true, if_false]
          · clear c1
            simp (disch := omega) only [b_L_near_3, c3, ↓zj0, ↓zj1, ↓zj2, ↓zj3, ↓zbd_s, ↓zar_p, ↓zld_p, ↓zst_p, ↓if_pos, ↓if_neg, if_true, if_false]
      · refine Or.inr ⟨d - 1, a + 1, T, by omega, ⟨rfl, by omega, fun k k1 k2 k3 => ?_⟩, ?_⟩
        · have h := hN k k1 k2 k3
          by_cases e : k = s - a
          · rw [e] at k1 k3
            exact absurd ⟨k1, k3⟩ c1
          · by_cases e2 : k = s + a
            · rw [e2] at k2 k3
              exact absurd ⟨k2, k3⟩ c2
            · unfold zds at h ⊢
              split at h <;> split <;> omega
        · clear hN
          by_cases e : 0 ≤ s - a
          · have c5 : T.2 1 (s - a) ≠ wd := fun q => c1 ⟨e, q⟩
            clear c1
            by_cases e2 : s + a < n
            · have c6 : T.2 1 (s + a) ≠ wd := fun q => c2 ⟨e2, q⟩
              clear c2
              simp (disch := omega) only [b_L_near_3, ↓zj0, ↓zj1, ↓zj2, ↓zj3, ↓zbd_s, ↓zar_p, ↓zld_p, ↓zst_p, ↓if_pos, ↓if_neg, if_true, if_false]
            · clear c2
              simp (disch := omega) only [b_L_near_3, ↓zj0, ↓zj1, ↓zj2, ↓zj3, ↓zbd_s, ↓zar_p, ↓zld_p, ↓zst_p, ↓if_pos, ↓if_neg, if_true, if_false]
          · clear c1
            by_cases e2 : s + a < n
            · have c6 : T.2 1 (s + a) ≠ wd := fun q => c2 ⟨e2, q⟩
              clear c2
              simp (disch := omega) only [b_L_near_3, ↓zj0, ↓zj1, ↓zj2, ↓zj3, ↓zbd_s, ↓zar_p, ↓zld_p, ↓zst_p, ↓if_pos, ↓if_neg, if_true, if_false]
            · clear c2
              simp (disch := omega) only [b_L_near_3, ↓zj0, ↓zj1, ↓zj2, ↓zj3, ↓zbd_s, ↓zar_p, ↓zld_p, ↓zst_p, ↓if_pos, ↓if_neg, if_true, if_false]
theorem q_nr {Ca S : zSt} {n wd s : Int} (hn : 1 ≤ n ∧ n ≤ 12) (hz : m_X7_sizeOf Ca 0 = some (n, Ca)) (hw : ∀ k, 0 ≤ k → k < n → m_X7_wordAt Ca 0 k = some (S.2 1 k, Ca)) (hs : 0 ≤ s ∧ s < n) : ∃ v, (-1 ≤ v ∧ v < n) ∧ m_X7_nearest Ca 0 wd s = some (v, Ca) ∧ m_L_near S n wd s = some (v, S) := by
  obtain ⟨v, h1, h2⟩ := q_n1 (f := S.2 1) (wd := wd) (s := s) hn hz hw ⟨hs.1, by omega⟩
  obtain ⟨v2, h3, h4⟩ := q_n2 (S := S) (wd := wd) hn hs
  have e := zNp_uniq h1 h3
  rw [← e] at h4
  refine ⟨v, ?_, h2, h4⟩
  rcases h1 with ⟨h1, -⟩ | ⟨h1, -, -⟩ <;> omega
end
section
/-! p28, the pure side: a word emended or taken out, and the hooks -/
def zst7 (io gap n x : Int) : Int := if io = 1 ∧ gap < x then x - 1 else if io = 1 ∧ n ≤ x then n - 1 else x
theorem zst7_b {io gap n x : Int} (hn : 1 ≤ n) (hg : 0 ≤ gap) (hx : 0 ≤ x) (hx2 : x < n + io) (hio : io = 0 ∨ io = 1) : 0 ≤ zst7 io gap n x ∧ zst7 io gap n x < n := by
  unfold zst7
  repeat' split
  all_goals omega
theorem q_lk {S : zSt} {k n gap io x i v s : Int} {rec : Int → Int → zSt → Option zL5} {j10 : Int → Int → zSt → Option zL5} (hn : 1 ≤ n ∧ n ≤ 12) (hk : k ≤ 60) (hi : 0 ≤ i ∧ i < k) (hx : 0 ≤ x ∧ x ≤ 60) (hp : 0 ≤ S.2 5 i ∧ S.2 5 i ≤ 12) (hio : io = 0 ∨ io = 1) (hs : zst7 io gap n (S.2 5 i) = s) (hv : m_L_near S n (S.2 3 i) s = some (v, S)) (hl : S.2 7 i = 0 ∨ S.2 7 i = 1) : b_L_law_405 k j10 io gap n rec x i S = (if v < 0 then (if S.2 7 i = 1 then rec x (i + 1) (zput (zput S 7 i 1) 5 i s) else rec (x + 1) (i + 1) (zput (zput S 7 i 1) 5 i s)) else (if S.2 7 i = 0 then rec x (i + 1) (zput (zput S 7 i 0) 5 i v) else rec (x + 1) (i + 1) (zput (zput S 7 i 0) 5 i v))) := by
  unfold zst7 at hs
  rcases hio with rfl | rfl
  · rw [if_neg (by omega), if_neg (by omega)] at hs
    subst hs
    by_cases cv : v < 0
    · rcases hl with hl1 | hl1
      · simp (disch := omega) only [b_L_law_405, hv, hl1, Int.add_zero, ↓zj0, ↓zj1, ↓zj2, ↓zj3, ↓zbd_s, ↓zar_p, ↓zld_p, ↓zst_p, ↓if_pos, ↓if_neg, if_true, if_false]
      · simp (disch := omega) only [b_L_law_405, hv, hl1, Int.add_zero, ↓zj0, ↓zj1, ↓zj2, ↓zj3, ↓zbd_s, ↓zar_p, ↓zld_p, ↓zst_p, ↓if_pos, ↓if_neg, if_true, if_false]
    · rcases hl with hl1 | hl1
      · simp (disch := omega) only [b_L_law_405, hv, hl1, Int.add_zero, ↓zj0, ↓zj1, ↓zj2, ↓zj3, ↓zbd_s, ↓zar_p, ↓zld_p, ↓zst_p, ↓if_pos, ↓if_neg, if_true, if_false]
      · simp (disch := omega) only [b_L_law_405, hv, hl1, Int.add_zero, ↓zj0, ↓zj1, ↓zj2, ↓zj3, ↓zbd_s, ↓zar_p, ↓zld_p, ↓zst_p, ↓if_pos, ↓if_neg, if_true, if_false]
  · by_cases g1 : gap < S.2 5 i
    · rw [if_pos (by omega)] at hs
      subst hs
      by_cases cv : v < 0
      · rcases hl with hl1 | hl1
        · simp (disch := omega) only [b_L_law_405, hv, hl1, Int.add_zero, ↓zj0, ↓zj1, ↓zj2, ↓zj3, ↓zbd_s, ↓zar_p, ↓zld_p, ↓zst_p, ↓if_pos, ↓if_neg, if_true, if_false]
        · simp (disch := omega) only [b_L_law_405, hv, hl1, Int.add_zero, ↓zj0, ↓zj1, ↓zj2, ↓zj3, ↓zbd_s, ↓zar_p, ↓zld_p, ↓zst_p, ↓if_pos, ↓if_neg, if_true, if_false]
      · rcases hl with hl1 | hl1
        · simp (disch := omega) only [b_L_law_405, hv, hl1, Int.add_zero, ↓zj0, ↓zj1, ↓zj2, ↓zj3, ↓zbd_s, ↓zar_p, ↓zld_p, ↓zst_p, ↓if_pos, ↓if_neg, if_true, if_false]
        · simp (disch := omega) only [b_L_law_405, hv, hl1, Int.add_zero, ↓zj0, ↓zj1, ↓zj2, ↓zj3, ↓zbd_s, ↓zar_p, ↓zld_p, ↓zst_p, ↓if_pos, ↓if_neg, if_true, if_false]
    · rw [if_neg (by omega)] at hs
      by_cases g2 : n ≤ S.2 5 i
      · rw [if_pos (by omega)] at hs
        subst hs
        by_cases cv : v < 0
        · rcases hl with hl1 | hl1
          · simp (disch := omega) only [b_L_law_405, hv, hl1, Int.add_zero, ↓zj0, ↓zj1, ↓zj2, ↓zj3, ↓zbd_s, ↓zar_p, ↓zld_p, ↓zst_p, ↓if_pos, ↓if_neg, if_true, if_false]
          · simp (disch := omega) only [b_L_law_405, hv, hl1, Int.add_zero, ↓zj0, ↓zj1, ↓zj2, ↓zj3, ↓zbd_s, ↓zar_p, ↓zld_p, ↓zst_p, ↓if_pos, ↓if_neg, if_true, if_false]
        · rcases hl with hl1 | hl1
          · simp (disch := omega) only [b_L_law_405, hv, hl1, Int.add_zero, ↓zj0, ↓zj1, ↓zj2, ↓zj3, ↓zbd_s, ↓zar_p, ↓zld_p, ↓zst_p, ↓if_pos, ↓if_neg, if_true, if_false]
          · simp (disch := omega) only [b_L_law_405, hv, hl1, Int.add_zero, ↓zj0, ↓zj1, ↓zj2, ↓zj3, ↓zbd_s, ↓zar_p, ↓zld_p, ↓zst_p, ↓if_pos, ↓if_neg, if_true, if_false]
      · rw [if_neg (by omega)] at hs
        subst hs
        by_cases cv : v < 0
        · rcases hl with hl1 | hl1
          · simp (disch := omega) only [b_L_law_405, hv, hl1, Int.add_zero, ↓zj0, ↓zj1, ↓zj2, ↓zj3, ↓zbd_s, ↓zar_p, ↓zld_p, ↓zst_p, ↓if_pos, ↓if_neg, if_true, if_false]
          · simp (disch := omega) only [b_L_law_405, hv, hl1, Int.add_zero, ↓zj0, ↓zj1, ↓zj2, ↓zj3, ↓zbd_s, ↓zar_p, ↓zld_p, ↓zst_p, ↓if_pos, ↓if_neg, if_true, if_false]
        · rcases hl with hl1 | hl1
          · simp (disch := omega) only [b_L_law_405, hv, hl1, Int.add_zero, ↓zj0, ↓zj1, ↓zj2, ↓zj3, ↓zbd_s, ↓zar_p, ↓zld_p, ↓zst_p, ↓if_pos, ↓if_neg, if_true, if_false]
          · simp (disch := omega) only [b_L_law_405, hv, hl1, Int.add_zero, ↓zj0, ↓zj1, ↓zj2, ↓zj3, ↓zbd_s, ↓zar_p, ↓zld_p, ↓zst_p, ↓if_pos, ↓if_neg, if_true, if_false]
/-- the hooks anew, on both sides -/
def zhl (Ca : zSt) (p l : Int → Int) (n i : Int) (f g p' l' : Int → Int) : Prop := (∀ j, 0 ≤ j → j < i → f j = p' j ∧ (0 ≤ p' j ∧ p' j < n) ∧ g j = l' j ∧ (l' j = 0 ∨ l' j = 1)) ∧ ∀ j, ¬ (0 ≤ j ∧ j < i) → f j = Ca.2 14 j ∧ p' j = p j ∧ g j = Ca.2 16 j ∧ l' j = l j
theorem zhl_s {Ca : zSt} {p l : Int → Int} {n i : Int} {f g p' l' f9 g9 p9 l9 : Int → Int} (h : zhl Ca p l n i f g p' l') (h0 : 0 ≤ i) (e : ∀ j, j ≠ i → f9 j = f j ∧ g9 j = g j ∧ p9 j = p' j ∧ l9 j = l' j) (e1 : f9 i = p9 i) (e2 : 0 ≤ p9 i ∧ p9 i < n) (e3 : g9 i = l9 i) (e4 : l9 i = 0 ∨ l9 i = 1) : zhl Ca p l n (i + 1) f9 g9 p9 l9 := by
  refine ⟨fun j j1 j2 => ?_, fun j hj => ?_⟩
  · by_cases q : j = i
    · rw [q]; exact ⟨e1, e2, e3, e4⟩
    · obtain ⟨a1, a2, a3, a4⟩ := e j q
      rw [a1, a2, a3, a4]
      exact h.1 j j1 (by omega)
  · have q : j ≠ i := fun q => hj (by omega)
    obtain ⟨a1, a2, a3, a4⟩ := e j q
    rw [a1, a2, a3, a4]
    exact h.2 j (fun z => hj ⟨z.1, by omega⟩)
theorem q_hll {Ca C : zSt} {r w p l : Int → Int} {k n gap io : Int} (hk : Ca.1 3 = k) (hk2 : 0 ≤ k ∧ k ≤ 60) (hu : Ca.1 1 = 1) (hs : Ca.2 2 0 = n) (hn : 1 ≤ n ∧ n ≤ 12) (hr : ∀ j, 0 ≤ j → j < n → Ca.2 1 j = r j) (hio : io = 0 ∨ io = 1) (hg : 0 ≤ gap) (hh : ∀ i, 0 ≤ i → i < k → Ca.2 11 i = -1 ∧ Ca.2 13 i = 0 ∧ Ca.2 15 i = w i ∧ Ca.2 14 i = zst7 io gap n (p i) ∧ (0 ≤ p i ∧ p i < n + io) ∧ Ca.2 16 i = l i ∧ (l i = 0 ∨ l i = 1)) : ∀ (d q1 q2 : Nat) (x i : Int) (f g p' l' : Int → Int), 0 ≤ i → i + d = k → 0 ≤ x ∧ x ≤ i → zhl Ca p l n i f g p' l' → d < q1 → d < q2 → ∃ x9 f9 g9 p9 l9, zl2 q1 (b_X1_hookAnew_5 0 (fun (v1 : Int) (S1 : zSt) => some (v1, S1) : Int → zSt → Option zRes)) x i (zrp (zrp Ca 14 f) 16 g) = some (x9, zrp (zrp Ca 14 f9) 16 g9) ∧ (∀ j10 : Int → Int → zSt → Option zL5, zl2 q2 (b_L_law_405 k j10 io gap n) x i (zLw C r w p' l') = j10 n x9 (zLw C r w p9 l9)) ∧ zhl Ca p l n k f9 g9 p9 l9 := by
  intro d
  induction d with
  | zero =>
    intro q1 q2 x i f g p' l' a1 a2 a3 hz b1 b2
    obtain ⟨q1, rfl⟩ : ∃ k, q1 = k + 1 := ⟨q1 - 1, by omega⟩
    obtain ⟨q2, rfl⟩ : ∃ k, q2 = k + 1 := ⟨q2 - 1, by omega⟩
    have e1 : (zrp (zrp Ca 14 f) 16 g).1 3 = k := hk
    refine ⟨x, f, g, p', l', ?_, fun j10 => ?_, by rw [show k = i by omega]; exact hz⟩
    · clear hz hh hr; simp (disch := omega) only [zl2_s, b_X1_hookAnew_5, e1, ↓zj0, ↓zj1, ↓zj2, ↓zj3, ↓zbd_s, ↓zar_p, ↓zld_p, ↓zst_p, ↓if_pos, ↓if_neg, if_true, if_false, zlt]
    · clear hz hh hr; simp (disch := omega) only [zl2_s, b_L_law_405, ↓zj0, ↓zj1, ↓zj2, ↓zj3, ↓zbd_s, ↓zar_p, ↓zld_p, ↓zst_p, ↓if_pos, ↓if_neg, if_true, if_false]
  | succ d ih =>
    intro q1 q2 x i f g p' l' a1 a2 a3 hz b1 b2
    obtain ⟨q1, rfl⟩ : ∃ k, q1 = k + 1 := ⟨q1 - 1, by omega⟩
    obtain ⟨q2, rfl⟩ : ∃ k, q2 = k + 1 := ⟨q2 - 1, by omega⟩
    have e1 : (zrp (zrp Ca 14 f) 16 g).1 3 = k := hk
    obtain ⟨h1, h2, h3, h4, h5, h6, h7⟩ := hh i a1 (by omega)
    obtain ⟨z1, z2, z3, z4⟩ := hz.2 i (by omega)
    have hb := zst7_b (gap := gap) hn.1 hg h5.1 h5.2 hio
    have hzz : m_X7_sizeOf (zrp (zrp Ca 14 f) 16 g) 0 = some (n, zrp (zrp Ca 14 f) 16 g) := p_sz hu hs
    have hww : ∀ q, 0 ≤ q → q < n → m_X7_wordAt (zrp (zrp Ca 14 f) 16 g) 0 q = some ((zLw C r w p' l').2 1 q, zrp (zrp Ca 14 f) 16 g) := fun q q1 q2 => by
      rw [p_wa (C := zrp (zrp Ca 14 f) 16 g) hu hs hn.2 q q1, if_pos q2]
      exact congrArg (fun t => some (t, zrp (zrp Ca 14 f) 16 g)) (hr q q1 q2)
    obtain ⟨v, v1, v2, v3⟩ := q_nr (wd := w i) (s := zst7 io gap n (p i)) hn hzz hww hb
    have st1 := q_hk1 (S := zrp (zrp Ca 14 f) 16 g) (u := 0) (x := x) (i := i) (rec := zl2 q1 (b_X1_hookAnew_5 0 (fun (v1 : Int) (S1 : zSt) => some (v1, S1) : Int → zSt → Option zRes))) (j1 := (fun (v1 : Int) (S1 : zSt) => some (v1, S1) : Int → zSt → Option zRes)) e1 hk2.2 ⟨a1, by omega⟩ ⟨a3.1, by omega⟩ h1 h2 (r := v) (by
      have q1 : (zrp (zrp Ca 14 f) 16 g).2 15 i = w i := h3
      have q2 : (zrp (zrp Ca 14 f) 16 g).2 14 i = zst7 io gap n (p i) := z1.trans h4
      rw [q1, q2]; exact v2) ⟨v1.1, by omega⟩ (by
      have q1 : (zrp (zrp Ca 14 f) 16 g).2 16 i = l i := z3.trans h6
      rw [q1]; exact h7)
    have st2 : ∀ j10 : Int → Int → zSt → Option zL5, b_L_law_405 k j10 io gap n (zl2 q2 (b_L_law_405 k j10 io gap n)) x i (zLw C r w p' l') = (if v < 0 then (if l i = 1 then zl2 q2 (b_L_law_405 k j10 io gap n) x (i + 1) (zLw C r w (zfu p' i (zst7 io gap n (p i))) (zfu l' i 1)) else zl2 q2 (b_L_law_405 k j10 io gap n) (x + 1) (i + 1) (zLw C r w (zfu p' i (zst7 io gap n (p i))) (zfu l' i 1))) else (if l i = 0 then zl2 q2 (b_L_law_405 k j10 io gap n) x (i + 1) (zLw C r w (zfu p' i v) (zfu l' i 0)) else zl2 q2 (b_L_law_405 k j10 io gap n) (x + 1) (i + 1) (zLw C r w (zfu p' i v) (zfu l' i 0)))) := fun j10 => by
      have e := q_lk (S := zLw C r w p' l') (k := k) (n := n) (gap := gap) (io := io) (x := x) (i := i) (v := v) (s := zst7 io gap n (p i)) (rec := zl2 q2 (b_L_law_405 k j10 io gap n)) (j10 := j10) hn hk2.2 ⟨a1, by omega⟩ ⟨a3.1, by omega⟩ (by rw [zLw_5, z2]; omega) hio (by rw [zLw_5, z2]) (by rw [zLw_3]; exact v3) (by rw [zLw_7, z4]; exact h7)
      rw [zLw_7, z4, zLw_p7, zLw_p7, zLw_p5, zLw_p5] at e
      exact e
    have y1 : (zrp (zrp Ca 14 f) 16 g).2 16 i = l i := z3.trans h6
    rw [y1, zput_rp, zput_rp2 (a := 14) (b := 16) _ _ _ _ _ (by decide), zput_rp] at st1
    have hne : ∀ (F : Int → Int) (v : Int) (j : Int), j ≠ i → zfu F i v j = F j := fun F v j e => zfu_n F v e
    rw [zl2_s]
    have st2 : ∀ j10 : Int → Int → zSt → Option zL5, zl2 (q2 + 1) (b_L_law_405 k j10 io gap n) x i (zLw C r w p' l') = _ := fun j10 => (zl2_s q2 _ x i _).trans (st2 j10)
    by_cases c1 : v = -1
    · rw [if_pos c1] at st1
      simp only [if_pos (show v < 0 by omega)] at st2
      by_cases c2 : l i = 1
      · rw [if_pos c2] at st1
        simp only [if_pos c2] at st2
        obtain ⟨x9, f9, g9, p9, l9, i1, i2, i3⟩ := ih q1 q2 x (i + 1) f g (zfu p' i (zst7 io gap n (p i))) (zfu l' i 1) (by omega) (by omega) (by omega) (zhl_s hz a1 (fun j e => ⟨rfl, rfl, hne _ _ _ e, hne _ _ _ e⟩) (by rw [zfu_e, z1, h4]) (by rw [zfu_e]; exact hb) (by rw [zfu_e, z3, h6, c2]) (by rw [zfu_e]; exact Or.inr rfl)) (by omega) (by omega)
        exact ⟨x9, f9, g9, p9, l9, st1.trans i1, fun j10 => (st2 j10).trans (i2 j10), i3⟩
      · rw [if_neg c2] at st1
        simp only [if_neg c2] at st2
        obtain ⟨x9, f9, g9, p9, l9, i1, i2, i3⟩ := ih q1 q2 (x + 1) (i + 1) f (zfu g i 1) (zfu p' i (zst7 io gap n (p i))) (zfu l' i 1) (by omega) (by omega) (by omega) (zhl_s hz a1 (fun j e => ⟨rfl, hne _ _ _ e, hne _ _ _ e, hne _ _ _ e⟩) (by rw [zfu_e, z1, h4]) (by rw [zfu_e]; exact hb) (by rw [zfu_e, zfu_e]) (by rw [zfu_e]; exact Or.inr rfl)) (by omega) (by omega)
        exact ⟨x9, f9, g9, p9, l9, st1.trans i1, fun j10 => (st2 j10).trans (i2 j10), i3⟩
    · rw [if_neg c1] at st1
      simp only [if_neg (show ¬ v < 0 by omega)] at st2
      by_cases c2 : l i = 0
      · rw [if_pos c2] at st1
        simp only [if_pos c2] at st2
        obtain ⟨x9, f9, g9, p9, l9, i1, i2, i3⟩ := ih q1 q2 x (i + 1) (zfu f i v) g (zfu p' i v) (zfu l' i 0) (by omega) (by omega) (by omega) (zhl_s hz a1 (fun j e => ⟨hne _ _ _ e, rfl, hne _ _ _ e, hne _ _ _ e⟩) (by rw [zfu_e, zfu_e]) (by rw [zfu_e]; omega) (by rw [zfu_e, z3, h6, c2]) (by rw [zfu_e]; exact Or.inl rfl)) (by omega) (by omega)
        exact ⟨x9, f9, g9, p9, l9, st1.trans i1, fun j10 => (st2 j10).trans (i2 j10), i3⟩
      · rw [if_neg c2] at st1
        simp only [if_neg c2] at st2
        obtain ⟨x9, f9, g9, p9, l9, i1, i2, i3⟩ := ih q1 q2 (x + 1) (i + 1) (zfu f i v) (zfu g i 0) (zfu p' i v) (zfu l' i 0) (by omega) (by omega) (by omega) (zhl_s hz a1 (fun j e => ⟨hne _ _ _ e, hne _ _ _ e, hne _ _ _ e, hne _ _ _ e⟩) (by rw [zfu_e, zfu_e]) (by rw [zfu_e]; omega) (by rw [zfu_e, zfu_e]) (by rw [zfu_e]; exact Or.inl rfl)) (by omega) (by omega)
        exact ⟨x9, f9, g9, p9, l9, st1.trans i1, fun j10 => (st2 j10).trans (i2 j10), i3⟩
theorem q_hl {Ca C : zSt} {r w p l : Int → Int} {k n gap io : Int} (hk : Ca.1 3 = k) (hk2 : 0 ≤ k ∧ k ≤ 60) (hu : Ca.1 1 = 1) (hs : Ca.2 2 0 = n) (hn : 1 ≤ n ∧ n ≤ 12) (hr : ∀ j, 0 ≤ j → j < n → Ca.2 1 j = r j) (hio : io = 0 ∨ io = 1) (hg : 0 ≤ gap) (hh : ∀ i, 0 ≤ i → i < k → Ca.2 11 i = -1 ∧ Ca.2 13 i = 0 ∧ Ca.2 15 i = w i ∧ Ca.2 14 i = zst7 io gap n (p i) ∧ (0 ≤ p i ∧ p i < n + io) ∧ Ca.2 16 i = l i ∧ (l i = 0 ∨ l i = 1)) : ∃ x f g p' l', m_X1_hookAnew Ca 0 = some (x, zrp (zrp Ca 14 f) 16 g) ∧ (∀ j10 : Int → Int → zSt → Option zL5, zl2 1000 (b_L_law_405 k j10 io gap n) 0 0 (zLw C r w p l) = j10 n x (zLw C r w p' l')) ∧ zhl Ca p l n k f g p' l' := by
  obtain ⟨x, f, g, p', l', e1, e2, e3⟩ := q_hll (C := C) hk hk2 hu hs hn hr hio hg hh k.toNat 1000 1000 0 0 (Ca.2 14) (Ca.2 16) p l (Int.le_refl 0) (by omega) (by omega) ⟨fun j j1 j2 => by omega, fun j _ => ⟨rfl, rfl, rfl, rfl⟩⟩ (by omega) (by omega)
  rw [zrp2_self] at e1
  exact ⟨x, f, g, p', l', e1, e2, e3⟩
/-! the law's row, a word taken out of it -/
theorem q_339a {C : zSt} {r w p l : Int → Int} {n a : Int} {j21 : zSt → Option zL5} (hn : 1 ≤ n ∧ n ≤ 12) (ha : 0 ≤ a ∧ a < n) : zl1 1000 (b_L_law_339 n j21 1) a (zLw C r w p l) = j21 (zLw C (zsh r a (n - 1)) w p l) := by
  refine zw1 (F := b_L_law_339 n j21 1) (fun d i T => (a ≤ i ∧ i + d = n - 1) ∧ T = zLw C (zsh r a i) w p l) (fun x => x = j21 (zLw C (zsh r a (n - 1)) w p l)) ?_ 1000 (n - 1 - a).toNat a (zLw C r w p l) ⟨by omega, by rw [zsh_0 r (Int.le_refl a)]⟩ (by omega)
  rintro rec d i T ⟨⟨a1, a2⟩, rfl⟩
  by_cases c : n - 1 ≤ i
  · refine Or.inl ?_
    rw [show n - 1 = i by omega]
    simp (disch := omega) only [b_L_law_339, ↓zj0, ↓zj1, ↓zj2, ↓zj3, ↓zbd_s, ↓zar_p, ↓zld_p, ↓zst_p, ↓if_pos, ↓if_neg, if_true, if_false]
  · refine Or.inr ⟨d - 1, i + 1, _, by omega, ⟨by omega, rfl⟩, ?_⟩
    have e : zLw C (zsh r a (i + 1)) w p l = zput (zLw C (zsh r a i) w p l) 1 i (r (i + 1)) := by rw [zLw_p1, zsh_s r (by omega)]
    have e2 : (zLw C (zsh r a i) w p l).2 1 (i + 1) = r (i + 1) := by rw [zLw_1, zsh_at r (by omega)]
    rw [e]
    generalize zLw C (zsh r a i) w p l = T at *
    simp (disch := omega) only [b_L_law_339, e2, ↓zj0, ↓zj1, ↓zj2, ↓zj3, ↓zbd_s, ↓zar_p, ↓zld_p, ↓zst_p, ↓if_pos, ↓if_neg, if_true, if_false]
theorem q_339b {S : zSt} {n a : Int} {j21 : zSt → Option zL5} (hn : 1 ≤ n ∧ n ≤ 12) (ha : 0 ≤ a ∧ a < n) : zl1 1000 (b_L_law_339 n j21 0) a S = j21 S := by
  refine (zl1_s 999 _ a S).trans ?_
  by_cases c : n - 1 ≤ a
  · simp (disch := omega) only [b_L_law_339, ↓zj0, ↓zj1, ↓zj2, ↓zj3, ↓zbd_s, ↓zar_p, ↓zld_p, ↓zst_p, ↓if_pos, ↓if_neg, if_true, if_false]
  · simp (disch := omega) only [b_L_law_339, ↓zj0, ↓zj1, ↓zj2, ↓zj3, ↓zbd_s, ↓zar_p, ↓zld_p, ↓zst_p, ↓if_pos, ↓if_neg, if_true, if_false]
end
section
/-! p28, the pure side: one turn of the law -/
noncomputable def tB (a9 : Int) : Int → Int → Int → zSt → Option zL5 := fun (v1 : Int) (v2 : Int) (v3 : Int) (S2 : zSt) => zj1 (fun (v4 : Int) (S3 : zSt) => zj1 (fun (v5 : Int) (S4 : zSt) => zar (a9 + 1) fun x3 => some (v5, v1, v3, x3, S4)) fun j1 => zl2 1000 (b_L_law_646 j1 v1) v4 0 S3) fun j5 => zl2 1000 (b_L_law_578 j5 v3) v2 0 S2
noncomputable def mC2 (j8 : Int → Int → Int → zSt → Option zL5) (S : zSt) (a6 a8 wd m : Int) : Option zL5 := zbd (m_L_nth S a6 wd m) fun x42 S46 => zbw ["java/lang/IllegalStateException"] wd (m_X8_comment (zpC S46) 0 0 4 wd m 1 (wd % 2)) S46 fun x43 S47 => zj1 (fun (v30 : Int) (S48 : zSt) => zj1 (fun (v31 : Int) (S49 : zSt) => zj1 (fun (v32 : Int) (S50 : zSt) => j8 a6 v31 v32 S50) fun j26 => if x42 < 0 then (j26 a8 S49) else (zst S49 3 60 a8 wd fun S51 => zst S51 5 60 a8 x42 fun S52 => zst S52 7 60 a8 0 fun S53 => zar (a8 + 1) fun x44 => j26 x44 S53)) fun j27 => if x43 = v30 then (j27 1 S48) else (j27 0 S48)) fun j28 => if 0 ≤ x42 then (j28 a8 S47) else (j28 (-1003) S47)
noncomputable def mC (j8 : Int → Int → Int → zSt → Option zL5) (x1 : Int) (S1 : zSt) (a6 a8 : Int) : Option zL5 := zdq x1 8 fun x37 => zbd (m_L_up S1 x37 4) fun x38 S44 => zdq x1 32 fun x39 => zbd (m_L_up S44 x39 3) fun x40 S45 => zar (1 + x40) fun x41 => mC2 j8 S45 a6 a8 x38 x41
noncomputable def mE2 (z1 : ((Int → zSt → Option zL5) → Int → zSt → Option zL5) → Int → zSt → Option zL5) (z2 : ((Int → Int → zSt → Option zL5) → Int → Int → zSt → Option zL5) → Int → Int → zSt → Option zL5) (j8 : Int → Int → Int → zSt → Option zL5) (S : zSt) (a6 a8 gap wd : Int) : Option zL5 := zj1 (fun (v14 : Int) (S19 : zSt) => zj1 (fun (v15 : Int) (S20 : zSt) => zj2 (fun (v16 : Int) (v17 : Int) (S21 : zSt) => zbw ["java/lang/IndexOutOfBoundsException", "java/lang/IllegalStateException"] 0 (m_X8_emend (zpC S21) 0 gap wd) S21 fun x17 S22 => zj1 (fun (v18 : Int) (S23 : zSt) => j8 v16 v18 a8 S23) fun j9 => if x17 = v17 then (j9 1 S22) else (j9 0 S22)) fun j10 => if v15 = 0 then (zj0 (fun (S24 : zSt) => zj1 (fun (v19 : Int) (S25 : zSt) => zar (a6 - v19) fun x18 => zj1 (fun (v20 : Int) (S26 : zSt) => zst S26 1 12 gap v20 fun S27 => z2 (b_L_law_405 a8 j10 v14 gap x18) v15 0 S27) fun j19 => if v14 = 0 then (j19 wd S25) else (zld (S25.2 1) 12 gap fun x30 => j19 x30 S25)) fun j20 => if v14 = 0 then (j20 0 S24) else (j20 1 S24)) fun j21 => z1 (b_L_law_339 a6 j21 v14) gap S20) else (j10 a6 v15 S20)) fun j22 => if gap < a6 then (zj0 (fun (S42 : zSt) => j22 0 S42) fun j23 => if v14 = 0 then (j23 S19) else (if a6 = 1 then (j22 (-1003) S19) else (j23 S19))) else (j22 (-1001) S19)) fun j24 => if 0 ≤ wd then (j24 0 S) else (j24 1 S)
noncomputable def mE (j8 : Int → Int → Int → zSt → Option zL5) (x1 : Int) (S1 : zSt) (a6 a8 : Int) : Option zL5 := zdq x1 8 fun x13 => zbd (m_L_up S1 x13 13) fun x14 S16 => zdq x1 128 fun x15 => zbd (m_L_up S16 x15 6) fun x16 S17 => if x16 = 0 then mE2 (zl1 1000) (zl2 1000) j8 S17 a6 a8 x14 (-1) else zdq x1 1024 fun x35 => zbd (m_L_up S17 x35 4) fun x36 S43 => mE2 (zl1 1000) (zl2 1000) j8 S43 a6 a8 x14 x36
theorem mB_e (cel : Int → Int) (S : zSt) (a6 a7 a8 a9 : Int) : m_L_B cel S a6 a7 a8 a9 = zce cel a9 fun x1 => zbd (m_L_up S x1 3) fun x2 S1 => if x2 = 0 then mC (tB a9) x1 S1 a6 a8 else mE (tB a9) x1 S1 a6 a8 := rfl
theorem q_tl {C : zSt} {r w p l : Int → Int} {n k t : Int} (hI : I28 C r w p l n k) (hk : k ≤ 60) (ht : 0 ≤ t ∧ t < 55) : tB t n 1 k (zLw C r w p l) = some (1, n, k, t + 1, zLw C r w p l) := by
  obtain ⟨⟨t1, t2, t3, t4⟩, ⟨c1, c2⟩, hr, hh, hl⟩ := hI
  refine (q_578 (S := zLw C r w p l) (k := k) ⟨c2, hk⟩ (fun j j1 j2 => ?_) (fun j j1 j2 => ?_) (fun j j1 j2 => ?_)).trans ?_
  · obtain ⟨h1, h2, h3, h4, h5, h6, h7, h8, h9⟩ := hh j j1 j2
    rw [zLw_C, p_t2 c1 hk ⟨j1, j2⟩ h2, zLw_5, h4]
  · obtain ⟨h1, h2, h3, h4, h5, h6, h7, h8, h9⟩ := hh j j1 j2
    rw [zLw_C, p_t3 c1 hk ⟨j1, j2⟩ h2 (by rw [h6]; exact h8), zLw_7, h6]
  · obtain ⟨h1, h2, h3, h4, h5, h6, h7, h8, h9⟩ := hh j j1 j2
    rw [zLw_C, p_t1 c1 hk ⟨j1, j2⟩ h2, h3]
  · refine (q_646 (S := zLw C r w p l) (n := n) t3.2 (fun j j1 => ?_)).trans ?_
    · rw [zLw_C, p_tx t1 t2 t3.2 j j1, zLw_1]
      by_cases c : j < n
      · rw [if_pos c, if_pos c, (hr j j1 c).1]
      · rw [if_neg c, if_neg c]
    · exact zar_p (⟨by omega, by omega⟩ : inR (t + 1))
theorem q_C2 {C : zSt} {r w p l : Int → Int} {n k wd m : Int} {j8 : Int → Int → Int → zSt → Option zL5} (hI : I28 C r w p l n k) (hk : k < 60) (hw : 0 ≤ wd ∧ wd ≤ 3) (hm : 1 ≤ m ∧ m ≤ 3) : ∃ k' C' w' p' l', mC2 j8 (zLw C r w p l) n k wd m = j8 n 1 k' (zLw C' r w' p' l') ∧ I28 C' r w' p' l' n k' ∧ k' ≤ k + 1 := by
  obtain ⟨⟨t1, t2, t3, t4⟩, ⟨c1, c2⟩, hr, hh, hl⟩ := id hI
  have hzz := p_sz t1 t2
  have hww : ∀ q, 0 ≤ q → q < n → m_X7_wordAt C 0 q = some ((zLw C r w p l).2 1 q, C) := fun q q1 q2 => by
    rw [p_wa t1 t2 t3.2 q q1, if_pos q2]; exact congrArg (fun t => some (t, C)) (hr q q1 q2).1
  obtain ⟨v, v1, v2, v3⟩ := q_nth (S := zLw C r w p l) (wd := wd) (m := m) t3 hzz hww ⟨hm.1, by omega⟩
  by_cases cv : v = -1
  · have e := q_comm4 (a := 0) (u := 0) (k := 4) (w := wd) (m := m) (l := 1) (g := wd % 2) c1 t4 t1 (by omega) (by omega) ⟨⟨by omega, by omega, by omega⟩, by omega, by omega⟩ ⟨c2, by omega⟩ v2 (Or.inr cv)
    refine ⟨k, C, w, p, l, ?_, hI, by omega⟩
    clear hh hr hl hww hI
    subst cv
    simp (disch := first | omega | decide) only [mC2, v3, zLw_C, e, zbw_I, zLw_J, ↓zj0, ↓zj1, ↓zj2, ↓zj3, ↓zbd_s, ↓zar_p, ↓zld_p, ↓zst_p, ↓if_pos, ↓if_neg, if_true, if_false]
  · have e := q_comm2 (a := 0) (u := 0) (k := 4) (w := wd) (m := m) (l := 1) (g := wd % 2) c1 t4 t1 (by omega) (by omega) ⟨⟨by omega, by omega, by omega⟩, by omega, by omega⟩ ⟨c2, by omega⟩ v2 (by omega)
    obtain ⟨C', hC'⟩ : ∃ C', C' = zput (zput (zput (zput (zput (zset (zput (zput (zput (zput C 7 k 0) 8 k 4) 9 k 1) 10 k (wd % 2)) 3 (k + 1)) 11 k (-1)) 12 k k) 13 k 0) 14 k v) 15 k wd := ⟨_, rfl⟩
    rw [← hC'] at e
    refine ⟨k + 1, C', zfu w k wd, zfu p k v, zfu l k 0, ?_, ?_, by omega⟩
    rotate_left
    · subst hC'
      refine ⟨⟨t1, t2, t3, t4⟩, ⟨rfl, by omega⟩, hr, fun j j1 j2 => ?_, fun j j1 => hl j (by omega)⟩
      show (if j = k then (-1 : Int) else C.2 11 j) = -1 ∧ (if j = k then k else C.2 12 j) = j ∧ (if j = k then 0 else C.2 13 j) = 0 ∧ (if j = k then v else C.2 14 j) = zfu p k v j ∧ (if j = k then wd else C.2 15 j) = zfu w k wd j ∧ C.2 16 j = zfu l k 0 j ∧ (0 ≤ zfu p k v j ∧ zfu p k v j < n) ∧ (zfu l k 0 j = 0 ∨ zfu l k 0 j = 1) ∧ 0 ≤ zfu w k wd j ∧ zfu w k wd j ≤ 3
      by_cases ej : j = k
      · rw [ej]
        simp only [if_true, zfu_e]
        exact ⟨trivial, trivial, trivial, trivial, trivial, hl k (Int.le_refl k), ⟨by omega, by omega⟩, Or.inl trivial, hw.1, hw.2⟩
      · simp only [if_neg ej, zfu_n _ _ ej]
        exact hh j j1 (by omega)
    · clear hh hr hl hww hI hC'
      simp (disch := first | omega | decide) only [mC2, v3, zLw_C, e, zbw_l, zLw_J, zLw_p3, zLw_p5, zLw_p7, ↓zj0, ↓zj1, ↓zj2, ↓zj3, ↓zbd_s, ↓zar_p, ↓zld_p, ↓zst_p, ↓if_pos, ↓if_neg, if_true, if_false]
theorem q_C {C : zSt} {r w p l : Int → Int} {n k x1 : Int} {j8 : Int → Int → Int → zSt → Option zL5} (hI : I28 C r w p l n k) (hk : k < 60) : ∃ k' C' w' p' l', mC j8 x1 (zLw C r w p l) n k = j8 n 1 k' (zLw C' r w' p' l') ∧ I28 C' r w' p' l' n k' ∧ k' ≤ k + 1 := by
  unfold mC
  rw [zdq_p (by decide), p_up _ _ (by decide), zbd_s, zdq_p (by decide), p_up _ _ (by decide), zbd_s]
  have h1 := upv_in (a := (zI x1 / zI 8).toInt) (n := 4) (by decide)
  have h2 := upv_in (a := (zI x1 / zI 32).toInt) (n := 3) (by decide)
  rw [zar_p ⟨by omega, by omega⟩]
  exact q_C2 hI hk ⟨h1.1, by omega⟩ ⟨by omega, by omega⟩
/-! a word emended -/
theorem zfu_same (f : Int → Int) (i : Int) : zfu f i (f i) = f := by
  funext j
  by_cases e : j = i
  · rw [e, zfu_e]
  · rw [zfu_n _ _ e]
theorem p_hp1 {C : zSt} {n a : Int} (h1 : C.1 1 = 1) (h2 : C.2 2 0 = n) (ha : 0 ≤ a ∧ a < n) : m_X7_hasPlace C 0 a = some (1, C) := by
  rw [p_X7_hasPlace C 0 a (by omega), if_pos (by omega), h2, zb_p ha]
theorem p_hp0 {C : zSt} {n a : Int} (h1 : C.1 1 = 1) (h2 : C.2 2 0 = n) (ha : n ≤ a) : m_X7_hasPlace C 0 a = some (0, C) := by
  rw [p_X7_hasPlace C 0 a (by omega), if_pos (by omega), h2, zb_n (by omega)]
theorem q_E1 {C : zSt} {r w p l : Int → Int} {n k gap wd : Int} {z1 : ((Int → zSt → Option zL5) → Int → zSt → Option zL5) → Int → zSt → Option zL5} {z2 : ((Int → Int → zSt → Option zL5) → Int → Int → zSt → Option zL5) → Int → Int → zSt → Option zL5} {j8 : Int → Int → Int → zSt → Option zL5} (hg : n ≤ gap) (hw : -1 ≤ wd) (e : m_X8_emend C 0 gap wd = some (.inr ("java/lang/IndexOutOfBoundsException", C))) : mE2 z1 z2 j8 (zLw C r w p l) n k gap wd = j8 n 1 k (zLw C r w p l) := by
  by_cases c : wd = -1
  · subst c
    simp (disch := first | omega | decide) only [mE2, zLw_C, e, zbw_O, zLw_J, ↓zj0, ↓zj1, ↓zj2, ↓zj3, ↓zbd_s, ↓zar_p, ↓zld_p, ↓zst_p, ↓if_pos, ↓if_neg, if_true, if_false]
  · simp (disch := first | omega | decide) only [mE2, zLw_C, e, zbw_O, zLw_J, ↓zj0, ↓zj1, ↓zj2, ↓zj3, ↓zbd_s, ↓zar_p, ↓zld_p, ↓zst_p, ↓if_pos, ↓if_neg, if_true, if_false]
theorem q_E2 {C : zSt} {r w p l : Int → Int} {k gap : Int} {z1 : ((Int → zSt → Option zL5) → Int → zSt → Option zL5) → Int → zSt → Option zL5} {z2 : ((Int → Int → zSt → Option zL5) → Int → Int → zSt → Option zL5) → Int → Int → zSt → Option zL5} {j8 : Int → Int → Int → zSt → Option zL5} (hg : gap < 1) (e : m_X8_emend C 0 gap (-1) = some (.inr ("java/lang/IllegalStateException", C))) : mE2 z1 z2 j8 (zLw C r w p l) 1 k gap (-1) = j8 1 1 k (zLw C r w p l) := by
  simp (disch := first | omega | decide) only [mE2, zLw_C, e, zbw_I, zLw_J, ↓zj0, ↓zj1, ↓zj2, ↓zj3, ↓zbd_s, ↓zar_p, ↓zld_p, ↓zst_p, ↓if_pos, ↓if_neg, if_true, if_false]
theorem q_E3 {C C' : zSt} {r w p l f p' l' : Int → Int} {n k gap x : Int} {z1 : ((Int → zSt → Option zL5) → Int → zSt → Option zL5) → Int → zSt → Option zL5} {z2 : ((Int → Int → zSt → Option zL5) → Int → Int → zSt → Option zL5) → Int → Int → zSt → Option zL5} {j8 : Int → Int → Int → zSt → Option zL5} (hg : 0 ≤ gap ∧ gap < n) (hn : 2 ≤ n ∧ n ≤ 12) (h1 : ∀ j21, z1 (b_L_law_339 n j21 1) gap (zLw C r w p l) = j21 (zLw C f w p l)) (h2 : ∀ j10, z2 (b_L_law_405 k j10 1 gap (n - 1)) 0 0 (zLw C f w p l) = j10 (n - 1) x (zLw C f w p' l')) (e : m_X8_emend C 0 gap (-1) = some (.inl (x, C'))) : mE2 z1 z2 j8 (zLw C r w p l) n k gap (-1) = j8 (n - 1) 1 k (zLw C' f w p' l') := by
  simp (disch := first | omega | decide) only [mE2, zLw_C, e, zbw_l, zLw_J, h1, h2, zLw_1, zLw_p1, zfu_same, ↓zj0, ↓zj1, ↓zj2, ↓zj3, ↓zbd_s, ↓zar_p, ↓zld_p, ↓zst_p, ↓if_pos, ↓if_neg, if_true, if_false]
theorem q_E4 {C C' : zSt} {r w p l p' l' : Int → Int} {n k gap wd x : Int} {z1 : ((Int → zSt → Option zL5) → Int → zSt → Option zL5) → Int → zSt → Option zL5} {z2 : ((Int → Int → zSt → Option zL5) → Int → Int → zSt → Option zL5) → Int → Int → zSt → Option zL5} {j8 : Int → Int → Int → zSt → Option zL5} (hg : 0 ≤ gap ∧ gap < n) (hn : 1 ≤ n ∧ n ≤ 12) (hw : 0 ≤ wd) (h1 : ∀ j21, z1 (b_L_law_339 n j21 0) gap (zLw C r w p l) = j21 (zLw C r w p l)) (h2 : ∀ j10, z2 (b_L_law_405 k j10 0 gap n) 0 0 (zLw C (zfu r gap wd) w p l) = j10 n x (zLw C (zfu r gap wd) w p' l')) (e : m_X8_emend C 0 gap wd = some (.inl (x, C'))) : mE2 z1 z2 j8 (zLw C r w p l) n k gap wd = j8 n 1 k (zLw C' (zfu r gap wd) w p' l') := by
  simp (disch := first | omega | decide) only [mE2, zLw_C, e, zbw_l, zLw_J, h1, h2, zLw_1, zLw_p1, Int.sub_zero, ↓zj0, ↓zj1, ↓zj2, ↓zj3, ↓zbd_s, ↓zar_p, ↓zld_p, ↓zst_p, ↓if_pos, ↓if_neg, if_true, if_false]
theorem q_E {C : zSt} {r w p l : Int → Int} {n k gap wd : Int} {j8 : Int → Int → Int → zSt → Option zL5} (hI : I28 C r w p l n k) (hk : k ≤ 60) (hg : 0 ≤ gap) (hw : -1 ≤ wd ∧ wd ≤ 3) : ∃ n' C' r' p' l', mE2 (zl1 1000) (zl2 1000) j8 (zLw C r w p l) n k gap wd = j8 n' 1 k (zLw C' r' w p' l') ∧ I28 C' r' w p' l' n' k := by
  obtain ⟨⟨t1, t2, t3, t4⟩, ⟨c1, c2⟩, hr, hh, hl⟩ := id hI
  have hS := p_ss t1 t2 t3.2
  by_cases c : n ≤ gap
  · have hp := p_hp0 t1 t2 c
    refine ⟨n, C, r, p, l, q_E1 c hw.1 ?_, hI⟩
    clear hh hr hl hI hS
    simp (disch := omega) only [m_X8_emend, hp, zlt, zbd_s, zbx_l, zbx_r, zj0, zj1, zj2, zj3, zset_2, zput_1, if_true, if_false, zar_p, zld_p, zst_p, zdv_p, zrm_p, zc01_p, zb_p, zb_n, if_pos, if_neg]
  have hp := p_hp1 t1 t2 (a := gap) ⟨hg, by omega⟩
  have hz := p_sz t1 t2
  by_cases cw : wd = -1
  · subst cw
    by_cases cn : n = 1
    · subst cn
      refine ⟨1, C, r, p, l, q_E2 (by omega) ?_, hI⟩
      clear hh hr hl hI hS
      simp (disch := omega) only [m_X8_emend, hp, hz, p_X8_needArgument, zlt, zbd_s, zbx_l, zbx_r, zj0, zj1, zj2, zj3, zset_2, zput_1, if_true, if_false, zar_p, zld_p, zst_p, zdv_p, zrm_p, zc01_p, zb_p, zb_n, if_pos, if_neg]
    · have tk := q_tk (C := C) (u := 0) (a := gap) (s := n) (by omega) (by omega) hS t2 t3 ⟨hg, by omega⟩
      have hrow : ∀ j, 0 ≤ j → j < n - 1 → zsh (C.2 1) (12 * 0 + gap) (12 * 0 + n - 1) j = zsh r gap (n - 1) j ∧ 0 ≤ zsh r gap (n - 1) j ∧ zsh r gap (n - 1) j ≤ 3 := fun j j1 j2 => by
        by_cases q : gap ≤ j
        · rw [zsh_in _ (by omega), zsh_in _ (by omega)]
          exact hr (j + 1) (by omega) (by omega)
        · rw [zsh_at _ (by omega), zsh_at _ (by omega)]
          exact hr j j1 (by omega)
      have hz0 : (zput (zrp C 1 (zsh (C.2 1) (12 * 0 + gap) (12 * 0 + n - 1))) 2 0 (n - 1)).2 2 0 = n - 1 := by
        rw [zput_e]; exact if_pos rfl
      have sz : m_X7_sizeOf (zput (zrp C 1 (zsh (C.2 1) (12 * 0 + gap) (12 * 0 + n - 1))) 2 0 (n - 1)) 0 = some (n - 1, zput (zrp C 1 (zsh (C.2 1) (12 * 0 + gap) (12 * 0 + n - 1))) 2 0 (n - 1)) := p_sz t1 hz0
      obtain ⟨gg, cg, hgg⟩ := q_cg (S := zput (zrp C 1 (zsh (C.2 1) (12 * 0 + gap) (12 * 0 + n - 1))) 2 0 (n - 1)) (u := 0) (a := gap) (l := n - 1 - 1) (n := k) c1 ⟨c2, hk⟩ (fun j j1 j2 _ => by
        obtain ⟨h1, h2, h3, h4, h5, h6, h7, h8, h9⟩ := hh j j1 j2
        show 0 ≤ C.2 14 j ∧ C.2 14 j ≤ 12
        rw [h4]; omega)
      obtain ⟨x, f, g, p', l', hA, hB, hZ⟩ := q_hl (Ca := zrp (zput (zrp C 1 (zsh (C.2 1) (12 * 0 + gap) (12 * 0 + n - 1))) 2 0 (n - 1)) 14 gg) (C := C) (r := zsh r gap (n - 1)) (w := w) (p := p) (l := l) (k := k) (n := n - 1) (gap := gap) (io := 1) c1 ⟨c2, hk⟩ t1 hz0 (by omega) (fun j j1 j2 => (hrow j j1 j2).1) (Or.inr rfl) hg (fun i i1 i2 => by
        obtain ⟨h1, h2, h3, h4, h5, h6, h7, h8, h9⟩ := hh i i1 i2
        refine ⟨h1, h3, h5, ?_, ⟨h7.1, by omega⟩, h6, h8⟩
        have q := (hgg i).1 ⟨⟨i1, i2⟩, h1, h3⟩
        have q2 : (zput (zrp C 1 (zsh (C.2 1) (12 * 0 + gap) (12 * 0 + n - 1))) 2 0 (n - 1)).2 14 i = p i := h4
        rw [q2] at q
        show gg i = _
        rw [q]
        unfold zst7
        repeat' split
        all_goals omega)
      refine ⟨n - 1, _, zsh r gap (n - 1), p', l', q_E3 ⟨hg, by omega⟩ ⟨by omega, t3.2⟩ (fun j21 => q_339a t3 ⟨hg, by omega⟩) hB (q_em8a hp hz ⟨by omega, t3.2⟩ tk sz cg hA), ?_⟩
      refine ⟨⟨t1, hz0, by omega, t4⟩, ⟨c1, c2⟩, hrow, fun j j1 j2 => ?_, fun j j1 => ?_⟩
      · obtain ⟨h1, h2, h3, h4, h5, h6, h7, h8, h9⟩ := hh j j1 j2
        obtain ⟨y1, y2, y3, y4⟩ := hZ.1 j j1 j2
        exact ⟨h1, h2, h3, y1, h5, y3, y2, y4, h9⟩
      · obtain ⟨y1, y2, y3, y4⟩ := hZ.2 j (by omega)
        exact y3.trans (hl j j1)
  · have pt := p_X7_put C 0 gap wd (by omega) (by omega) (by omega) (by omega)
    have hrow : ∀ j, 0 ≤ j → j < n → (zput C 1 (12 * 0 + gap) wd).2 1 j = zfu r gap wd j ∧ 0 ≤ zfu r gap wd j ∧ zfu r gap wd j ≤ 3 := fun j j1 j2 => by
      show (if j = 12 * 0 + gap then wd else C.2 1 j) = zfu r gap wd j ∧ 0 ≤ zfu r gap wd j ∧ zfu r gap wd j ≤ 3
      by_cases q : j = gap
      · rw [if_pos (by omega), q, zfu_e]; exact ⟨rfl, by omega, hw.2⟩
      · rw [if_neg (by omega), zfu_n _ _ q]; exact hr j j1 j2
    obtain ⟨x, f, g, p', l', hA, hB, hZ⟩ := q_hl (Ca := zput C 1 (12 * 0 + gap) wd) (C := C) (r := zfu r gap wd) (w := w) (p := p) (l := l) (k := k) (n := n) (gap := gap) (io := 0) c1 ⟨c2, hk⟩ t1 t2 t3 (fun j j1 j2 => (hrow j j1 j2).1) (Or.inl rfl) hg (fun i i1 i2 => by
      obtain ⟨h1, h2, h3, h4, h5, h6, h7, h8, h9⟩ := hh i i1 i2
      refine ⟨h1, h3, h5, ?_, ⟨h7.1, by omega⟩, h6, h8⟩
      unfold zst7
      rw [if_neg (by omega), if_neg (by omega)]
      exact h4)
    refine ⟨n, _, zfu r gap wd, p', l', q_E4 ⟨hg, by omega⟩ t3 (by omega) (fun j21 => q_339b t3 ⟨hg, by omega⟩) hB (q_em8b hp ⟨by omega, by omega⟩ pt hA), ?_⟩
    refine ⟨⟨t1, t2, t3, t4⟩, ⟨c1, c2⟩, hrow, fun j j1 j2 => ?_, fun j j1 => ?_⟩
    · obtain ⟨h1, h2, h3, h4, h5, h6, h7, h8, h9⟩ := hh j j1 j2
      obtain ⟨y1, y2, y3, y4⟩ := hZ.1 j j1 j2
      exact ⟨h1, h2, h3, y1, h5, y3, y2, y4, h9⟩
    · obtain ⟨y1, y2, y3, y4⟩ := hZ.2 j (by omega)
      exact y3.trans (hl j j1)
theorem q_EE {C : zSt} {r w p l : Int → Int} {n k x1 : Int} {j8 : Int → Int → Int → zSt → Option zL5} (hI : I28 C r w p l n k) (hk : k ≤ 60) : ∃ n' C' r' p' l', mE j8 x1 (zLw C r w p l) n k = j8 n' 1 k (zLw C' r' w p' l') ∧ I28 C' r' w p' l' n' k := by
  unfold mE
  rw [zdq_p (by decide), p_up _ _ (by decide), zbd_s, zdq_p (by decide), p_up _ _ (by decide), zbd_s]
  have h1 := upv_in (a := (zI x1 / zI 8).toInt) (n := 13) (by decide)
  have h2 := upv_in (a := (zI x1 / zI 1024).toInt) (n := 4) (by decide)
  by_cases c : upv (zI x1 / zI 128).toInt 6 = 0
  · rw [if_pos c]
    exact q_E hI hk h1.1 ⟨by omega, by omega⟩
  · rw [if_neg c, zdq_p (by decide), p_up _ _ (by decide), zbd_s]
    exact q_E hI hk h1.1 ⟨by omega, by omega⟩
/-- one turn of the law -/
theorem p_LB {cel : Int → Int} {C : zSt} {r w p l : Int → Int} {n k t : Int} (hI : I28 C r w p l n k) (hk : k < 60) (ht : 0 ≤ t ∧ t < 55) : ∃ C' r' w' p' l' n' k', m_L_B cel (zLw C r w p l) n 1 k t = some (1, n', k', t + 1, zLw C' r' w' p' l') ∧ I28 C' r' w' p' l' n' k' ∧ k' ≤ k + 1 := by
  rw [mB_e, zce_p (by omega), p_up _ _ (by decide), zbd_s]
  by_cases c : upv (cel t) 3 = 0
  · rw [if_pos c]
    obtain ⟨k', C', w', p', l', e, hI', hk'⟩ := q_C (x1 := cel t) (j8 := tB t) hI hk
    exact ⟨C', r, w', p', l', n, k', e.trans (q_tl hI' (by omega) ht), hI', hk'⟩
  · rw [if_neg c]
    obtain ⟨n', C', r', p', l', e, hI'⟩ := q_EE (x1 := cel t) (j8 := tB t) hI (by omega)
    exact ⟨C', r', w, p', l', n', k, e.trans (q_tl hI' (by omega) ht), hI', by omega⟩
end
section
/-! p28, the pure side: the law's start -/
noncomputable def tA (n : Int) : zSt → Option zL5 := fun (S2 : zSt) => zby (m_X8_unit (zpC S2)) S2 fun x4 S3 => zj1 (fun (v1 : Int) (S4 : zSt) => some (v1, n, 0, 0, S4)) fun j1 => zj0 (fun (S5 : zSt) => j1 0 S5) fun j2 => if x4 = 0 then (zby (m_X8_author (zpC S3) 5 0 0) S3 fun x5 S6 => if x5 = 0 then (j1 1 S6) else (j2 S6)) else (j2 S3)
theorem mA_e (cel : Int → Int) (S : zSt) : m_L_A cel S = zce cel 60 fun x1 => zbd (m_L_up S x1 9) fun x2 S1 => zar (4 + x2) fun x3 => zj0 (tA x3) fun j3 => zl1 1000 (b_L_law_48 cel j3 x3) 0 S1 := rfl
theorem zj0_r {R : Type} (K : zSt → Option R) (b : (zSt → Option R) → Option R) : zj0 K b = b K := rfl
theorem zset_s (S : zSt) (j : Nat) (v x : Int) : zset (zset S j v) j x = zset S j x := by
  refine Prod.ext (funext fun q => ?_) rfl
  show (if q = j then x else if q = j then v else S.1 q) = (if q = j then x else S.1 q)
  by_cases e : q = j
  · rw [if_pos e, if_pos e]
  · rw [if_neg e, if_neg e, if_neg e]
/-- the class with i words on its pad -/
def zCw (f : Int → Int) (i : Int) : zSt := zrp (zset zS0 0 i) 0 f
theorem zCw_0 (f : Int → Int) (i : Int) : (zCw f i).1 0 = i := zset_e zS0 0 i
theorem p_word {C : zSt} {i a : Int} (hi : C.1 0 = i) (h : 0 ≤ i ∧ i < 12) (ha : 0 ≤ a ∧ a ≤ 59) : m_X8_word C a = some (.inl (i + 1, zset (zput C 0 i a) 0 (i + 1))) := by
  have e : m_X4_add C a = some (0, zset (zput C 0 i a) 0 (i + 1)) := by
    rw [p_X4_add C a (by omega) (by omega), hi]
  simp (disch := omega) only [m_X8_word, p_X8_needArgument, p_X4_isFull, e, m_X4_size, zset_e, zlt, zbd_s, zbx_l, zbx_r, zj0, zj1, zj2, zj3, zset_2, zput_1, if_true, if_false, zar_p, zld_p, zst_p, zdv_p, zrm_p, zc01_p, zb_p, zb_n, if_pos, if_neg]
theorem p_wordw {f : Int → Int} {i a : Int} (h : 0 ≤ i ∧ i < 12) (ha : 0 ≤ a ∧ a ≤ 59) : m_X8_word (zCw f i) a = some (.inl (i + 1, zCw (zfu f i a) (i + 1))) := by
  rw [p_word (C := zCw f i) (i := i) (zCw_0 f i) h ha]
  unfold zCw
  rw [zput_rp, zset_rp, zset_s]
theorem q_48 {cel : Int → Int} {w p l : Int → Int} {n : Int} {j3 : zSt → Option zL5} (hn : 4 ≤ n ∧ n ≤ 12) (r0 : Int → Int) : ∃ r, zl1 1000 (b_L_law_48 cel j3 n) 0 (zLw (zCw r0 0) r0 w p l) = j3 (zLw (zCw r n) r w p l) ∧ ∀ j, 0 ≤ j → j < n → 0 ≤ r j ∧ r j ≤ 3 := by
  refine zw1 (F := b_L_law_48 cel j3 n) (fun d i T => (0 ≤ i ∧ i + d = n) ∧ ∃ r, T = zLw (zCw r i) r w p l ∧ ∀ j, 0 ≤ j → j < i → 0 ≤ r j ∧ r j ≤ 3) (fun x => ∃ r, x = j3 (zLw (zCw r n) r w p l) ∧ ∀ j, 0 ≤ j → j < n → 0 ≤ r j ∧ r j ≤ 3) ?_ 1000 n.toNat 0 (zLw (zCw r0 0) r0 w p l) ⟨by omega, r0, rfl, fun j j1 j2 => by omega⟩ (by omega)
  rintro rec d i T ⟨⟨a1, a2⟩, r, rfl, hr⟩
  by_cases c : n ≤ i
  · refine Or.inl ⟨r, ?_, by rw [show n = i by omega]; exact hr⟩
    rw [show n = i by omega]
    clear hr
    simp (disch := omega) only [b_L_law_48, ↓zj0, ↓zj1, ↓zj2, ↓zj3, ↓zbd_s, ↓zar_p, ↓zld_p, ↓zst_p, ↓if_pos, ↓if_neg, if_true, if_false]
  · have hx := upv_in (a := cel (61 + i)) (n := 4) (by decide)
    obtain ⟨x, ex⟩ : ∃ x, upv (cel (61 + i)) 4 = x := ⟨_, rfl⟩
    rw [ex] at hx
    have eW := p_wordw (f := r) (i := i) (a := x) ⟨a1, by omega⟩ ⟨hx.1, by omega⟩
    refine Or.inr ⟨d - 1, i + 1, zLw (zCw (zfu r i x) (i + 1)) (zfu r i x) w p l, by omega, ⟨by omega, _, rfl, fun j j1 j2 => ?_⟩, ?_⟩
    · by_cases q : j = i
      · rw [q, zfu_e]; omega
      · rw [zfu_n _ _ q]; exact hr j j1 (by omega)
    · clear hr
      simp (disch := omega) only [b_L_law_48, zce_p, p_up, ex, zLw_p1, zLw_1, zfu_e, zLw_C, eW, zby_s, zLw_J, ↓zj0, ↓zj1, ↓zj2, ↓zj3, ↓zbd_s, ↓zar_p, ↓zld_p, ↓zst_p, ↓if_pos, ↓if_neg, if_true, if_false]
theorem p_unit {C : zSt} {n : Int} (h0 : C.1 0 = n) (hn : 1 ≤ n ∧ n ≤ 12) (h1 : C.1 1 = 0) : ∃ f, m_X8_unit C = some (.inl (0, zset (zrp (zput (zset C 1 1) 2 0 n) 1 f) 0 0)) ∧ ∀ k, 0 ≤ k → k < n → f k = C.2 0 k := by
  obtain ⟨f, e, -, h3⟩ := p_X7_add C (by omega) (by omega)
  rw [h1, h0] at e h3
  rw [show (0 : Int) + 1 = 1 by decide] at e
  refine ⟨f, ?_, fun k k1 k2 => ?_⟩
  · have e2 : (zset (zrp (zput (zset C 1 1) 2 0 n) 1 f) 0 0).1 1 = 1 := rfl
    clear h3
    simp (disch := omega) only [m_X8_unit, m_X4_size, m_X7_isFull, m_X4_clear, m_X7_count, h0, h1, e, e2, Int.sub_self, zlt, zbd_s, zbx_l, zbx_r, zj0, zj1, zj2, zj3, zset_2, zput_1, if_true, if_false, zar_p, zld_p, zst_p, zdv_p, zrm_p, zc01_p, zb_p, zb_n, if_pos, if_neg]
  · have := h3 k k1 k2
    rw [show 12 * (0 : Int) + k = k by omega] at this
    exact this
theorem p_auth {C : zSt} (h : C.1 2 = 0) : m_X8_author C 5 0 0 = some (.inl (0, zset (zput (zput (zput C 4 0 5) 5 0 0) 6 0 0) 2 1)) := by
  have e : m_X0_add C 5 0 0 = some (0, zset (zput (zput (zput C 4 0 5) 5 0 0) 6 0 0) 2 1) := by
    rw [p_X0_add C 5 0 0 (by omega) (by omega), h]; rfl
  have e2 : (zset (zput (zput (zput C 4 0 5) 5 0 0) 6 0 0) 2 1).1 2 = 1 := rfl
  simp (disch := omega) only [m_X8_author, p_X8_needArgument, p_X0_isFull, e, m_X0_count, e2, Int.sub_self, zlt, zbd_s, zbx_l, zbx_r, zj0, zj1, zj2, zj3, zset_2, zput_1, if_true, if_false, zar_p, zld_p, zst_p, zdv_p, zrm_p, zc01_p, zb_p, zb_n, if_pos, if_neg]
def z0f : Int → Int := fun _ => 0
theorem q_A (cel : Int → Int) : ∃ n C r, m_L_A cel (zLw (zCw z0f 0) z0f z0f z0f z0f) = some (1, n, 0, 0, zLw C r z0f z0f z0f) ∧ I28 C r z0f z0f z0f n 0 := by
  rw [mA_e, zce_p (by decide), p_up _ _ (by decide), zbd_s]
  have hx := upv_in (a := cel 60) (n := 9) (by decide)
  rw [zar_p ⟨by omega, by omega⟩, zj0_r]
  obtain ⟨n, en⟩ : ∃ n, 4 + upv (cel 60) 9 = n := ⟨_, rfl⟩
  rw [en]
  have hn : 4 ≤ n ∧ n ≤ 12 := by omega
  obtain ⟨r, e1, hr⟩ := q_48 (cel := cel) (w := z0f) (p := z0f) (l := z0f) (j3 := tA n) hn z0f
  rw [e1]
  obtain ⟨f, eU, hf⟩ := p_unit (C := zCw r n) (n := n) (zCw_0 r n) ⟨by omega, by omega⟩ rfl
  obtain ⟨C2, hC2⟩ : ∃ C2, C2 = zset (zrp (zput (zset (zCw r n) 1 1) 2 0 n) 1 f) 0 0 := ⟨_, rfl⟩
  rw [← hC2] at eU
  have eA := p_auth (C := C2) (by rw [hC2]; rfl)
  obtain ⟨C3, hC3⟩ : ∃ C3, C3 = zset (zput (zput (zput C2 4 0 5) 5 0 0) 6 0 0) 2 1 := ⟨_, rfl⟩
  rw [← hC3] at eA
  refine ⟨n, C3, r, ?_, ?_⟩
  · clear hr hf e1 hC2 hC3
    simp (disch := omega) only [tA, zLw_C, eU, zby_s, zLw_J, eA, ↓zj0, ↓zj1, ↓zj2, ↓zj3, ↓zbd_s, ↓zar_p, ↓zld_p, ↓zst_p, ↓if_pos, ↓if_neg, if_true, if_false]
  · subst hC3
    subst hC2
    refine ⟨⟨rfl, ?_, ⟨by omega, hn.2⟩, rfl⟩, ⟨rfl, Int.le_refl 0⟩, fun j j1 j2 => ⟨?_, hr j j1 j2⟩, fun j j1 j2 => by omega, fun j j1 => rfl⟩
    · show (zput (zset (zCw r n) 1 1) 2 0 n).2 2 0 = n
      rw [zput_e]; exact if_pos rfl
    · have e := hf j j1 j2
      exact e
theorem zS0_e : zS0 = zLw (zCw z0f 0) z0f z0f z0f z0f := by
  refine Prod.ext (funext fun q => ?_) (funext fun q => ?_)
  · show (0 : Int) = (if q % 2 = 0 then (if q / 2 = 0 then 0 else 0) else 0)
    repeat' split
    all_goals rfl
  · show (fun _ : Int => (0 : Int)) = (if q % 2 = 0 then (if q / 2 = 0 then z0f else fun _ => 0) else if q / 2 = 0 then z0f else if q / 2 = 1 then z0f else if q / 2 = 2 then z0f else if q / 2 = 3 then z0f else fun _ => 0)
    repeat' split
    all_goals rfl
end
section
/-! THE LAW'S LOOP AND ITS START -/
set_option maxRecDepth 100000 in
theorem law_loop {cI cZ : ClassId} {ad ads : Nat → Nat} {b L : Nat} {xs : Nat → Int32} (hL : L ≤ 260) : ∀ (d : Nat) (Γ : zG) (k n : Nat) (t m h : Int) (C : zSt) (r w p l : Int → Int), zF Γ (wL cI cZ ad) cI cZ cL_law room_1 18 RL → zLX Γ ads cI cZ b L xs → zKN Γ k n → k + d ≤ 119 ∧ n + 6 * d ≤ 2739 → I28 C r w p l m h → h ≤ t → 0 ≤ t → t + d = 55 → zk Γ (wL cI cZ ad) (RG bsL) (zLw C r w p l) [(0, .ref b), (1, .ref (ad 0)), (2, .ref (ad 38)), (3, .ref (ad 39)), (4, .ref (ad 40)), (5, .ref (ad 41)), (6, .int (zI m)), (7, .int (zI 1)), (8, .int (zI h)), (9, .int (zI t))] 117 [] := by
  intro d
  induction d with
  | zero =>
    intro Γ k n t m h C r w p l F X hkn hk hI hh ht hd
    have rt : inR t := ⟨by omega, by omega⟩
    refine k_iload F dL_law_117 9 rfl ?_
    refine k_bipush F dL_law_119 (by decide) ?_
    refine k_icmp_ge (R := Unit) (r := ()) (A := some ()) (B := none) F rt (by decide) (tgt := 702) dL_law_121 (by decide) (if_pos (by omega)) (fun _ => ?_) (fun z => by cases z)
    refine k_iload F dL_law_702 7 rfl ?_
    exact k_lret F X dL_law_704
  | succ d ih =>
    intro Γ k n t m h C r w p l F X hkn hk hI hh ht hd
    have rt : inR t := ⟨by omega, by omega⟩
    have hm := hI.1.2.2.1
    have h0 := hI.2.1.2
    refine k_iload F dL_law_117 9 rfl ?_
    refine k_bipush F dL_law_119 (by decide) ?_
    refine k_icmp_ge (R := Unit) (r := ()) (A := none) (B := some ()) F rt (by decide) (tgt := 702) dL_law_121 (by decide) (if_neg (by omega)) (fun z => by cases z) (fun _ => ?_)
    refine k_iload F dL_law_124 7 rfl ?_
    refine k_if_eq (R := Unit) (r := ()) (A := none) (B := some ()) F (by decide) (tgt := 702) dL_law_126 (by decide) (if_neg (by decide)) (fun z => by cases z) (fun _ => ?_)
    obtain ⟨C', r', w', p', l', m', h', e, hI', hh'⟩ := p_LB (cel := cel9 L xs) (t := t) hI (by omega) ⟨ht, by omega⟩
    have F1 := F.up (k := k + 1) (n := n + 6) (show k + 1 ≤ 119 by omega) (show n + 6 ≤ 2739 by omega)
    have X1 := zLX_up X (k + 1) (n + 6)
    have e9 := ih (zup Γ (k + 1) (n + 6)) (k + 1) (n + 6) (t + 1) m' h' C' r' w' p' l' F1 X1 (zKN_up Γ (k + 1) (n + 6)) ⟨by omega, by omega⟩ hI' (by omega) (by omega) (by omega)
    exact g_L_B hL F X hkn ⟨by omega, by omega⟩ (S := zLw C r w p l) ⟨by omega, by omega⟩ (by decide) ⟨by omega, by omega⟩ rt e (fun _ _ _ _ => e9)
/-! words -/
theorem nw_all : ∀ q ∈ NWt, Cond.methodLinkNest q.1 q.2.1 q.2.2.1 q.2.2.2 ∈ lw_tbl := by decide +kernel
theorem nc_all : ∀ q ∈ zNCP, Cond.not (.castable q.1 q.2) ∈ flatC (Jvm.Cond.and given_1 narrow_1) := by decide +kernel
theorem str_all : ∀ q ∈ zSTR, Cond.stringRef RX8 q.1 q.2 ∈ lw_tbl := by decide +kernel
theorem cas_all : ∀ q ∈ zCAS, Cond.castable q q ∈ lw_tbl := by decide +kernel
theorem dec_all : ∀ y ∈ zDEC, Cond.declares y ∈ lw_tbl := by decide +kernel
theorem sta_all : Cond.laysStatic Bundle.tN "UNASSIGNED_STACK" Bundle.steD ∈ lw_tbl ∧ Cond.laysStatic Bundle.tN "SUPPRESSED_SENTINEL" Bundle.listD ∈ lw_tbl ∧ Cond.initialized Bundle.tN ∈ lw_tbl := by decide +kernel
theorem ref_all : Cond.isRef (.static Bundle.tN "UNASSIGNED_STACK" Bundle.steD) ∈ flatC (Jvm.Cond.and given_1 narrow_1) ∧ Cond.isRef (.static Bundle.tN "SUPPRESSED_SENTINEL" Bundle.listD) ∈ flatC (Jvm.Cond.and given_1 narrow_1) := by decide +kernel
theorem arr_all : Cond.arrayClass .int ∈ lw_tbl ∧ Cond.arrayClass .boolean ∈ lw_tbl := by decide +kernel
theorem arrK {s : State} {args : Array Value} (h : (Cond.arrayClass .int).before args s = true) (h2 : (Cond.arrayClass .boolean).before args s = true) : ∃ cI cZ : ClassId, ∀ (k : Nat) (q : ClassId × FieldType), ([(cI, .int), (cZ, .boolean)] : List (ClassId × FieldType))[k]? = some q → ArrOfT s q.1 q.2 ∧ va_RA s q.1 q.2 := by
  obtain ⟨cI, kI, mI, a1, a2, a3⟩ := Cond.arrayClass_spec h
  obtain ⟨cZ, kZ, mZ, b1, b2, b3⟩ := Cond.arrayClass_spec h2
  refine ⟨cI, cZ, fun k q hq => ?_⟩
  match k, hq with
  | 0, hq => cases hq; exact ⟨fun n z => ⟨fun k h => (by cases h), kI, a2, mI, a3⟩, a1⟩
  | 1, hq => cases hq; exact ⟨fun n z => ⟨fun k h => (by cases h), kZ, b2, mZ, b3⟩, b1⟩
  | k + 2, hq => simp at hq
theorem inst_0 : Cond.instantiable RX0 4 ∈ WS := WS_in 67 (by decide +kernel) (by decide +kernel)
theorem inst_1 : Cond.instantiable RX1 12 ∈ WS := WS_in 86 (by decide +kernel) (by decide +kernel)
theorem inst_2 : Cond.instantiable RX2 5 ∈ WS := WS_in 183 (by decide +kernel) (by decide +kernel)
theorem inst_3 : Cond.instantiable RX3 2 ∈ WS := WS_in 157 (by decide +kernel) (by decide +kernel)
theorem inst_4 : Cond.instantiable RX4 2 ∈ WS := WS_in 34 (by decide +kernel) (by decide +kernel)
theorem inst_5 : Cond.instantiable RX5 5 ∈ WS := WS_in 130 (by decide +kernel) (by decide +kernel)
theorem inst_6 : Cond.instantiable RX6 5 ∈ WS := WS_in 151 (by decide +kernel) (by decide +kernel)
theorem inst_7 : Cond.instantiable RX7 4 ∈ WS := WS_in 48 (by decide +kernel) (by decide +kernel)
theorem inst_8 : Cond.instantiable RX8 7 ∈ WS := WS_in 26 (by decide +kernel) (by decide +kernel)
theorem clsK {s : State} {args : Array Value} (hts : ∀ w ∈ WS, w.before args s = true) : ∃ D : va_G, ∀ (k : Nat) (q : vw_C), vwCl[k]? = some q → u_Kn s q.1 q.2.1 q.2.2 (D.1 k) (D.2 k) := by
  obtain ⟨c0, i0, h0⟩ := u_known (C := RX0) (T := TX0) (N := 4) (n := 4) hts inWX0 (hts _ inst_0)
  obtain ⟨c1, i1, h1⟩ := u_known (C := RX1) (T := TX1) (N := 12) (n := 12) hts inWX1 (hts _ inst_1)
  obtain ⟨c2, i2, h2⟩ := u_known (C := RX2) (T := TX2) (N := 5) (n := 5) hts inWX2 (hts _ inst_2)
  obtain ⟨c3, i3, h3⟩ := u_known (C := RX3) (T := TX3) (N := 2) (n := 2) hts inWX3 (hts _ inst_3)
  obtain ⟨c4, i4, h4⟩ := u_known (C := RX4) (T := TX4) (N := 2) (n := 2) hts inWX4 (hts _ inst_4)
  obtain ⟨c5, i5, h5⟩ := u_known (C := RX5) (T := TX5) (N := 5) (n := 5) hts inWX5 (hts _ inst_5)
  obtain ⟨c6, i6, h6⟩ := u_known (C := RX6) (T := TX6) (N := 5) (n := 5) hts inWX6 (hts _ inst_6)
  obtain ⟨c7, i7, h7⟩ := u_known (C := RX7) (T := TX7) (N := 4) (n := 4) hts inWX7 (hts _ inst_7)
  obtain ⟨c8, i8, h8⟩ := u_known (C := RX8) (T := TX8) (N := 7) (n := 7) hts inWX8 (hts _ inst_8)
  refine ⟨(fun k => ([c0, c1, c2, c3, c4, c5, c6, c7, c8] : List ClassId).getD k c0, fun k => ([i0, i1, i2, i3, i4, i5, i6, i7, i8] : List (Nat → Nat)).getD k i0), fun k q hq => ?_⟩
  match k, hq with
  | 0, hq => cases hq; exact h0
  | 1, hq => cases hq; exact h1
  | 2, hq => cases hq; exact h2
  | 3, hq => cases hq; exact h3
  | 4, hq => cases hq; exact h4
  | 5, hq => cases hq; exact h5
  | 6, hq => cases hq; exact h6
  | 7, hq => cases hq; exact h7
  | 8, hq => cases hq; exact h8
  | k + 9, hq => simp at hq
theorem strK {s : State} {args : Array Value} {cur : ClassId} (hcur : s.vm.findClass RX8 = some cur) (hts : ∀ w ∈ lw_tbl, w.before args s = true) : ∃ ads : Nat → Nat, ∀ q ∈ zSTR, vk_R RX8 q.1 q.2 (ads q.1) s := by
  have hs : ∀ k : Nat, ∃ a : Nat, ∀ tx, (k, tx) ∈ zSTR → vk_R RX8 k tx a s := fun k => by
    by_cases h : ∃ tx, (k, tx) ∈ zSTR
    · obtain ⟨tx, htx⟩ := h
      obtain ⟨_, _, _, a, _, _, _, _, _, hev⟩ := Cond.stringRef_spec hcur (hts _ (str_all _ htx))
      exact ⟨a, fun tx2 h2 => vk_R.of (hts _ (str_all _ h2)) hev⟩
    · exact ⟨0, fun tx h2 => absurd ⟨tx, h2⟩ h⟩
  exact ⟨fun k => (hs k).choose, fun q hq => (hs q.1).choose_spec q.2 hq⟩
theorem worldK {s : State} {b : Nat} (hts : ∀ w ∈ lw_tbl, w.before #[Value.ref b] s = true) (hgv : (Jvm.Cond.and given_1 narrow_1).before #[Value.ref b] s = true) : ∃ (D : va_G) (cI cZ : ClassId) (ads : Nat → Nat), zKJ D cI cZ s ∧ zT ads (fun q : Nat => s.heap.size ≤ q) s := by
  have htW : ∀ w ∈ WS, w.before #[Value.ref b] s = true := fun w hw => hts w (WS_tbl w hw)
  have hfl := flat_of_before _ hgv
  obtain ⟨D, hD⟩ := clsK htW
  obtain ⟨cI, cZ, hA⟩ := arrK (hts _ arr_all.1) (hts _ arr_all.2)
  obtain ⟨ads, hads⟩ := strK (hD 8 _ rfl).2.1 hts
  refine ⟨D, cI, cZ, ads, ⟨⟨⟨hD, hA⟩, fun q hq => va_Nw.of rfl (hts _ (nw_all q hq))⟩, fun q hq => va_Nc.of (hfl _ (nc_all q hq))⟩, ?_, ?_, hads, fun q hq => va_Nw.of rfl (hts _ (cas_all q hq)), fun y hy => va_Nw.of rfl (hts _ (dec_all y hy))⟩
  · exact vx_Zqof (hts _ sta_all.1) (hts _ sta_all.2.2) (hfl _ ref_all.1) (fun a h => Nat.not_le.mpr h)
  · exact vx_Zqof (hts _ sta_all.2.1) (hts _ sta_all.2.2) (hfl _ ref_all.2) (fun a h => Nat.not_le.mpr h)
/-! the start -/
def zLF (Γ : zG) (cI cZ : ClassId) : Prop := match Γ with
  | (p, _, _, R, s, m, args, _, _, c, _, D, A, _, _, nL) => p.tables.exec = Jvm.exec ∧ c.code = cL_law ∧ c.maxLocals = nL ∧ s.vm.findClass RL = some m.cls ∧ (∀ w ∈ WS, w.before args s = true) ∧ zKJ D cI cZ s ∧ R = room_1 ∧ nL = 18 ∧ ∀ q, s.heap.size ≤ q → A q
section RowsS
variable {Γ : zG} {cI cZ : ClassId} {k n : Nat} {ws : va_W} {lv : List (Nat × Value)} {pc : Nat} {st : List Value}
theorem z_dup (F : zLF Γ cI cZ) {v : Value} (hv : v.category = 1) (d0 : decode cL_law pc = .ok (.dup, 1)) (kk : zc Γ k n ws lv (pc + 1) (v :: v :: st)) : zc Γ k n ws lv pc (v :: st) := by
  obtain ⟨p, l, e, R, s, m, args, below, meth, c, Q, D, A, k0, n0, nL⟩ := Γ
  obtain ⟨hx, hb, hml, hown, hts, hK, rfl, rfl, hA⟩ := F
  intro H locs ls hP hD hS hh
  exact lv_dup hx hb d0 hv (kk H locs ls hP hD hS hh)
theorem z_iconst (F : zLF Γ cI cZ) {v : Int} (d0 : decode cL_law pc = .ok (.iconst v, 1)) (kk : zc Γ k n ws lv (pc + 1) (.int (zI v) :: st)) : zc Γ k n ws lv pc st := by
  obtain ⟨p, l, e, R, s, m, args, below, meth, c, Q, D, A, k0, n0, nL⟩ := Γ
  obtain ⟨hx, hb, hml, hown, hts, hK, rfl, rfl, hA⟩ := F
  intro H locs ls hP hD hS hh
  exact lv_iconst hx hb d0 rfl (kk H locs ls hP hD hS hh)
theorem z_astore (F : zLF Γ cI cZ) {kf : Fin 4} {i : Nat} {x : Nat} {lv' : List (Nat × Value)} (d0 : decode cL_law pc = .ok (.astore_n kf, 1)) (hi : (kf : Nat) = i) (hn : i < 18) (hl : (i, Value.ref x) :: lv.filter (fun q => !(q.1 == i) && !(q.1 + 1 == i && q.2.category == 2)) = lv') (kk : zc Γ k n ws lv' (pc + 1) st) : zc Γ k n ws lv pc (.ref x :: st) := by
  obtain ⟨p, l, e, R, s, m, args, below, meth, c, Q, D, A, k0, n0, nL⟩ := Γ
  obtain ⟨hx, hb, hml, hown, hts, hK, rfl, rfl, hA⟩ := F
  intro H locs ls hP hD hS hh
  exact lv_astore_n hx hb d0 hi hh hn hl (fun ls hl => kk H locs ls hP hD hS hl)
theorem z_istore (F : zLF Γ cI cZ) {i : Nat} {x : Int32} {lv' : List (Nat × Value)} (d0 : decode cL_law pc = .ok (.istore i, 2)) (hn : i < 18) (hl : (i, Value.int x) :: lv.filter (fun q => !(q.1 == i) && !(q.1 + 1 == i && q.2.category == 2)) = lv') (kk : zc Γ k n ws lv' (pc + 2) st) : zc Γ k n ws lv pc (.int x :: st) := by
  obtain ⟨p, l, e, R, s, m, args, below, meth, c, Q, D, A, k0, n0, nL⟩ := Γ
  obtain ⟨hx, hb, hml, hown, hts, hK, rfl, rfl, hA⟩ := F
  intro H locs ls hP hD hS hh
  exact lv_istore hx hb d0 hh hn hl (fun ls hl => kk H locs ls hP hD hS hl)
theorem z_new (F : zLF Γ cI cZ) {C : String} {T : u_T} {N ci idx : Nat} (hin0 : ∀ w ∈ u_ws C T N, w ∈ WS) (ty : Nat → FieldType) (hty : ∀ k, k < N → parseFieldDescriptor (T k).2.2.1 = some (ty k)) (hcl : Cond.classLink RL idx C ∈ WS) (hinst : Cond.instantiable C N ∈ WS) (hini : Cond.initialized C ∈ WS) (hc : vwCl[ci]? = some (C, T, N)) {fs : List Value} (hfs : ∀ j, j < N → defaultValue (ty j) = vp_V fs j) (h1 : k + 1 ≤ 119) (h2 : n + N ≤ 2739) (d0 : decode cL_law pc = .ok (.new idx, 3)) (kk : ∀ q, zc Γ (k + 1) (n + N) (ws ++ [(q, .inr (ci, fs))]) lv (pc + 3) (.ref q :: st)) : zc Γ k n ws lv pc st := by
  obtain ⟨p, l, e, R, s, m, args, below, meth, c, Q, D, A, k0, n0, nL⟩ := Γ
  obtain ⟨hx, hb, hml, hown, hts, hK, rfl, rfl, hA⟩ := F
  intro H locs ls hP hD hS hh
  exact va_new hx hb hts hin0 ty hty hown (hts _ hcl) (hts _ hinst) (hts _ hini) hK.zK.1 hP hD hS hA hc hfs h1 h2 d0 (fun q H1 hP1 hD1 hS1 => kk q H1 locs ls hP1 hD1 hS1 hh)
theorem z_ctor (F : zLF Γ cI cZ) {y : MethodName} {cy : ByteArray} {mL idx ci q mc ms : Nat} {rm2 : Room} {fs0 : List Value} {W0 : (Nat → Nat) → va_W} (hi : Cond.instanceMethod y ∈ WS) (hini : Cond.initialized y.cls ∈ WS) (hco : Cond.code y cy mL none ∈ WS) (hl : Cond.methodLink RL idx y ∈ WS) (hy : y.name = "<init>") (hd2 : y.cls ≠ "java/lang/invoke/MethodHandle" ∧ y.cls ≠ "java/lang/invoke/VarHandle" ∧ (parseMethodDescriptor y.desc).map (fun d => d.parameters.length) = some 0) (hM : ∀ l D, zCt l y cy mL rm2 D cI cZ ci fs0 W0 mc ms) (hR : rm2.cells = mc ∧ rm2.slots = ms ∧ rm2.frames + 1 ≤ 11 ∧ 8 + (mL + 11) + rm2.locals ≤ 400) (hW : (st.map fun v => v.category).sum ≤ 8) (h1 : k + mc ≤ 119) (h2 : n + ms ≤ 2739) (d0 : decode cL_law pc = .ok (.invokespecial idx, 3)) (kk : ∀ ad, ad 0 = q → zc Γ (k + mc) (n + ms) (ws ++ W0 ad) lv (pc + 3) st) : zc Γ k n (ws ++ [(q, .inr (ci, fs0))]) lv pc (.ref q :: st) := by
  obtain ⟨p, l, e, R, s, m, args, below, meth, c, Q, D, A, k0, n0, nL⟩ := Γ
  obtain ⟨hx, hb, hml, hown, hts, hKJ, rfl, rfl, hA⟩ := F
  intro H locs ls hP hD hS hh
  have hg : GoodIn WS (Cond.code y cy mL none :: WS) := WS_sub (fun _ h => h) (fun w hw => by
    rcases List.mem_cons.mp hw with rfl | hw
    · exact hco
    · exact hw)
  have hx0 : (ws ++ [(q, (.inr (ci, fs0) : va_E))])[ws.length]? = some (q, .inr (ci, fs0)) := by
    rw [List.getElem?_append_right (Nat.le_refl _), Nat.sub_self]; rfl
  have hAq : ∀ x, zAC q H.size x → A x := fun x hx9 => by
    rcases hx9 with rfl | hx9
    · exact hD.2 _ _ hx0
    · exact hA x (Nat.le_trans hS.1 hx9)
  have hPc : va_P D vwCl [(q, (.inr (ci, fs0) : va_E))] H := fun i z hz => by
    have hi1 : i < 1 := (List.getElem?_eq_some_iff.mp hz).1
    rw [show i = 0 by omega] at hz
    cases hz
    exact hP _ _ hx0
  refine va_callv (va_runI (As := []) (rest := st) ⟨hx, hb, hml, hown, hts⟩ (hM l D q H.size) (cwI 0 hts hg rfl hR.1 hR.2.1 (hts _ hini) (hts _ hl) (hts _ hi) hy hd2 ⟨hR.2.2.1, hR.2.2.2⟩) ⟨fun a U g mk z => ⟨z.1, z.2.1, z.2.2.1, zK.same (u := U) (U := U.calling g mk a) rfl z.2.2.2⟩, fun U hU hW => ⟨rfl, by rw [hU], by rw [hU]; exact hPc, zK.warm hW hKJ.zK⟩⟩ rfl rfl hh.1 rfl (lv_room hW) d0 ⟨h1, h2⟩) hS (fun x _ h => hAq x h) hAq (fun ad t H1 locs1 ht hvm hw hB hz1 hk1 hS1 => ?_)
  obtain ⟨hB1, hB2⟩ := hB
  rw [ht] at hB1
  obtain ⟨hP9, hD9⟩ := zjoinC hP hD hk1 hAq hB1 hB2
  exact kk ad hw H1 locs1 ls hP9 hD9 hS1 hh
theorem z_bipush (F : zLF Γ cI cZ) {v : Int} (hv : (Int8.ofInt v).toInt32 = zI v) (d0 : decode cL_law pc = .ok (.bipush v, 2)) (kk : zc Γ k n ws lv (pc + 2) (.int (zI v) :: st)) : zc Γ k n ws lv pc st := by
  obtain ⟨p, l, e, R, s, m, args, below, meth, c, Q, D, A, k0, n0, nL⟩ := Γ
  obtain ⟨hx, hb, hml, hown, hts, hK, rfl, rfl, hA⟩ := F
  intro H locs ls hP hD hS hh
  exact lv_bipush hx hb d0 hv (kk H locs ls hP hD hS hh)
theorem z_astorew (F : zLF Γ cI cZ) {i : Nat} {x : Nat} {lv' : List (Nat × Value)} (d0 : decode cL_law pc = .ok (.astore i, 2)) (hn : i < 18) (hl : (i, Value.ref x) :: lv.filter (fun q => !(q.1 == i) && !(q.1 + 1 == i && q.2.category == 2)) = lv') (kk : zc Γ k n ws lv' (pc + 2) st) : zc Γ k n ws lv pc (.ref x :: st) := by
  obtain ⟨p, l, e, R, s, m, args, below, meth, c, Q, D, A, k0, n0, nL⟩ := Γ
  obtain ⟨hx, hb, hml, hown, hts, hK, rfl, rfl, hA⟩ := F
  intro H locs ls hP hD hS hh
  exact lv_astore hx hb d0 hh hn hl (fun ls hl => kk H locs ls hP hD hS hl)
theorem z_newI (F : zLF Γ cI cZ) {N : Nat} {v : Int} (harr : Cond.arrayClass .int ∈ WS) (hv : ¬ zI v < 0) (hN2 : (zI v).toNatClampNeg = N) (hby : N * 4 ≤ 536870912) (h1 : k + 1 ≤ 119) (h2 : n + N ≤ 2739) (d0 : decode cL_law pc = .ok (.newarray .int, 2)) (kk : ∀ q, zc Γ (k + 1) (n + N) (ws ++ [(q, .inl (cI, N, .inl (zA (fun _ => 0))))]) lv (pc + 2) (.ref q :: st)) : zc Γ k n ws lv pc (.int (zI v) :: st) := by
  obtain ⟨p, l, e, R, s, m, args, below, meth, c, Q, D, A, k0, n0, nL⟩ := Γ
  obtain ⟨hx, hb, hml, hown, hts, hKJ, rfl, rfl, hA⟩ := F
  obtain ⟨⟨hK, hN⟩, -⟩ := hKJ
  intro H locs ls hP hD hS hh
  have hby2 : N * componentBytes .int ≤ 536870912 := Nat.le_trans (Nat.mul_le_mul_left N (show componentBytes .int ≤ 4 by decide)) hby
  refine va_newa (atype := .int) (ty := .int) (a0 := (N, .inl (zA (fun _ => 0)))) hx hb (hts _ harr) rfl hK hP hD hS hA (fun cA => rfl) hv hN2 hby2 h1 h2 d0 (fun q cA H1 hK1 hP1 hD1 hS1 => ?_)
  have e1 := (hK1.2 2 (cA, .int) rfl).2
  have e2 := (hK.2 0 (cI, .int) rfl).2
  have e3 : cA = cI := Option.some.inj (Eq.trans (Eq.symm e1) e2)
  rw [e3] at hP1 hD1
  exact kk q H1 locs ls hP1 hD1 hS1 hh
end RowsS
theorem lz_cl8 : Cond.classLink RL 7 RX8 ∈ WS := WS_in 25 (by decide +kernel) (by decide +kernel)
theorem lz_in8 : Cond.initialized RX8 ∈ WS := WS_in 8 (by decide +kernel) (by decide +kernel)
theorem lz_ml8 : Cond.methodLink RL 21 yX8_init ∈ WS := WS_in 27 (by decide +kernel) (by decide +kernel)
theorem lz_im8 : Cond.instanceMethod yX8_init ∈ WS := WS_in 28 (by decide +kernel) (by decide +kernel)
theorem lz_co8 : Cond.code yX8_init cX8_init 1 none ∈ WS := WS_in 29 (by decide +kernel) (by decide +kernel)
theorem lz_ai : Cond.arrayClass .int ∈ WS := WS_in 46 (by decide +kernel) (by decide +kernel)
set_option maxRecDepth 100000 in
theorem wL_same (cI cZ : ClassId) (ad : Nat → Nat) (S S' : zSt) : (wL cI cZ ad S).map Prod.fst = (wL cI cZ ad S').map Prod.fst := rfl
set_option maxRecDepth 100000 in
theorem law_body {Γ : zG} {cI cZ : ClassId} {ads : Nat → Nat} {b L : Nat} {xs : Nat → Int32} (hL : L ≤ 260) (F : zLF Γ cI cZ) (X : zLX Γ ads cI cZ b L xs) : zc Γ 0 0 [] [(0, .ref b)] 0 [] := by
  refine z_new F (fs := [.null, .null, .null, .null, .null, .null, .null]) inWX8 tyX8 tyX8_ok lz_cl8 inst_8 lz_in8 (ci := 8) rfl fsX8_0 (Nat.le_of_ble_eq_true rfl) (Nat.le_of_ble_eq_true rfl) dL_law_0 (fun q1 => ?_)
  refine z_dup F rfl dL_law_3 ?_
  refine z_ctor F (W0 := w0X8 cI cZ) lz_im8 lz_in8 lz_co8 lz_ml8 rfl ⟨by decide, by decide, by decide +kernel⟩ (fun l D => c_X8_init) ⟨rfl, rfl, Nat.le_of_ble_eq_true rfl, Nat.le_of_ble_eq_true rfl⟩ (Nat.le_of_ble_eq_true rfl) (Nat.le_of_ble_eq_true rfl) (Nat.le_of_ble_eq_true rfl) dL_law_4 (fun ad e1 => ?_)
  subst e1
  refine z_astore F (lv' := [(1, .ref (ad 0)), (0, .ref b)]) dL_law_7 rfl (by decide) rfl ?_
  refine z_bipush F bp_12 dL_law_8 ?_
  refine z_newI F (N := 12) lz_ai (by decide) (by decide) (by decide) (Nat.le_of_ble_eq_true rfl) (Nat.le_of_ble_eq_true rfl) dL_law_10 (fun q2 => ?_)
  refine z_astore F (lv' := [(2, .ref q2), (1, .ref (ad 0)), (0, .ref b)]) dL_law_12 rfl (by decide) rfl ?_
  refine z_bipush F bp_60 dL_law_13 ?_
  refine z_newI F (N := 60) lz_ai (by decide) (by decide) (by decide) (Nat.le_of_ble_eq_true rfl) (Nat.le_of_ble_eq_true rfl) dL_law_15 (fun q3 => ?_)
  refine z_astore F (lv' := [(3, .ref q3), (2, .ref q2), (1, .ref (ad 0)), (0, .ref b)]) dL_law_17 rfl (by decide) rfl ?_
  refine z_bipush F bp_60 dL_law_18 ?_
  refine z_newI F (N := 60) lz_ai (by decide) (by decide) (by decide) (Nat.le_of_ble_eq_true rfl) (Nat.le_of_ble_eq_true rfl) dL_law_20 (fun q4 => ?_)
  refine z_astorew F (lv' := [(4, .ref q4), (3, .ref q3), (2, .ref q2), (1, .ref (ad 0)), (0, .ref b)]) dL_law_22 (by decide) rfl ?_
  refine z_bipush F bp_60 dL_law_24 ?_
  refine z_newI F (N := 60) lz_ai (by decide) (by decide) (by decide) (Nat.le_of_ble_eq_true rfl) (Nat.le_of_ble_eq_true rfl) dL_law_26 (fun q5 => ?_)
  refine z_astorew F (lv' := [(5, .ref q5), (4, .ref q4), (3, .ref q3), (2, .ref q2), (1, .ref (ad 0)), (0, .ref b)]) dL_law_28 (by decide) rfl ?_
  obtain ⟨a9, ha9⟩ : ∃ a9 : Nat → Nat, a9 = fun k => if k < 38 then ad k else if k = 38 then q2 else if k = 39 then q3 else if k = 40 then q4 else q5 := ⟨_, rfl⟩
  obtain ⟨p, l, e, R, s, m, args, below, meth, c, Q, D, A, k0, n0, nL⟩ := Γ
  obtain ⟨hx, hb, hml, hown, hts, hKJ, rfl, rfl, hA⟩ := F
  intro H locs ls hP hD hS hh
  have hP2 : va_P D vwCl (wL cI cZ a9 zS0) H := by subst ha9; exact hP.sub [0, 1, 2, 3, 4, 5, 6, 7, 8, 9, 10, 11, 12, 13, 14, 15, 16, 17, 18, 19, 20, 21, 22, 23, 24, 25, 26, 27, 28, 29, 30, 31, 32, 33, 34, 35, 36, 37, 38, 39, 40, 41] rfl
  have hD2 : va_D A (wL cI cZ a9 zS0) := by subst ha9; exact hD.sub [0, 1, 2, 3, 4, 5, 6, 7, 8, 9, 10, 11, 12, 13, 14, 15, 16, 17, 18, 19, 20, 21, 22, 23, 24, 25, 26, 27, 28, 29, 30, 31, 32, 33, 34, 35, 36, 37, 38, 39, 40, 41] (by decide) rfl
  have hh2 : lv_has ls 18 [(0, .ref b), (1, .ref (a9 0)), (2, .ref (a9 38)), (3, .ref (a9 39)), (4, .ref (a9 40)), (5, .ref (a9 41))] := by subst ha9; exact lv_sub hh [5, 4, 3, 2, 1, 0] rfl
  have hDa : ∀ S, va_D A (wL cI cZ a9 S) := fun S => zD_same (D := D) (wL_same cI cZ a9) hD2
  have F2 : zF (p, l, e, room_1, s, m, args, below, meth, c, Q, D, A, 42, 2149, 18) (wL cI cZ a9) cI cZ cL_law room_1 18 RL := ⟨hx, hb, hml, hown, hts, hKJ.zK, hDa, rfl, Nat.le_of_ble_eq_true rfl, Nat.le_of_ble_eq_true rfl, rfl⟩
  obtain ⟨n, C, r, e9, hI⟩ := q_A (cel9 L xs)
  rw [← zS0_e] at e9
  have e8 := g_L_A (k9 := 0) (n9 := 0) hL F2 X (S := zS0) e9 (fun _ _ _ _ => law_loop hL 55 _ 42 2149 0 n 0 C r z0f z0f z0f F2 X ⟨rfl, rfl⟩ ⟨by decide, by decide⟩ hI (Int.le_refl 0) (Int.le_refl 0) (by decide))
  exact e8 (zS0_G bsL) H locs ls hP2 hS hh2
theorem whole_start {p : Program} {e : Env} {s : State} {m : MethodId} {below : List Frame} {meth : Method} {c : Code} (l : Launch) (hflags : l.flags = flags0) {b L : Nat} {xs : Nat → Int32} (hL : L ≤ 260) (C0 : lw_At p s m meth c b L xs) : W p l e room_1 s m #[Value.ref b] below meth c s.heap [] 0 0 (lw_Z below #[Value.ref b] s) (entryFrame m ([Value.ref b] : List Value).toArray 18) := by
  obtain ⟨hx, hb, hr, hml, hown, hts, hX, hbl, hlocks, hgv⟩ := C0
  obtain ⟨D, cI, cZ, ads, hKJ, hT⟩ := worldK hts hgv
  have hst : l.stackTraces = false := by
    show (!l.flags.contains noTraceFlag) = false
    rw [hflags]
    decide
  have F : zLF (p, l, e, room_1, s, m, #[Value.ref b], below, meth, c, lw_Z below #[Value.ref b] s, D, (fun q : Nat => s.heap.size ≤ q), 0, 0, 18) cI cZ := ⟨hx, hb, hml, hown, fun w hw => hts w (WS_tbl w hw), hKJ, rfl, rfl, fun _ h => h⟩
  have X : zLX (p, l, e, room_1, s, m, #[Value.ref b], below, meth, c, lw_Z below #[Value.ref b] s, D, (fun q : Nat => s.heap.size ≤ q), 0, 0, 18) ads cI cZ b L xs := ⟨hst, hT, hKJ, hX, hbl, rfl, rfl, rfl, hr, hlocks⟩
  have hl := lv_entry [.ref b] (n := 18) (Nat.le_of_ble_eq_true rfl)
  rw [lg_entry_eq]
  exact law_body hL F X s.heap [] _ (fun k q h => by simp at h) ⟨fun i j p q h => by simp at h, fun k q h => by simp at h⟩ va_S.rf hl
end
section
set_option maxHeartbeats 4000000 in
theorem lw_walk (l : Launch) (hflags : l.flags = flags0) (b : Addr) (xs : List Int32) : MetFree l x (headSpec (Jvm.Cond.code x code maxLocals ret :: tables_1) room_1) (lw_P b xs) (fun _ _ _ _ _ => True) lw_Q := by
  refine MetFree.of_bodyS (code := code) (maxLocals := maxLocals) (ret := ret) (by decide) ?_ ?_
  · intro args s m h hn
    obtain ⟨meth, c, h1, h2, h3, h4, h5, h6, -, -⟩ := Cond.code_spec hn (atoms_spec (ws := Jvm.Cond.code x code maxLocals ret :: tables_1) h _ List.mem_cons_self)
    exact ⟨meth, c, h1, h2, h3, h4, h5, h6⟩
  · intro p e s m args below meth c s₁ B hml0 hP _
    obtain ⟨rfl, hx, hbd, hgv⟩ := hP
    obtain ⟨scr, harrAt, hlist, hof, hsmall⟩ := hx
    obtain ⟨hcb, hkn, -, -⟩ := State.arrayAt?_spec harrAt
    have hown : s.vm.findClass R_law = some m.cls := findClass_of_methodNamed B.named
    have hts0 : ∀ c ∈ (Jvm.Cond.code x code maxLocals ret :: tables_1), c.before #[Value.ref b] s = true := atoms_spec (ws := Jvm.Cond.code x code maxLocals ret :: tables_1) B.pre
    have hts : ∀ w ∈ lw_tbl, w.before #[Value.ref b] s = true := k2_hts_sels lw_privs (fun w hw => hts0 w (List.mem_cons_of_mem _ hw)) lw_privs_ok
    have hml : c.maxLocals = 18 := B.maxLocals_eq (hts0 _ List.mem_cons_self)
    have X₀ : Stand p l e room_1 s m #[Value.ref b] below meth c s₁ [] 0 0 := Stand.of_body B
    have hh0 : s₁.heap = s.heap := by rw [B.state]; rfl
    have hsz : scr.slots.size = xs.length := by rw [← Array.length_toList, hlist, List.length_map]
    have hval : ∀ j : Nat, j < xs.length → scr.slots[j]? = some (.int (xs.getD j 0)) := fun j hj => by
      rw [← Array.getElem?_toList, hlist]
      simp [hj]
    have hbl : b < s.heap.size := (Array.getElem?_eq_some_iff.mp hcb).1
    have hX : va_X b xs.length (fun j => xs.getD j 0) s s.heap := ⟨scr, hcb, hof, hkn, hsz, hval⟩
    have K : W p l e room_1 s m #[Value.ref b] below meth c s₁.heap [] 0 0 (lw_Z below #[Value.ref b] s) (entryFrame m ([Value.ref b] : List Value).toArray 18) := by
      rw [hh0]
      exact whole_start l hflags hbd ⟨B.exec, B.bytes, B.returns, hml, hown, hts, hX, hbl, B.notSynchronized, hgv⟩
    obtain ⟨t, a1, o, b1, b2, b3⟩ := K s₁ rfl X₀
    exact ⟨t, o, a1, b1, b2, b3⟩
theorem lw_pre_spec {args : Array Value} {s : State} (h : (Jvm.Cond.and given_1 narrow_1).before args s = true) (hr : rest_1_c.before args s = true) : ∃ (b : Addr) (xs : List Int32), lw_P b xs args s := by
  have hs := flat_of_before _ h
  have hq := flat_of_before _ hr
  have hc : (Cond.count 1).before args s = true := hs _ (by decide +kernel)
  have harr : (Cond.arrayOf (.arg 0) .int).before args s = true := hs _ (by decide +kernel)
  have hle : (Cond.le (.length (.arg 0)) (.int 260)).before args s = true := hs _ (by decide +kernel)
  have hlen : (Cond.isInt (.length (.arg 0))).before args s = true := hq _ (by decide +kernel)
  have hall : (Cond.all (.arg 0) (.isInt (.elem (.arg 0) (.index 0)))).before args s = true := hq _ (by decide +kernel)
  obtain ⟨b, xs, hb, hx⟩ := State.ints_of_pre rfl harr hlen hall
  have hsm : xs.length < 2 ^ 31 := hx.choose_spec.2.2.2
  have hev : (Term.length (.arg 0)).eval args s none [] s = some (.int xs.length.toInt32) := hx.length_eval hb
  have hv := Cond.le_ints hev (show (Term.int 260).eval args s none [] s = some (.int 260) from rfl)
  have hd : xs.length.toInt32 ≤ 260 := by
    simpa [Cond.before, Cond.holds, hv] using hle
  have hN : xs.length ≤ 260 := (Int32.ofNat_le_ofNat hsm (by decide)).mp (show Int32.ofNat xs.length ≤ Int32.ofNat 260 from hd)
  exact ⟨b, xs, Cond.one_arg hc (show args[0]? = some (.ref b) from hb), hx, hN, h⟩
theorem lw_comes (l : Launch) (hflags : l.flags = flags0) : Comes l x (Jvm.Cond.code x code maxLocals ret :: tables_1) room_1 (fun tb e args s => Calls_1 tb e args s ∧ rest_1 tb e args s ∧ Pre_1 tb e args s)
    (fun _ _ args s o t => lw_Q args s o t) := by
  intro p e ha hc hk s m args below hf hfit hheap happ hpre
  obtain ⟨b, xs, hP⟩ := lw_pre_spec hpre.2.2 hpre.2.1
  obtain ⟨k, o, h1, h2, h3, hQ⟩ := lw_walk l hflags b xs p e ha hc hk s m args below hf ((Spec.applies_iff_loose hf).mp happ).1 hP trivial
  exact ⟨k, o, h1, h2, h3, hQ⟩
theorem lw_frame {s t : State} {o : Outcome} {args : Array Value} (h : Framed s o t [] 119 2739) :
    Framed s o t (fieldLocs frame_1_writes args s ++ arrayLocs frame_1_arrays args s ++ staticLocs frame_1_statics s) 119 2739 := h
theorem lw_limb (L : Cond) (hL : ∀ (args : Array Value) (s t : State), L.after args s (.returned (some (.int 1))) t = true) :
    ArmFor flags0 classFile x code maxLocals ret World_1 tables_1 room_1 Calls_1 rest_1 Pre_1
      (fun tb e a s o t => postC L tb e a s o t ∧ Framed s o t (fieldLocs frame_1_writes a s ++ arrayLocs frame_1_arrays a s ++ staticLocs frame_1_statics s) 119 2739) := by
  intro l hflags _ _ p e ha hc hk s m args below hf hfit hheap happ hpre
  obtain ⟨k, o, h1, h2, h3, rfl, hF⟩ := lw_comes l hflags p e ha hc hk s m args below hf hfit hheap happ hpre
  exact ⟨k, _, h1, h2, h3, hL args s _, lw_frame hF⟩
theorem i_vc : Claimed_1_1 ∧ Claimed_1_2 := ⟨lw_limb limb_1_1 (fun args s t => by simp [limb_1_1, Cond.after, Cond.holds, Cond.value]), lw_limb limb_1_2 (fun args s t => Cond.after_iff.mpr (by
  first | (rw [show limb_1_2 = Cond.eq .result (.int 1) from rfl, Cond.eq_ints (x := 1) (y := 1) rfl rfl]; simp; done) | (simp [limb_1_2, Cond.value, Term.eval]; done)))⟩
end
