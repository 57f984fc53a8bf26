section
/-- a private method of a class that the tables say can be made, by its rows of tables_1 -/
def lw_okq (q : MethodName × Nat) : Prop := (q.1.cls ≠ "java/lang/invoke/MethodHandle" ∧ q.1.cls ≠ "java/lang/invoke/VarHandle") ∧ Cond.instantiable q.1.cls q.2 ∈ tables_1 ∧ Cond.privateMethod q.1 ∈ tables_1 ∧ Cond.instanceMethod q.1 ∈ tables_1
theorem lw_p0 : lw_okq (⟨"java/lang/Throwable", "fillInStackTrace", "(I)Ljava/lang/Throwable;"⟩, 6) := ⟨⟨by decide +kernel, by decide +kernel⟩, List.mem_of_getElem? (i := 216) (by decide +kernel), List.mem_of_getElem? (i := 214) (by decide +kernel), List.mem_of_getElem? (i := 215) (by decide +kernel)⟩
theorem lw_p1 : lw_okq (⟨"RagVats$Mill", "allHanging", "()I"⟩, 12) := ⟨⟨by decide +kernel, by decide +kernel⟩, List.mem_of_getElem? (i := 26) (by decide +kernel), List.mem_of_getElem? (i := 342) (by decide +kernel), List.mem_of_getElem? (i := 343) (by decide +kernel)⟩
theorem lw_p2 : lw_okq (⟨"RagVats$Mill", "poundsOf", "(I)I"⟩, 12) := ⟨⟨by decide +kernel, by decide +kernel⟩, List.mem_of_getElem? (i := 26) (by decide +kernel), List.mem_of_getElem? (i := 350) (by decide +kernel), List.mem_of_getElem? (i := 351) (by decide +kernel)⟩
theorem lw_p3 : lw_okq (⟨"RagVats$Vats", "numberWithPulp", "()I"⟩, 3) := ⟨⟨by decide +kernel, by decide +kernel⟩, List.mem_of_getElem? (i := 32) (by decide +kernel), List.mem_of_getElem? (i := 393) (by decide +kernel), List.mem_of_getElem? (i := 394) (by decide +kernel)⟩
theorem lw_p4 : lw_okq (⟨"RagVats$Mill", "makeSheets", "(I)V"⟩, 12) := ⟨⟨by decide +kernel, by decide +kernel⟩, List.mem_of_getElem? (i := 26) (by decide +kernel), List.mem_of_getElem? (i := 398) (by decide +kernel), List.mem_of_getElem? (i := 399) (by decide +kernel)⟩
theorem lw_p5 : lw_okq (⟨"RagVats$Mill", "gradeOf", "(II)I"⟩, 12) := ⟨⟨by decide +kernel, by decide +kernel⟩, List.mem_of_getElem? (i := 26) (by decide +kernel), List.mem_of_getElem? (i := 402) (by decide +kernel), List.mem_of_getElem? (i := 403) (by decide +kernel)⟩
theorem lw_p6 : lw_okq (⟨"RagVats$Mill", "pressPosts", "()V"⟩, 12) := ⟨⟨by decide +kernel, by decide +kernel⟩, List.mem_of_getElem? (i := 26) (by decide +kernel), List.mem_of_getElem? (i := 434) (by decide +kernel), List.mem_of_getElem? (i := 435) (by decide +kernel)⟩
def lw_privs_1 : List (MethodName × Nat) := [(⟨"java/lang/Throwable", "fillInStackTrace", "(I)Ljava/lang/Throwable;"⟩, 6), (⟨"RagVats$Mill", "allHanging", "()I"⟩, 12), (⟨"RagVats$Mill", "poundsOf", "(I)I"⟩, 12), (⟨"RagVats$Vats", "numberWithPulp", "()I"⟩, 3), (⟨"RagVats$Mill", "makeSheets", "(I)V"⟩, 12), (⟨"RagVats$Mill", "gradeOf", "(II)I"⟩, 12), (⟨"RagVats$Mill", "pressPosts", "()V"⟩, 12)]
theorem lw_r1 : ∀ q ∈ lw_privs_1, lw_okq q := List.forall_mem_cons.mpr ⟨lw_p0, List.forall_mem_cons.mpr ⟨lw_p1, List.forall_mem_cons.mpr ⟨lw_p2, List.forall_mem_cons.mpr ⟨lw_p3, List.forall_mem_cons.mpr ⟨lw_p4, List.forall_mem_cons.mpr ⟨lw_p5, List.forall_mem_cons.mpr ⟨lw_p6, fun _ h => absurd h List.not_mem_nil⟩⟩⟩⟩⟩⟩⟩
def lw_privs : List (MethodName × Nat) := lw_privs_1
def lw_tbl : List Cond := k2_sels lw_privs ++ tables_1
theorem lw_privs_ok : ∀ q ∈ lw_privs, lw_okq q := lw_r1
/-- the streams that the claim lets the run draw from -/
abbrev lw_cs : List Choice := [Jvm.Choice.named "NaN.bits"]
theorem lw_bits : nanBits ∈ lw_cs := by first | decide | exact List.mem_cons_self | simp [lw_cs, nanBits]
theorem goodIn_r {big : List Cond} (ws : List Cond) (ps : List Nat) (hp : ws = ps.filterMap (fun i => big[i]?)) (h : ws.all goodWord = true) : GoodIn big ws := by
  intro w hw
  have h1 := List.all_eq_true.mp h w hw
  rw [hp] at hw
  obtain ⟨i, -, hi⟩ := List.mem_filterMap.mp hw
  have hm : w ∈ big := by first | exact List.mem_of_getElem? hi | exact List.getElem?_mem hi
  exact ⟨hm, good_of_word h1⟩
theorem goodIn_app {big a b : List Cond} (ha : GoodIn big a) (hb : GoodIn big b) : GoodIn big (a ++ b) := fun w h => (List.mem_append.mp h).elim (ha w) (hb w)
theorem goodIn_ca {big a b : List Cond} {c : Cond} (ha : GoodIn big (c :: a)) (hb : GoodIn big b) : GoodIn big (c :: (a ++ b)) := fun w h => (List.mem_cons.mp h).elim (fun e => ha w (List.mem_cons.mpr (Or.inl e))) (fun h => (List.mem_append.mp h).elim (fun h => ha w (List.mem_cons.mpr (Or.inr h))) (hb w))
theorem goodIn_sub {big ws : List Cond} (hm : ∀ w ∈ ws, w ∈ big) (h : ws.all goodWord = true) : GoodIn big ws := fun w hw => ⟨hm w hw, good_of_word (List.all_eq_true.mp h w hw)⟩

section VXA
/-! The laws vx_back, vx_callV, vx_callS, vx_callSW, vx_throw0, vx_throwS follow proofs of the library, with one case more: JvmDerived/Free/Laws.lean (Back.of_free), Shelf42/LK1.lean (callV, callS), Shelf/KitTraced.lean (throwNew0V, throwNewS). -/
/-- where a method has thrown q: the class by its name, the cell, what was written, the world -/
def vx_T (XC : String → State → State → Prop) (st : State) (q : Addr) (t : State) (mc ms : Nat) (free : Addr → Prop) : Prop :=
  ∃ (E : String) (ce : Cell) (L : List Loc), XC E st t ∧ t.heap[q]? = some ce ∧ ce.vm = .none ∧ st.vm.findClass E = some ce.cls ∧ st.WarmedH t.vm ∧ st.sameButNew ({ t with vm := st.vm } : State) L mc ms ∧ ∀ z ∈ L, free z.base
def vx_Q (Qc : Array Value → State → Outcome → State → Prop) (XC : String → State → State → Prop) (mc ms : Nat) (free : Addr → Prop) : Array Value → State → Outcome → State → Prop := fun a st o t =>
  (Qc a st o t ∧ ∃ L, FrameEnd st o t L mc ms ∧ ∀ q ∈ L, free q.base) ∨ ∃ q, o = .threw q ∧ vx_T XC st q t mc ms free
/-- a callee that returns or throws -/
def vx_Met (l : Launch) (y : MethodName) (ws : List Cond) (rm : Room) (Pc : Array Value → State → Prop) (Qc : Array Value → State → Outcome → State → Prop) (XC : String → State → State → Prop) (mc ms : Nat) (free : Addr → Prop) : Prop :=
  MetFree l y (headSpec ws rm) Pc (fun _ _ _ _ _ => True) (vx_Q Qc XC mc ms free)
def vx_Post (XC : String → State → State → Prop) (mc ms : Nat) (free : Addr → Prop) : Pt → Array Value → Addr → Pt → Prop := fun A a q B =>
  ∃ (g : JFrame) (mk : MethodId) (t : State) (L : List Loc) (E : String) (ce : Cell), B.U.heap = t.heap ∧ B.U.vm = t.vm ∧ XC E (A.U.calling g mk a) t ∧ t.heap[q]? = some ce ∧ ce.vm = .none ∧ A.U.vm.findClass E = some ce.cls ∧ B.locs = A.locs ++ L ∧ (∀ z ∈ L, free z.base) ∧ B.cells = A.cells + mc ∧ B.slots = A.slots + ms
def vx_Back (l : Launch) (R : Room) (p : Program) (e : Env) (below : List Frame) (s : State) (sargs : Array Value) (y : MethodName) (len W9 : Nat)
    (Pre : Pt → Array Value → Prop) (Post : Pt → Array Value → Option Value → Pt → Prop) (PostX : Pt → Array Value → Addr → Pt → Prop) : Prop :=
  ∀ (m : MethodId) (meth : Method) (c : Code) (A : Pt) (g : JFrame) (ig : Instr) (mk : MethodId) (a : Array Value),
    Stand p l e R s m sargs below meth c A.U A.locs A.cells A.slots → g.method = m → g.locals.size = c.maxLocals → decode c.code g.pc = .ok (ig, len) →
    2 * g.monitorRoom + (g.stack.map fun v => v.category).sum ≤ W9 → A.U.methodNamed? y = some mk → Pre A a →
    (∃ (v : Option Value) (B : Pt), Stand p l e R s m sargs below meth c B.U B.locs B.cells B.slots ∧ Post A a v B ∧
      Steps p.tables e below (doInvoke e (A.U.setTop g) [] mk a).1 (B.U.setTop { g with pc := g.pc + len, stack := v.toList ++ g.stack })) ∨
    (∃ (q : Addr) (B : Pt), Stand p l e R s m sargs below meth c B.U B.locs B.cells B.slots ∧ PostX A a q B ∧
      Steps p.tables e below (doInvoke e (A.U.setTop g) [] mk a).1 ((B.U.setTop g).pushFrame (.throwing q)))
section Payer
variable {l : Launch} {R : Room} {p : Program} {e : Env} {below : List Frame} {s : State} {sargs : Array Value} {y : MethodName} {len W9 : Nat}
theorem vx_back {ws : List Cond} {rm : Room} {Pc : Array Value → State → Prop} {Qc : Array Value → State → Outcome → State → Prop} {XC : String → State → State → Prop} {mc ms : Nat} {free : Addr → Prop} {bytes : ByteArray} {maxL : Nat} {ret : Option FieldType}
    (hM : vx_Met l y ws rm Pc Qc XC mc ms free) (hblind : FrameBlind Pc) (hrc : rm.cells = mc) (hrs : rm.slots = ms)
    (hframes : rm.frames + 1 ≤ R.frames) (hlocals : W9 + (maxL + 11) + rm.locals ≤ R.locals)
    (hws : ∀ w ∈ ws, ∀ a' U, s.WarmedH U.vm → w.before a' U = true) (hcode : Cond.code y bytes maxL ret ∈ ws) (hinit : ∀ a' U, s.WarmedH U.vm → (Cond.initialized y.cls).before a' U = true) :
    vx_Back l R p e below s sargs y len W9 (PreOf R mc ms Pc) (PostOf Qc mc ms free) (vx_Post XC mc ms free) := by
  intro m meth c A g ig mk a X hg hsize hdg hW hn hp
  have h1 : (headSpec ws rm).pre.before a A.U = true := atoms_intro fun w hw => hws w hw _ _ X.warmed
  have h2 : (Cond.code y bytes maxL ret).before a A.U = true := hws _ hcode _ _ X.warmed
  have h3 : (Cond.initialized y.cls).before a A.U = true := hinit _ _ X.warmed
  have h4 : A.cells + (headSpec ws rm).room.cells ≤ R.cells := by rw [show (headSpec ws rm).room.cells = mc from hrc]; exact hp.1
  have h5 : A.slots + (headSpec ws rm).room.slots ≤ R.slots := by rw [show (headSpec ws rm).room.slots = ms from hrs]; exact hp.2.1
  have hPc : Pc a (A.U.calling g mk a) := hblind _ _ _ _ hp.2.2
  obtain ⟨U, Ls, c0, s0⟩ := A
  dsimp only [Pt.U, Pt.locs, Pt.cells, Pt.slots] at h1 h2 h3 h4 h5 X hn hPc ⊢
  obtain ⟨methY, cY, hmY, hcY, -, hlY, -, -, -, -⟩ := Cond.code_spec hn h2
  obtain ⟨kY, hkY, -⟩ := className_of_methodNamed hn
  have hinitY : kY.init = .initialized := Cond.initialized_spec (findClass_of_methodNamed hn) hkY h3
  have h : At U g.method c below := by rw [hg]; exact X.here
  have hlocals9 : W9 + (maxL + 11) + (headSpec ws rm).room.locals ≤ R.locals := hlocals
  have happ : (headSpec ws rm).appliesLoose y e.platform (U.calling g mk a) = true :=
    Spec.appliesLoose_calling (g := g) h hdg hn hkY hinitY
      (X.room_calling (g := g) (R' := (headSpec ws rm).room) hsize hmY hcY hframes (by rw [hlY]; omega) h4 h5) h1
  obtain ⟨mid, hmid⟩ := h.above
  have hfr : (U.setTop g).frames = (.java g :: mid) ++ below := by rw [State.frames_setTop' g h.top, hmid]; rfl
  obtain ⟨o, s₂, hsteps, -, hend, hq⟩ := Steps.callFree hM p X.admits X.cas X.clock (acts := []) hfr happ hPc trivial
  have hq' : vx_Q Qc XC mc ms free a (U.calling g mk a) o s₂ := hq
  rw [State.frames_setTop' g h.top] at hend
  obtain ⟨g₀, hg0⟩ := Option.isSome_iff_exists.mp h.top
  obtain ⟨r, hr⟩ := State.topJava?_eq_some.mp hg0
  have hr' : (({ U with heap := s₂.heap, slotsUsed := s₂.slotsUsed } : State).setVm s₂.vm).frames = .java g₀ :: r := hr
  rcases hq' with ⟨hqc, L, hfe, hL⟩ | ⟨q, rfl, E, ce, L, hx, hce, hcv, hcl, hW₂, hsm, hL⟩
  · obtain ⟨⟨v, rfl⟩, hW₂, e2, q2, q3, q4, q5, q6⟩ := id hfe
    have e3 : s₂ = ({ (U.calling g mk a).setFrames s₂.frames with heap := s₂.heap, slotsUsed := s₂.slotsUsed } : State).setVm s₂.vm := by
      have : s₂ = ({ s₂ with vm := (U.calling g mk a).vm } : State).setVm s₂.vm := rfl
      rw [e2] at this
      exact this
    obtain ⟨c₂, i₂, len₂, hc₂, hd₂, hf₂⟩ := hend
    have hW' : U.WarmedH s₂.vm := hW₂
    have hcc : c₂ = c := by
      have h1 : s₂.code? g.method = U.code? g.method := by
        rw [State.code?_eq, State.code?_eq, hW'.alike.method?]
      exact Option.some.inj (hc₂.symm.trans (h1.trans h.code))
    subst hcc
    have hlen : len₂ = len := by rw [hdg] at hd₂; cases hd₂; rfl
    subst hlen
    have hs₂ : s₂ = (({ U with heap := s₂.heap, slotsUsed := s₂.slotsUsed } : State).setVm s₂.vm).setTop { g with pc := g.pc + len₂, stack := v.toList ++ g.stack } := by
      refine e3.trans ?_
      rw [hf₂, State.calling_eq h.top, State.setFrames_setFrames, State.setTop_of_frames _ hr', hr]
      rfl
    have hsame : U.sameButNew ({ U with heap := s₂.heap, slotsUsed := s₂.slotsUsed } : State) L mc ms := by
      refine ⟨?_, q2, q3, q4, q5, q6⟩
      obtain ⟨t, ht, -⟩ := State.frames_cons hr
      show ({ U with heap := s₂.heap, slotsUsed := s₂.slotsUsed } : State) = { U.setFrames U.frames with heap := s₂.heap, slotsUsed := s₂.slotsUsed }
      rw [State.setFrames_self ht]
    subst hg
    refine Or.inl ⟨v, ⟨(({ U with heap := s₂.heap, slotsUsed := s₂.slotsUsed } : State).setVm s₂.vm), Ls ++ L, c0 + mc, s0 + ms⟩,
      ⟨X.admits, X.cas, X.clock, X.frames, X.room, X.hears, X.method, X.code, (X.here.setHeapUsed s₂.heap s₂.slotsUsed).setVm hW'.alike, X.tail, State.WarmedH.trans X.warmed hW', X.limits, X.bytes, X.same.trans (hsame.setVm s.vm)⟩,
      ⟨g, mk, s₂, L, rfl, rfl, hqc, rfl, hL, rfl, rfl⟩, ?_⟩
    show Steps p.tables e below _ ((({ U with heap := s₂.heap, slotsUsed := s₂.slotsUsed } : State).setVm s₂.vm).setTop { g with pc := g.pc + len₂, stack := v.toList ++ g.stack })
    rw [← hs₂]
    exact hsteps
  · obtain ⟨e2, q2, q3, q4, q5, q6⟩ := id hsm
    have e3 : s₂ = ({ (U.calling g mk a).setFrames s₂.frames with heap := s₂.heap, slotsUsed := s₂.slotsUsed } : State).setVm s₂.vm := by
      have : s₂ = ({ s₂ with vm := (U.calling g mk a).vm } : State).setVm s₂.vm := rfl
      rw [e2] at this
      exact this
    have hf₂ : s₂.frames = .throwing q :: .java g :: U.frames.tail := hend
    have hW' : U.WarmedH s₂.vm := hW₂
    have hs₂ : s₂ = ((({ U with heap := s₂.heap, slotsUsed := s₂.slotsUsed } : State).setVm s₂.vm).setTop g).pushFrame (.throwing q) := by
      refine e3.trans ?_
      rw [hf₂, State.calling_eq h.top, State.setFrames_setFrames, State.pushFrame, State.frames_setTop _ hr', State.setTop_of_frames _ hr', State.setFrames_setFrames, hr]
      rfl
    have hsame : U.sameButNew ({ U with heap := s₂.heap, slotsUsed := s₂.slotsUsed } : State) L mc ms := by
      refine ⟨?_, q2, q3, q4, q5, q6⟩
      obtain ⟨t, ht, -⟩ := State.frames_cons hr
      show ({ U with heap := s₂.heap, slotsUsed := s₂.slotsUsed } : State) = { U.setFrames U.frames with heap := s₂.heap, slotsUsed := s₂.slotsUsed }
      rw [State.setFrames_self ht]
    subst hg
    refine Or.inr ⟨q, ⟨(({ U with heap := s₂.heap, slotsUsed := s₂.slotsUsed } : State).setVm s₂.vm), Ls ++ L, c0 + mc, s0 + ms⟩,
      ⟨X.admits, X.cas, X.clock, X.frames, X.room, X.hears, X.method, X.code, (X.here.setHeapUsed s₂.heap s₂.slotsUsed).setVm hW'.alike, X.tail, State.WarmedH.trans X.warmed hW', X.limits, X.bytes, X.same.trans (hsame.setVm s.vm)⟩,
      ⟨g, mk, s₂, L, E, ce, rfl, rfl, hx, hce, hcv, hcl, rfl, hL, rfl, rfl⟩, ?_⟩
    show Steps p.tables e below _ (((({ U with heap := s₂.heap, slotsUsed := s₂.slotsUsed } : State).setVm s₂.vm).setTop g).pushFrame (.throwing q))
    rw [← hs₂]
    exact hsteps
end Payer
section Calls
variable {p : Program} {l : Launch} {e : Env} {R : Room} {s : State} {m : MethodId} {args : Array Value} {below : List Frame} {meth : Method} {c : Code} {T : State} {locs : List Loc} {cells slots : Nat}
theorem vx_callV (X : Stand p l e R s m args below meth c T locs cells slots) (hexec : p.tables.exec = Jvm.exec) {own C : String} {index : Nat} {y : MethodName} {bytes : ByteArray} {maxL : Nat} {ret : Option FieldType}
    (hown : s.vm.findClass own = some m.cls) (hlink : (Cond.methodLink own index y).before args s = true) (hinst : (Cond.instanceMethod y).before args s = true) (hsel : (Cond.selects C y y).before args s = true)
    (hcode : (Cond.code y bytes maxL ret).before args s = true) (hy : y.cls ≠ "java/lang/invoke/MethodHandle" ∧ y.cls ≠ "java/lang/invoke/VarHandle")
    {W9 : Nat} {Pre : Pt → Array Value → Prop} {Post : Pt → Array Value → Option Value → Pt → Prop} {PostX : Pt → Array Value → Addr → Pt → Prop} (hK : vx_Back l R p e below s args y 3 W9 Pre Post PostX)
    {b : Addr} {cellB : Cell} (hcell : T.heap[b]? = some cellB) (hobj : cellB.vm.isStatics = false) (hcls : s.vm.findClass C = some cellB.cls)
    {g : JFrame} (hg : g.method = m) (hsize : g.locals.size = c.maxLocals) {argsL rest : List Value} (hlen : ∀ sig, parseMethodDescriptor y.desc = some sig → argsL.length = sig.parameters.length)
    (hstack : g.stack = argsL.reverse ++ .ref b :: rest) (hW : 2 * g.monitorRoom + (rest.map fun v => v.category).sum ≤ W9) (hdg : decode c.code g.pc = .ok (.invokevirtual index, 3))
    (hpre : ∀ vm₁, s.WarmedH vm₁ → Pre ⟨T.setVm vm₁, locs, cells, slots⟩ (Value.ref b :: argsL).toArray) :
    (∃ (v : Option Value) (vm₁ : Vm) (B : Pt), s.WarmedH vm₁ ∧ Stand p l e R s m args below meth c B.U B.locs B.cells B.slots ∧ Post ⟨T.setVm vm₁, locs, cells, slots⟩ (Value.ref b :: argsL).toArray v B ∧
      ∀ target, Steps p.tables e below (B.U.setTop { g with pc := g.pc + 3, stack := v.toList ++ rest }) target → Steps p.tables e below (T.setTop g) target) ∨
    (∃ (q : Addr) (vm₁ : Vm) (B : Pt), s.WarmedH vm₁ ∧ Stand p l e R s m args below meth c B.U B.locs B.cells B.slots ∧ PostX ⟨T.setVm vm₁, locs, cells, slots⟩ (Value.ref b :: argsL).toArray q B ∧
      Steps p.tables e below (T.setTop g) ((B.U.setTop { g with stack := rest }).pushFrame (.throwing q))) := by
  obtain ⟨mk, methM, hnamed, hmethM, hstM, habM⟩ := Cond.instanceMethod_spec hinst
  obtain ⟨methM', cM, hmethM', -, -, -, -, -, -, hsigM⟩ := Cond.code_spec hnamed hcode
  cases hmethM.symm.trans hmethM'
  obtain ⟨c2, r2, m2, q1, q2, q3, q4, kP, hkP, hkPi⟩ := Cond.selects_spec hsel
  cases hcls.symm.trans q1
  cases (State.methodFound?_of_named hnamed hy).symm.trans q2
  cases hnamed.symm.trans q3
  have hselP : selectMethod e.platform s.vm cellB.cls mk = .method mk := by rw [Launch.admits_selectMethod X.admits]; exact q4
  obtain ⟨vm₁, X₁, hstep₁⟩ := X.invokevirtual hexec hown hlink hnamed hmethM hstM hkP hkPi hy (a := b) (cell := cellB) hcell
    (fun z h => by rw [h] at hobj; cases hobj) hselP hmethM habM hkP hkPi (g := g) hg (argsL := argsL) (rest := rest) (hlen _ hsigM) hstack hdg
  rcases hK m meth c ⟨T.setVm vm₁, locs, cells, slots⟩ { g with stack := rest } (.invokevirtual index) mk (Value.ref b :: argsL).toArray X₁ hg hsize hdg hW (X₁.named hnamed) (hpre vm₁ X₁.warmed) with ⟨v, B, X', hpost, hsteps⟩ | ⟨q, B, X', hpost, hsteps⟩
  · exact Or.inl ⟨v, vm₁, B, X₁.warmed, X', hpost, fun target h => hstep₁ _ fun acts => by rw [doInvoke_state]; exact hsteps.trans h⟩
  · exact Or.inr ⟨q, vm₁, B, X₁.warmed, X', hpost, hstep₁ _ fun acts => by rw [doInvoke_state]; exact hsteps⟩
theorem vx_callS (X : Stand p l e R s m args below meth c T locs cells slots) (hexec : p.tables.exec = Jvm.exec) {own : String} {index : Nat} {y : MethodName} {bytes : ByteArray} {maxL : Nat} {ret : Option FieldType}
    (hown : s.vm.findClass own = some m.cls) (hlink : (Cond.methodLink own index y).before args s = true) (hstat : (Cond.static y).before args s = true) (hinit : (Cond.initialized y.cls).before args s = true)
    (hcode : (Cond.code y bytes maxL ret).before args s = true) (hy : y.cls ≠ "java/lang/invoke/MethodHandle" ∧ y.cls ≠ "java/lang/invoke/VarHandle")
    {W9 : Nat} {Pre : Pt → Array Value → Prop} {Post : Pt → Array Value → Option Value → Pt → Prop} {PostX : Pt → Array Value → Addr → Pt → Prop} (hK : vx_Back l R p e below s args y 3 W9 Pre Post PostX)
    {g : JFrame} (hg : g.method = m) (hsize : g.locals.size = c.maxLocals) {argsL rest : List Value} (hlen : ∀ sig, parseMethodDescriptor y.desc = some sig → argsL.length = sig.parameters.length)
    (hstack : g.stack = argsL.reverse ++ rest) (hW : 2 * g.monitorRoom + (rest.map fun v => v.category).sum ≤ W9) (hdg : decode c.code g.pc = .ok (.invokestatic index, 3))
    (hpre : ∀ vm₁, s.WarmedH vm₁ → Pre ⟨T.setVm vm₁, locs, cells, slots⟩ argsL.toArray) :
    (∃ (v : Option Value) (vm₁ : Vm) (B : Pt), s.WarmedH vm₁ ∧ Stand p l e R s m args below meth c B.U B.locs B.cells B.slots ∧ Post ⟨T.setVm vm₁, locs, cells, slots⟩ argsL.toArray v B ∧
      ∀ target, Steps p.tables e below (B.U.setTop { g with pc := g.pc + 3, stack := v.toList ++ rest }) target → Steps p.tables e below (T.setTop g) target) ∨
    (∃ (q : Addr) (vm₁ : Vm) (B : Pt), s.WarmedH vm₁ ∧ Stand p l e R s m args below meth c B.U B.locs B.cells B.slots ∧ PostX ⟨T.setVm vm₁, locs, cells, slots⟩ argsL.toArray q B ∧
      Steps p.tables e below (T.setTop g) ((B.U.setTop { g with stack := rest }).pushFrame (.throwing q))) := by
  obtain ⟨mk, hnamed⟩ := Cond.code_named hcode
  obtain ⟨methM, cM, hmethM, -, -, -, -, -, -, hsigM⟩ := Cond.code_spec hnamed hcode
  have hstatic : methM.isStatic = true := Cond.static_spec hnamed hmethM hstat
  obtain ⟨kP, hkP, -⟩ := className_of_methodNamed hnamed
  have hinitP : kP.init = .initialized := Cond.initialized_spec (findClass_of_methodNamed hnamed) hkP hinit
  obtain ⟨vm₁, X₁, hstep₁⟩ := X.invokestatic hexec hown hlink hnamed hmethM hstatic hkP hinitP hy (g := g) hg (argsL := argsL) (rest := rest) (hlen _ hsigM) hstack hdg
  rcases hK m meth c ⟨T.setVm vm₁, locs, cells, slots⟩ { g with stack := rest } (.invokestatic index) mk argsL.toArray X₁ hg hsize hdg hW (X₁.named hnamed) (hpre vm₁ X₁.warmed) with ⟨v, B, X', hpost, hsteps⟩ | ⟨q, B, X', hpost, hsteps⟩
  · exact Or.inl ⟨v, vm₁, B, X₁.warmed, X', hpost, fun target h => hstep₁ _ fun acts => by rw [doInvoke_state]; exact hsteps.trans h⟩
  · exact Or.inr ⟨q, vm₁, B, X₁.warmed, X', hpost, hstep₁ _ fun acts => by rw [doInvoke_state]; exact hsteps⟩
end Calls
theorem vx_cls {s : State} {T : State} {vm₁ : Vm} {E : String} {k : ClassId} (hW : s.WarmedH vm₁) (h : (T.setVm vm₁).vm.findClass E = some k) : s.vm.findClass E = some k := by
  have h1 : vm₁.findClass E = some k := h
  rw [hW.alike.findClass] at h1
  exact h1
/-- the method's frame g, with q thrown over it -/
def vx_W (p : Program) (l : Launch) (e : Env) (R : Room) (s : State) (m : MethodId) (args : Array Value) (below : List Frame) (meth : Method) (c : Code) (H : Heap) (locs : List Loc) (cells slots : Nat) (Q : State → Prop) (g : JFrame) (q : Addr) : Prop :=
  ∀ T : State, T.heap = H → Stand p l e R s m args below meth c T locs cells slots → ∃ t, Steps p.tables e below ((T.setTop g).pushFrame (.throwing q)) t ∧ Q t
def vx_Run (p : Program) (l : Launch) (e : Env) (R : Room) (s : State) (m : MethodId) (args : Array Value) (below : List Frame) (meth : Method) (c : Code) (H : Heap) (locs : List Loc) (cells slots mc ms : Nat) (g : JFrame) (rest : List Value) (Qa : State → Outcome → State → Prop) (XC : String → State → State → Prop) (free : Addr → Prop) : Prop :=
  ∀ T : State, T.heap = H → Stand p l e R s m args below meth c T locs cells slots →
    (∃ (v : Option Value) (st₀ t T' : State) (L : List Loc), st₀.heap = H ∧ Stand p l e R s m args below meth c T' (locs ++ L) (cells + mc) (slots + ms) ∧ (∀ q ∈ L, free q.base) ∧ T'.heap = t.heap ∧ T'.vm = t.vm ∧ Qa st₀ (.returned v) t ∧
      Goes p e below T g T' { g with pc := g.pc + 3, stack := v.toList ++ rest }) ∨
    (∃ (q : Addr) (st₀ t T' : State) (L : List Loc) (E : String) (ce : Cell), st₀.heap = H ∧ Stand p l e R s m args below meth c T' (locs ++ L) (cells + mc) (slots + ms) ∧ (∀ z ∈ L, free z.base) ∧ T'.heap = t.heap ∧ T'.vm = t.vm ∧ XC E st₀ t ∧ t.heap[q]? = some ce ∧ ce.vm = .none ∧ s.vm.findClass E = some ce.cls ∧
      Steps p.tables e below (T.setTop g) ((T'.setTop { g with stack := rest }).pushFrame (.throwing q)))
def vx_X {S : Type} (px : S → Prop) (B : String → S → State → Prop) (A : Nat → Prop) : String → State → State → Prop := fun E st t => ∃ u : S, px u ∧ B E u t ∧ va_F A st t
section Runs
variable {p : Program} {l : Launch} {e : Env} {R : Room} {s : State} {m : MethodId} {args : Array Value} {below : List Frame} {meth : Method} {c : Code} {H : Heap} {locs : List Loc} {cells slots : Nat}
variable {y : MethodName} {bytes cc : ByteArray} {maxL nL mc ms n index : Nat} {ret : Option FieldType} {ws : List Cond} {rm : Room} {Pc : Array Value → State → Prop} {Qc : Array Value → State → Outcome → State → Prop} {XC : String → State → State → Prop} {free : Addr → Prop} {Ts : List Cond} {own C : String} {b : Addr} {As rest : List Value} {g : JFrame}
theorem vx_callBack (cb : CallB R s args own index y bytes maxL ret ws rm mc ms n) (hM : vx_Met l y ws rm Pc Qc XC mc ms free) (hbl : FrameBlind Pc) : vx_Back l R p e below s args y 3 8 (PreOf R mc ms Pc) (PostOf Qc mc ms free) (vx_Post XC mc ms free) := by
  obtain ⟨hrc, hrs, hfr, hlo, hws, hcw, -, hini, -⟩ := cb
  exact vx_back (bytes := bytes) (maxL := maxL) (ret := ret) hM hbl hrc hrs hfr hlo hws hcw (fun a' U hW => word_at hW (Or.inl (by first | rfl | simp [Cond.onTables, Cond.keeps, Cond.steady])) hini)
theorem vx_runV (S : CallFix p m c cc nL s args Ts own) (hM : vx_Met l y ws rm Pc Qc XC mc ms free) (cw : CallW R s args own C index y bytes maxL ret ws rm mc ms n) (hp : PreV s H C b Pc As)
    (hg : g.method = m) (hn : As.length = n) (hsize : g.locals.size = nL) (hstack : g.stack = As.reverse ++ .ref b :: rest) (hW : 2 * g.monitorRoom + (rest.map fun v => v.category).sum ≤ 8) (hdg : decode cc g.pc = .ok (.invokevirtual index, 3)) (hf : cells + mc ≤ R.cells ∧ slots + ms ≤ R.slots) :
    vx_Run p l e R s m args below meth c H locs cells slots mc ms g rest (Qc (Value.ref b :: As).toArray) XC free := by
  have hK : vx_Back l R p e below s args y 3 8 (PreOf R mc ms Pc) (PostOf Qc mc ms free) (vx_Post XC mc ms free) := vx_callBack cw.1 hM hp.1
  obtain ⟨⟨-, -, -, -, -, -, hcode, -, hy, hlen, hl⟩, hin, hse⟩ := cw
  obtain ⟨hx, hb, hml, ho, -⟩ := S
  obtain ⟨-, ⟨cellB, hcB, hoB, hclB⟩, hPc⟩ := hp
  intro T hT X
  rcases vx_callV X hx (C := C) (bytes := bytes) (maxL := maxL) (ret := ret) ho hl hin hse hcode hy hK (by rw [hT]; exact hcB) hoB hclB hg (hsize.trans hml.symm) (argsL := As) (rest := rest) (fun sig h => hn.trans (hlen sig h)) hstack hW (by rw [hb]; exact hdg)
    (fun vm₁ hW₁ => ⟨hf.1, hf.2, hPc (T.setVm vm₁) hT hW₁⟩) with ⟨v, vm₁, ⟨U', l2, c2, s2⟩, hW₁, X', ⟨g', mk, t, L, e1, e2, hq, h1, hL, h2, h3⟩, st⟩ | ⟨q, vm₁, ⟨U', l2, c2, s2⟩, hW₁, X', ⟨g', mk, t, L, E, ce, e1, e2, hq, hce, hcv, hcl, h1, hL, h2, h3⟩, st⟩
  · dsimp only [Pt.U, Pt.locs, Pt.cells, Pt.slots] at X' e1 e2 h1 h2 h3 st
    subst h1; subst h2; subst h3
    exact Or.inl ⟨v, (T.setVm vm₁).calling g' mk (Value.ref b :: As).toArray, t, U', L, hT, X', hL, e1, e2, hq, st⟩
  · dsimp only [Pt.U, Pt.locs, Pt.cells, Pt.slots] at X' e1 e2 h1 h2 h3 st hcl
    subst h1; subst h2; subst h3
    exact Or.inr ⟨q, (T.setVm vm₁).calling g' mk (Value.ref b :: As).toArray, t, U', L, E, ce, hT, X', hL, e1, e2, hq, hce, hcv, vx_cls hW₁ hcl, st⟩
theorem vx_runS (S : CallFix p m c cc nL s args Ts own) (hM : vx_Met l y ws rm Pc Qc XC mc ms free) (cw : CallB R s args own index y bytes maxL ret ws rm mc ms n ∧ (Cond.static y).before args s = true) (hp : PreS s H Pc As)
    (hg : g.method = m) (hn : As.length = n) (hsize : g.locals.size = nL) (hstack : g.stack = As.reverse ++ rest) (hW : 2 * g.monitorRoom + (rest.map fun v => v.category).sum ≤ 8) (hdg : decode cc g.pc = .ok (.invokestatic index, 3)) (hf : cells + mc ≤ R.cells ∧ slots + ms ≤ R.slots) :
    vx_Run p l e R s m args below meth c H locs cells slots mc ms g rest (Qc As.toArray) XC free := by
  have hK : vx_Back l R p e below s args y 3 8 (PreOf R mc ms Pc) (PostOf Qc mc ms free) (vx_Post XC mc ms free) := vx_callBack cw.1 hM hp.1
  obtain ⟨⟨-, -, -, -, -, -, hcode, hini, hy, hlen, hl⟩, hstt⟩ := cw
  obtain ⟨hx, hb, hml, ho, -⟩ := S
  intro T hT X
  rcases vx_callS X hx (bytes := bytes) (maxL := maxL) (ret := ret) ho hl hstt hini hcode hy hK hg (hsize.trans hml.symm) (argsL := As) (rest := rest) (fun sig h => hn.trans (hlen sig h)) hstack hW (by rw [hb]; exact hdg)
    (fun vm₁ hW₁ => ⟨hf.1, hf.2, hp.2 (T.setVm vm₁) hT hW₁⟩) with ⟨v, vm₁, ⟨U', l2, c2, s2⟩, hW₁, X', ⟨g', mk, t, L, e1, e2, hq, h1, hL, h2, h3⟩, st⟩ | ⟨q, vm₁, ⟨U', l2, c2, s2⟩, hW₁, X', ⟨g', mk, t, L, E, ce, e1, e2, hq, hce, hcv, hcl, h1, hL, h2, h3⟩, st⟩
  · dsimp only [Pt.U, Pt.locs, Pt.cells, Pt.slots] at X' e1 e2 h1 h2 h3 st
    subst h1; subst h2; subst h3
    exact Or.inl ⟨v, (T.setVm vm₁).calling g' mk As.toArray, t, U', L, hT, X', hL, e1, e2, hq, st⟩
  · dsimp only [Pt.U, Pt.locs, Pt.cells, Pt.slots] at X' e1 e2 h1 h2 h3 st hcl
    subst h1; subst h2; subst h3
    exact Or.inr ⟨q, (T.setVm vm₁).calling g' mk As.toArray, t, U', L, E, ce, hT, X', hL, e1, e2, hq, hce, hcv, vx_cls hW₁ hcl, st⟩
end Runs
section Rows
variable {p : Program} {l : Launch} {e : Env} {R : Room} {s : State} {m : MethodId} {args : Array Value} {below : List Frame} {meth : Method} {c : Code} {H : Heap} {locs : List Loc} {cells slots : Nat} {Q : State → Prop}
variable {mc ms : Nat} {free : Addr → Prop} {A0 A1 : Nat → Prop} {H0 : Heap} {a : Array Value} {pc : Nat} {ls : Array Slot} {st0 rest : List Value}
theorem vx_keep {st₀ t T' : State} {L : List Loc} (h0 : st₀.heap = H) (e1 : T'.heap = t.heap) (hS : va_S A0 H0 H locs) (hA : ∀ q, q < H.size → A1 q → A0 q) (hf : ∀ q, free q → A0 q) (hL : ∀ q ∈ L, free q.base) (hF : va_F A1 st₀ t) :
    H.size ≤ T'.heap.size ∧ (∀ q : Nat, q < H.size → ¬ A1 q → T'.heap[q]? = H[q]?) ∧ va_S A0 H0 T'.heap (locs ++ L) := by
  obtain ⟨hz, hk⟩ := hF
  rw [h0] at hz hk
  exact ⟨by rw [e1]; exact hz, fun q h1 h2 => by rw [e1]; exact hk q h1 h2,
    ⟨Nat.le_trans hS.1 (by rw [e1]; exact hz), fun q h1 h2 => by rw [e1, hk q (Nat.lt_of_lt_of_le h1 hS.1) (fun z => h2 (hA q (Nat.lt_of_lt_of_le h1 hS.1) z))]; exact hS.2.1 q h1 h2, fun q hq => by
      rcases List.mem_append.mp hq with h | h
      · exact hS.2.2 q h
      · exact hf _ (hL q h)⟩⟩
theorem vx_calli {S SX : Type} {post : Int32 → S → Prop} {px : SX → Prop} {B : S → State → Prop} {BX : String → SX → State → Prop} {AX : Nat → Prop} (hr : vx_Run p l e R s m args below meth c H locs cells slots mc ms (F0 m pc ls st0) rest (va_Qi post B A1 a) (vx_X px BX AX) free) (hS : va_S A0 H0 H locs) (hA : ∀ q, q < H.size → A1 q → A0 q) (hf : ∀ q, free q → A0 q) (hAX : ∀ q, q < H.size → AX q → A0 q)
    (kx : ∀ (E : String) (ce : Cell) (q9 : Addr) (u : SX) (t : State) (H1 : Heap) (locs1 : List Loc), t.heap = H1 → s.vm.Alike t.vm → px u → BX E u t → H.size ≤ H1.size → (∀ q : Nat, q < H.size → ¬ AX q → H1[q]? = H[q]?) → va_S A0 H0 H1 locs1 → H1[q9]? = some ce → ce.vm = .none → s.vm.findClass E = some ce.cls → vx_W p l e R s m args below meth c H1 locs1 (cells + mc) (slots + ms) Q (F0 m pc ls rest) q9)
    (kk : ∀ (r : Int32) (u : S) (t : State) (H1 : Heap) (locs1 : List Loc), t.heap = H1 → s.vm.Alike t.vm → post r u → B u t → H.size ≤ H1.size → (∀ q : Nat, q < H.size → ¬ A1 q → H1[q]? = H[q]?) → va_S A0 H0 H1 locs1 → W p l e R s m args below meth c H1 locs1 (cells + mc) (slots + ms) Q (F0 m (pc + 3) ls (.int r :: rest))) : W p l e R s m args below meth c H locs cells slots Q (F0 m pc ls st0) := by
  intro T hT X
  rcases hr T hT X with ⟨v, st₀, t, T', L, h0, X', hL, e1, e2, ⟨⟨r, u, hv, hp, hb⟩, hF⟩, st⟩ | ⟨q, st₀, t, T', L, E, ce, h0, X', hL, e1, e2, ⟨u, hp, hb, hF⟩, hce, hcv, hcl, st⟩
  · cases hv
    obtain ⟨k1, k2, k3⟩ := vx_keep h0 e1 hS hA hf hL hF
    obtain ⟨t2, a1, b1⟩ := kk r u t T'.heap (locs ++ L) e1.symm (by rw [← e2]; exact X'.warmed.alike) hp hb k1 k2 k3 T' rfl X'
    exact ⟨t2, st t2 a1, b1⟩
  · obtain ⟨k1, k2, k3⟩ := vx_keep h0 e1 hS hAX hf hL hF
    obtain ⟨t2, a1, b1⟩ := kx E ce q u t T'.heap (locs ++ L) e1.symm (by rw [← e2]; exact X'.warmed.alike) hp hb k1 k2 k3 (by rw [e1]; exact hce) hcv hcl T' rfl X'
    exact ⟨t2, st.trans a1, b1⟩
theorem vx_calll {S SX : Type} {post : Int64 → S → Prop} {px : SX → Prop} {B : S → State → Prop} {BX : String → SX → State → Prop} {AX : Nat → Prop} (hr : vx_Run p l e R s m args below meth c H locs cells slots mc ms (F0 m pc ls st0) rest (va_Ql post B A1 a) (vx_X px BX AX) free) (hS : va_S A0 H0 H locs) (hA : ∀ q, q < H.size → A1 q → A0 q) (hf : ∀ q, free q → A0 q) (hAX : ∀ q, q < H.size → AX q → A0 q)
    (kx : ∀ (E : String) (ce : Cell) (q9 : Addr) (u : SX) (t : State) (H1 : Heap) (locs1 : List Loc), t.heap = H1 → s.vm.Alike t.vm → px u → BX E u t → H.size ≤ H1.size → (∀ q : Nat, q < H.size → ¬ AX q → H1[q]? = H[q]?) → va_S A0 H0 H1 locs1 → H1[q9]? = some ce → ce.vm = .none → s.vm.findClass E = some ce.cls → vx_W p l e R s m args below meth c H1 locs1 (cells + mc) (slots + ms) Q (F0 m pc ls rest) q9)
    (kk : ∀ (r : Int64) (u : S) (t : State) (H1 : Heap) (locs1 : List Loc), t.heap = H1 → s.vm.Alike t.vm → post r u → B u t → H.size ≤ H1.size → (∀ q : Nat, q < H.size → ¬ A1 q → H1[q]? = H[q]?) → va_S A0 H0 H1 locs1 → W p l e R s m args below meth c H1 locs1 (cells + mc) (slots + ms) Q (F0 m (pc + 3) ls (.long r :: rest))) : W p l e R s m args below meth c H locs cells slots Q (F0 m pc ls st0) := by
  intro T hT X
  rcases hr T hT X with ⟨v, st₀, t, T', L, h0, X', hL, e1, e2, ⟨⟨r, u, hv, hp, hb⟩, hF⟩, st⟩ | ⟨q, st₀, t, T', L, E, ce, h0, X', hL, e1, e2, ⟨u, hp, hb, hF⟩, hce, hcv, hcl, st⟩
  · cases hv
    obtain ⟨k1, k2, k3⟩ := vx_keep h0 e1 hS hA hf hL hF
    obtain ⟨t2, a1, b1⟩ := kk r u t T'.heap (locs ++ L) e1.symm (by rw [← e2]; exact X'.warmed.alike) hp hb k1 k2 k3 T' rfl X'
    exact ⟨t2, st t2 a1, b1⟩
  · obtain ⟨k1, k2, k3⟩ := vx_keep h0 e1 hS hAX hf hL hF
    obtain ⟨t2, a1, b1⟩ := kx E ce q u t T'.heap (locs ++ L) e1.symm (by rw [← e2]; exact X'.warmed.alike) hp hb k1 k2 k3 (by rw [e1]; exact hce) hcv hcl T' rfl X'
    exact ⟨t2, st.trans a1, b1⟩
theorem vx_callf {S SX : Type} {post : UInt32 → S → Prop} {px : SX → Prop} {B : S → State → Prop} {BX : String → SX → State → Prop} {AX : Nat → Prop} (hr : vx_Run p l e R s m args below meth c H locs cells slots mc ms (F0 m pc ls st0) rest (va_Qf post B A1 a) (vx_X px BX AX) free) (hS : va_S A0 H0 H locs) (hA : ∀ q, q < H.size → A1 q → A0 q) (hf : ∀ q, free q → A0 q) (hAX : ∀ q, q < H.size → AX q → A0 q)
    (kx : ∀ (E : String) (ce : Cell) (q9 : Addr) (u : SX) (t : State) (H1 : Heap) (locs1 : List Loc), t.heap = H1 → s.vm.Alike t.vm → px u → BX E u t → H.size ≤ H1.size → (∀ q : Nat, q < H.size → ¬ AX q → H1[q]? = H[q]?) → va_S A0 H0 H1 locs1 → H1[q9]? = some ce → ce.vm = .none → s.vm.findClass E = some ce.cls → vx_W p l e R s m args below meth c H1 locs1 (cells + mc) (slots + ms) Q (F0 m pc ls rest) q9)
    (kk : ∀ (r : UInt32) (u : S) (t : State) (H1 : Heap) (locs1 : List Loc), t.heap = H1 → s.vm.Alike t.vm → post r u → B u t → H.size ≤ H1.size → (∀ q : Nat, q < H.size → ¬ A1 q → H1[q]? = H[q]?) → va_S A0 H0 H1 locs1 → W p l e R s m args below meth c H1 locs1 (cells + mc) (slots + ms) Q (F0 m (pc + 3) ls (.float r :: rest))) : W p l e R s m args below meth c H locs cells slots Q (F0 m pc ls st0) := by
  intro T hT X
  rcases hr T hT X with ⟨v, st₀, t, T', L, h0, X', hL, e1, e2, ⟨⟨r, u, hv, hp, hb⟩, hF⟩, st⟩ | ⟨q, st₀, t, T', L, E, ce, h0, X', hL, e1, e2, ⟨u, hp, hb, hF⟩, hce, hcv, hcl, st⟩
  · cases hv
    obtain ⟨k1, k2, k3⟩ := vx_keep h0 e1 hS hA hf hL hF
    obtain ⟨t2, a1, b1⟩ := kk r u t T'.heap (locs ++ L) e1.symm (by rw [← e2]; exact X'.warmed.alike) hp hb k1 k2 k3 T' rfl X'
    exact ⟨t2, st t2 a1, b1⟩
  · obtain ⟨k1, k2, k3⟩ := vx_keep h0 e1 hS hAX hf hL hF
    obtain ⟨t2, a1, b1⟩ := kx E ce q u t T'.heap (locs ++ L) e1.symm (by rw [← e2]; exact X'.warmed.alike) hp hb k1 k2 k3 (by rw [e1]; exact hce) hcv hcl T' rfl X'
    exact ⟨t2, st.trans a1, b1⟩
theorem vx_calld {S SX : Type} {post : UInt64 → S → Prop} {px : SX → Prop} {B : S → State → Prop} {BX : String → SX → State → Prop} {AX : Nat → Prop} (hr : vx_Run p l e R s m args below meth c H locs cells slots mc ms (F0 m pc ls st0) rest (va_Qd post B A1 a) (vx_X px BX AX) free) (hS : va_S A0 H0 H locs) (hA : ∀ q, q < H.size → A1 q → A0 q) (hf : ∀ q, free q → A0 q) (hAX : ∀ q, q < H.size → AX q → A0 q)
    (kx : ∀ (E : String) (ce : Cell) (q9 : Addr) (u : SX) (t : State) (H1 : Heap) (locs1 : List Loc), t.heap = H1 → s.vm.Alike t.vm → px u → BX E u t → H.size ≤ H1.size → (∀ q : Nat, q < H.size → ¬ AX q → H1[q]? = H[q]?) → va_S A0 H0 H1 locs1 → H1[q9]? = some ce → ce.vm = .none → s.vm.findClass E = some ce.cls → vx_W p l e R s m args below meth c H1 locs1 (cells + mc) (slots + ms) Q (F0 m pc ls rest) q9)
    (kk : ∀ (r : UInt64) (u : S) (t : State) (H1 : Heap) (locs1 : List Loc), t.heap = H1 → s.vm.Alike t.vm → post r u → B u t → H.size ≤ H1.size → (∀ q : Nat, q < H.size → ¬ A1 q → H1[q]? = H[q]?) → va_S A0 H0 H1 locs1 → W p l e R s m args below meth c H1 locs1 (cells + mc) (slots + ms) Q (F0 m (pc + 3) ls (.double r :: rest))) : W p l e R s m args below meth c H locs cells slots Q (F0 m pc ls st0) := by
  intro T hT X
  rcases hr T hT X with ⟨v, st₀, t, T', L, h0, X', hL, e1, e2, ⟨⟨r, u, hv, hp, hb⟩, hF⟩, st⟩ | ⟨q, st₀, t, T', L, E, ce, h0, X', hL, e1, e2, ⟨u, hp, hb, hF⟩, hce, hcv, hcl, st⟩
  · cases hv
    obtain ⟨k1, k2, k3⟩ := vx_keep h0 e1 hS hA hf hL hF
    obtain ⟨t2, a1, b1⟩ := kk r u t T'.heap (locs ++ L) e1.symm (by rw [← e2]; exact X'.warmed.alike) hp hb k1 k2 k3 T' rfl X'
    exact ⟨t2, st t2 a1, b1⟩
  · obtain ⟨k1, k2, k3⟩ := vx_keep h0 e1 hS hAX hf hL hF
    obtain ⟨t2, a1, b1⟩ := kx E ce q u t T'.heap (locs ++ L) e1.symm (by rw [← e2]; exact X'.warmed.alike) hp hb k1 k2 k3 (by rw [e1]; exact hce) hcv hcl T' rfl X'
    exact ⟨t2, st.trans a1, b1⟩
theorem vx_callv {S SX : Type} {post : S → Prop} {px : SX → Prop} {B : S → State → Prop} {BX : String → SX → State → Prop} {AX : Nat → Prop} (hr : vx_Run p l e R s m args below meth c H locs cells slots mc ms (F0 m pc ls st0) rest (va_Qv post B A1 a) (vx_X px BX AX) free) (hS : va_S A0 H0 H locs) (hA : ∀ q, q < H.size → A1 q → A0 q) (hf : ∀ q, free q → A0 q) (hAX : ∀ q, q < H.size → AX q → A0 q)
    (kx : ∀ (E : String) (ce : Cell) (q9 : Addr) (u : SX) (t : State) (H1 : Heap) (locs1 : List Loc), t.heap = H1 → s.vm.Alike t.vm → px u → BX E u t → H.size ≤ H1.size → (∀ q : Nat, q < H.size → ¬ AX q → H1[q]? = H[q]?) → va_S A0 H0 H1 locs1 → H1[q9]? = some ce → ce.vm = .none → s.vm.findClass E = some ce.cls → vx_W p l e R s m args below meth c H1 locs1 (cells + mc) (slots + ms) Q (F0 m pc ls rest) q9)
    (kk : ∀ (u : S) (t : State) (H1 : Heap) (locs1 : List Loc), t.heap = H1 → s.vm.Alike t.vm → post u → B u t → H.size ≤ H1.size → (∀ q : Nat, q < H.size → ¬ A1 q → H1[q]? = H[q]?) → va_S A0 H0 H1 locs1 → W p l e R s m args below meth c H1 locs1 (cells + mc) (slots + ms) Q (F0 m (pc + 3) ls (rest))) : W p l e R s m args below meth c H locs cells slots Q (F0 m pc ls st0) := by
  intro T hT X
  rcases hr T hT X with ⟨v, st₀, t, T', L, h0, X', hL, e1, e2, ⟨⟨u, hv, hp, hb⟩, hF⟩, st⟩ | ⟨q, st₀, t, T', L, E, ce, h0, X', hL, e1, e2, ⟨u, hp, hb, hF⟩, hce, hcv, hcl, st⟩
  · cases hv
    obtain ⟨k1, k2, k3⟩ := vx_keep h0 e1 hS hA hf hL hF
    obtain ⟨t2, a1, b1⟩ := kk u t T'.heap (locs ++ L) e1.symm (by rw [← e2]; exact X'.warmed.alike) hp hb k1 k2 k3 T' rfl X'
    exact ⟨t2, st t2 a1, b1⟩
  · obtain ⟨k1, k2, k3⟩ := vx_keep h0 e1 hS hAX hf hL hF
    obtain ⟨t2, a1, b1⟩ := kx E ce q u t T'.heap (locs ++ L) e1.symm (by rw [← e2]; exact X'.warmed.alike) hp hb k1 k2 k3 (by rw [e1]; exact hce) hcv hcl T' rfl X'
    exact ⟨t2, st.trans a1, b1⟩
/-- caught by the row x of this method's table; the rows ahead don't take it -/
theorem vx_catch {own name : String} {E : String} {ce : Cell} {q : Addr} (hown : s.vm.findClass own = some m.cls) (pre : List ExceptionTableEntry) (x : ExceptionTableEntry) (suf : List ExceptionTableEntry) (hsplit : c.exceptionTable.toList = pre ++ x :: suf)
    (hpass : ∀ z ∈ pre, covers z pc = false ∨ (z.catchType ≠ 0 ∧ ∃ nm : String, (Cond.classLink own z.catchType nm).before args s = true ∧ va_Nc E nm s)) (hx : covers x pc = true) (h0 : x.catchType ≠ 0)
    (hlink : (Cond.classLink own x.catchType name).before args s = true) (hcast : (Cond.castable E name).before args s = true) (hcell : H[q]? = some ce) (hv : ce.vm = .none) (hcl : s.vm.findClass E = some ce.cls)
    (kk : W p l e R s m args below meth c H locs cells slots Q (F0 m x.handlerPc ls [.ref q])) : vx_W p l e R s m args below meth c H locs cells slots Q (F0 m pc ls rest) q := by
  intro T hT X
  have hpl : e.platform.magicAccessors = ({} : Platform).magicAccessors := by rw [X.admits.platform]
  obtain ⟨c3, c4, hc3, hc4, hasg⟩ := Cond.castable_spec hcast
  cases Option.some.inj (hc3.symm.trans hcl)
  obtain ⟨c5, hc5, hcl5⟩ := Cond.classLink_spec hown hlink e.platform hpl
  cases Option.some.inj (hc4.symm.trans hc5)
  obtain ⟨vm', X', st⟩ := X.thenCaughtThrough q (g := F0 m pc ls rest) rfl (Steps.refl _) (by rw [hT]; exact hcell) (by rw [hv]; rfl) (by obtain ⟨k9, h9, -⟩ := Vm.findClass_spec hcl; exact ⟨k9, h9⟩) pre x suf hsplit
    (fun z hz => by
      rcases hpass z hz with h | ⟨hz0, nm, hl1, hn1⟩
      · exact Or.inl h
      · obtain ⟨c6, hc6, hcl6⟩ := Cond.classLink_spec hown hl1 e.platform hpl
        obtain ⟨a8, b8, h1, h2, h3⟩ := hn1
        cases Option.some.inj (h1.symm.trans hcl)
        cases Option.some.inj (h2.symm.trans hc6)
        exact Or.inr ⟨hz0, _, hcl6, h3⟩) hx (Or.inr ⟨h0, c4, hcl5, hasg⟩)
  obtain ⟨t, a1, b1⟩ := kk (T.setVm vm') hT X'
  exact ⟨t, st.trans a1, b1⟩
end Rows
section Ends
variable {p : Program} {l : Launch} {e : Env} {R : Room} {s : State} {m : MethodId} {args : Array Value} {below : List Frame} {meth : Method} {c : Code} {H : Heap} {locs : List Loc} {cells slots : Nat} {Q : State → Prop}
variable {mc ms : Nat} {free : Addr → Prop} {A0 A1 : Nat → Prop} {H0 : Heap} {a : Array Value} {ls : Array Slot} {st0 rest : List Value}
variable {Qc : Array Value → State → Outcome → State → Prop} {XC : String → State → State → Prop}
/-- what a body that may throw owes at its end -/
def vx_MQ (below : List Frame) (Qc : Array Value → State → Outcome → State → Prop) (XC : String → State → State → Prop) (a : Array Value) (s : State) (mc ms : Nat) (free : Addr → Prop) : State → Prop := fun t =>
  ∃ o, t.status = .running ∧ Ended t below o ∧ vx_Q Qc XC mc ms free a s o t
theorem vx_ret {g : JFrame} {mc ms : Nat} (k : W p l e R s m args below meth c H locs cells slots (MQ below Qc args s mc ms free) g) : W p l e R s m args below meth c H locs cells slots (vx_MQ below Qc XC args s mc ms free) g := by
  intro T hT X
  obtain ⟨t, a1, o, b1, b2, b3, b4⟩ := k T hT X
  exact ⟨t, a1, o, b1, b2, Or.inl ⟨b3, b4⟩⟩
/-- not caught here: it goes on to the caller -/
theorem vx_widen {g : JFrame} {q : Addr} {k n : Nat} (h1 : cells ≤ k) (h2 : slots ≤ n) (kk : vx_W p l e R s m args below meth c H locs k n Q g q) : vx_W p l e R s m args below meth c H locs cells slots Q g q := fun T hT X => kk T hT (stand_widen X h1 h2)
theorem vx_out {pc : Nat} {E : String} {ce : Cell} {q : Addr} {mc ms : Nat} (hout : ∀ x ∈ c.exceptionTable.toList, covers x pc = false) (hlocks : meth.locks = false) (hcell : H[q]? = some ce) (hv : ce.vm = .none) (hcl : s.vm.findClass E = some ce.cls)
    (hx : ∀ t : State, t.heap = H → s.vm.Alike t.vm → XC E s t) (hf : ∀ z ∈ locs, free z.base) (hc : cells ≤ mc) (hs : slots ≤ ms) :
    vx_W p l e R s m args below meth c H locs cells slots (vx_MQ below Qc XC args s mc ms free) (F0 m pc ls rest) q := by
  intro T hT X
  obtain ⟨st1, hrun, hend, hW, hsm⟩ := X.leaveThrown q (g := F0 m pc ls rest) rfl rfl rfl hout hlocks
  have hcell9 : (T.setFrames (.throwing q :: below)).heap[q]? = some ce := by
    show T.heap[q]? = some ce
    rw [hT]; exact hcell
  exact ⟨_, st1, .threw q, hrun, hend, Or.inr ⟨q, rfl, E, ce, locs, hx _ hT hW.alike, hcell9, hv, hcl, hW, hsm.mono hc hs, hf⟩⟩
theorem vx_frame {U : State} {k n : Nat} (h : s.sameButNew ({ U with vm := s.vm } : State) locs k n) : s.heap.size ≤ U.heap.size ∧ ∀ q : Nat, q < s.heap.size → (∀ z ∈ locs, z.base ≠ q) → U.heap[q]? = s.heap[q]? := by
  obtain ⟨-, h2, -, -, -, h6⟩ := h
  refine ⟨h2, fun q hq hz => ?_⟩
  obtain ⟨c9, e1, e2, e3, e4⟩ := h6 q _ (Array.getElem?_eq_getElem hq)
  have hs : c9.slots = (s.heap[q]).slots := Array.ext_getElem? fun i => e4 i fun hm => hz _ hm rfl
  have h9 : c9 = s.heap[q] := by
    rw [hs] at e2
    exact e2
  have e5 : U.heap[q]? = some c9 := e1
  rw [e5, h9, Array.getElem?_eq_getElem hq]
/-- the words of a throw but the four that speak of the heap -/
def vx_no (w : Cond) : Bool := decide (w ≠ .isRef (.static Bundle.tN "UNASSIGNED_STACK" Bundle.steD)) && decide (w ≠ .isRef (.static Bundle.tN "SUPPRESSED_SENTINEL" Bundle.listD)) && decide (w ≠ .laysStatic Bundle.tN "UNASSIGNED_STACK" Bundle.steD) && decide (w ≠ .laysStatic Bundle.tN "SUPPRESSED_SENTINEL" Bundle.listD)
def vx_at0 (own : String) (ic : Nat) (X : String) (names : List String) : List Cond := (Bundle.ownAtoms0 own ic X names).filter vx_no
def vx_atS (own : String) (ic : Nat) (X : String) (names : List String) : List Cond := (Bundle.ownAtoms own ic X names).filter vx_no
/-- a word that the tables alone decide, or a good one -/
def vx_ot (w : Cond) : Bool := w.onTables || goodWord w
theorem vx_ot_at {args a' : Array Value} {s U : State} {w : Cond} (hW : s.WarmedH U.vm) (hvm : s.vm = U.vm) (hg : vx_ot w = true) (h : w.before args s = true) : w.before a' U = true := by
  simp only [vx_ot, Bool.or_eq_true] at hg
  rcases hg with hg | hg
  · exact va_tabs hg hvm h
  · exact word_at hW (good_of_word hg) h
/-- a list's words: the good ones out of the method's own list, the others by premises of their own -/
theorem vx_hat {args : Array Value} {s : State} {L B : List Cond} (h1 : ∀ w ∈ L.filter goodWord, w.before args s = true) (h2 : ∀ w ∈ L.filter (fun w => !goodWord w), w ∈ B) (h3 : ∀ w ∈ B, w.before args s = true) : ∀ w ∈ L, w.before args s = true := by
  intro w hw
  by_cases g : goodWord w = true
  · exact h1 w (List.mem_filter.mpr ⟨hw, g⟩)
  · refine h3 w (h2 w (List.mem_filter.mpr ⟨hw, ?_⟩))
    show (!goodWord w) = true
    cases hgw : goodWord w
    · rfl
    · exact absurd hgw g
theorem vx_c {args : Array Value} {s : State} {w : Cond} {B : List Cond} (h : w.before args s = true) (t : ∀ w ∈ B, w.before args s = true) : ∀ w' ∈ w :: B, w'.before args s = true := fun w' h' => (List.mem_cons.mp h').elim (fun e => by rw [e]; exact h) (t w')
theorem vx_n {args : Array Value} {s : State} : ∀ w ∈ ([] : List Cond), w.before args s = true := fun _ h => nomatch h
theorem vx_own {args : Array Value} {s : State} {L : List Cond} (h1 : ∀ w ∈ L.filter vx_no, w.before args s = true)
    (hU : (Cond.isRef (.static Bundle.tN "UNASSIGNED_STACK" Bundle.steD)).before args s = true) (hN : (Cond.isRef (.static Bundle.tN "SUPPRESSED_SENTINEL" Bundle.listD)).before args s = true)
    (lU : (Cond.laysStatic Bundle.tN "UNASSIGNED_STACK" Bundle.steD).before args s = true) (lN : (Cond.laysStatic Bundle.tN "SUPPRESSED_SENTINEL" Bundle.listD).before args s = true) : ∀ w ∈ L, w.before args s = true := by
  intro w hw
  by_cases e1 : w = .isRef (.static Bundle.tN "UNASSIGNED_STACK" Bundle.steD)
  · rw [e1]; exact hU
  · by_cases e2 : w = .isRef (.static Bundle.tN "SUPPRESSED_SENTINEL" Bundle.listD)
    · rw [e2]; exact hN
    · by_cases e3 : w = .laysStatic Bundle.tN "UNASSIGNED_STACK" Bundle.steD
      · rw [e3]; exact lU
      · by_cases e4 : w = .laysStatic Bundle.tN "SUPPRESSED_SENTINEL" Bundle.listD
        · rw [e4]; exact lN
        · exact h1 w (List.mem_filter.mpr ⟨hw, by unfold vx_no; rw [decide_eq_true e1, decide_eq_true e2, decide_eq_true e3, decide_eq_true e4]; rfl⟩)
/-- where a static field lies, its class's statics cell in H -/
def vx_L (C n d : String) (A : Nat → Prop) (U : State) (H : Heap) : Prop := ∃ (c : ClassId) (k : Class) (i : Nat) (f : Field) (a : Nat) (cell : Cell), U.vm.findClass C = some c ∧ U.fieldFound? C n d = some (c, k, i, f) ∧ f.isStatic = true ∧ k.statics = some a ∧ H[a]? = some cell ∧ cell.vm.isStatics = true ∧ cell.cls = c ∧ f.slot < cell.slots.size ∧ k.staticTypes[f.slot]? = some f.type ∧ ¬ A a
theorem vx_L.moved {C n d : String} {A : Nat → Prop} {u U : State} {H : Heap} (hvm : u.vm.Alike U.vm) (h : vx_L C n d A u H) : vx_L C n d A U H := by
  obtain ⟨c, k, i, f, a, cell, h1, h2, h3, h4, h5, h6, h7, h8, h9, h10⟩ := h
  obtain ⟨k', hi', he⟩ := State.fieldFound?_setVm hvm h2
  exact ⟨c, k', i, f, a, cell, by rw [hvm.findClass]; exact h1, hi', h3, by rw [he]; exact h4, h5, h6, h7, h8, by rw [he]; exact h9, h10⟩
theorem vx_L.kept {C n d : String} {A : Nat → Prop} {U : State} {H H1 : Heap} (h : vx_L C n d A U H) (hq : ∀ a : Nat, a < H.size → ¬ A a → H1[a]? = H[a]?) : vx_L C n d A U H1 := by
  obtain ⟨c, k, i, f, a, cell, h1, h2, h3, h4, h5, h6, h7, h8, h9, h10⟩ := h
  exact ⟨c, k, i, f, a, cell, h1, h2, h3, h4, by rw [hq a (Array.getElem?_eq_some_iff.mp h5).1 h10]; exact h5, h6, h7, h8, h9, h10⟩
theorem vx_L.narrow {C n d : String} {A B : Nat → Prop} {U : State} {H : Heap} (h : vx_L C n d A U H) (hAB : ∀ q, B q → A q) : vx_L C n d B U H := by
  obtain ⟨c, k, i, f, a, cell, h1, h2, h3, h4, h5, h6, h7, h8, h9, h10⟩ := h
  exact ⟨c, k, i, f, a, cell, h1, h2, h3, h4, h5, h6, h7, h8, h9, fun z => h10 (hAB _ z)⟩
theorem vx_L.word {C n d : String} {A : Nat → Prop} {s : State} {args : Array Value} (h : vx_L C n d A s s.heap) : (Cond.laysStatic C n d).before args s = true := by
  obtain ⟨c, k, i, f, a, cell, h1, h2, h3, h4, h5, h6, h7, h8, h9, -⟩ := h
  show (Cond.laysStatic C n d).holds args s none s [] = true
  exact Cond.laysStatic_of h1 h2 h3 h4 h5 h6 h7 h8 h9
/-- .. and what it holds: null or some reference -/
def vx_Zq (C n d : String) (A : Nat → Prop) (U : State) (H : Heap) : Prop := va_Zq C n d A U H ∧ vx_L C n d A U H
theorem vx_Zq.moved {C n d : String} {A : Nat → Prop} {u U : State} {H : Heap} (hvm : u.vm.Alike U.vm) (h : vx_Zq C n d A u H) : vx_Zq C n d A U H := ⟨va_Zq.moved hvm h.1, vx_L.moved hvm h.2⟩
theorem vx_Zq.kept {C n d : String} {A : Nat → Prop} {U : State} {H H1 : Heap} (h : vx_Zq C n d A U H) (hq : ∀ a : Nat, a < H.size → ¬ A a → H1[a]? = H[a]?) : vx_Zq C n d A U H1 := ⟨va_Zq.kept h.1 hq, vx_L.kept h.2 hq⟩
theorem vx_Zq.narrow {C n d : String} {A B : Nat → Prop} {U : State} {H : Heap} (h : vx_Zq C n d A U H) (hAB : ∀ q, B q → A q) : vx_Zq C n d B U H := ⟨va_Zq.narrow h.1 hAB, vx_L.narrow h.2 hAB⟩
theorem vx_Zqof {args : Array Value} {s : State} {C n d : String} {A : Nat → Prop} (hl : (Cond.laysStatic C n d).before args s = true) (hini : (Cond.initialized C).before args s = true) (h : (Cond.isRef (.static C n d)).before args s = true) (hA : ∀ a : Nat, a < s.heap.size → ¬ A a) : vx_Zq C n d A s s.heap := by
  refine ⟨va_Zqof hl hini h hA, ?_⟩
  obtain ⟨c, k, i, f, a, cell, h1, h2, h3, h4, h5, h6, h7, h8, h9⟩ := Cond.laysStatic_spec hl
  exact ⟨c, k, i, f, a, cell, h1, h2, h3, h4, h5, h6, h7, h8, h9, hA a (Array.getElem?_eq_some_iff.mp h5).1⟩
theorem vx_isRef {C n d : String} {v : Value} {A : Nat → Prop} {s : State} {args : Array Value} (h : va_Z C n d v A s s.heap) (hv : v.isRef = true) : (Cond.isRef (.static C n d)).before args s = true := by
  obtain ⟨cf, kf, fi, f, a, cell, h1, h2, h3, h4, h5, h6, h7, -⟩ := h
  have he : (Term.static C n d).eval args s none [] s = some v := by
    simp [Term.eval, State.fieldNamed?, h1, h2, h4, h5, h6, h7]
  simp only [Cond.before, Cond.holds, Cond.value, he]
  cases v <;> simp_all [Value.isRef]
theorem vx_isRefq {C n d : String} {A : Nat → Prop} {s : State} {args : Array Value} (h : va_Zq C n d A s s.heap) : (Cond.isRef (.static C n d)).before args s = true := by
  rcases h with h | ⟨t, h⟩
  · exact vx_isRef h rfl
  · exact vx_isRef h rfl
/-- the same frame, seen from here: as if the method were called anew in this heap -/
theorem vx_rebase {T : State} (X : Stand p l e R s m args below meth c T locs cells slots) {R' : Room} (hf : R'.frames ≤ R.frames) (hl : R'.locals ≤ R.locals) (hc : cells + R'.cells ≤ R.cells) (hs : slots + R'.slots ≤ R.slots) :
    Stand p l e R' ((T.setVm s.vm).setFrames (.invoking m args :: below)) m args below meth c T [] 0 0 := by
  have htop : (T.setVm s.vm).topJava?.isSome := X.here.top
  have hF : ((T.setVm s.vm).setFrames (.invoking m args :: below)).frames = .invoking m args :: below := State.frames_setFrames _ (State.cur_lt_of_top htop)
  obtain ⟨g₀, hg0⟩ := Option.isSome_iff_exists.mp htop
  obtain ⟨r, hr⟩ := State.topJava?_eq_some.mp hg0
  have hl9 : e.platform.stackLimits (T.setVm s.vm).me = e.platform.stackLimits s.me := X.limits
  have hb9 : (T.setVm s.vm).me.stackBytes = s.me.stackBytes := X.bytes
  refine ⟨X.admits, X.cas, X.clock, hF, ?_, X.hears, X.method, X.code, X.here, X.tail, X.warmed, ?_, ?_, ?_⟩
  · have h := X.room
    have hU : ((T.setVm s.vm).setFrames (.invoking m args :: below)).localsInUse = s.localsInUse := by
      rw [State.localsInUse_invoking hF (meth := meth) (c := c) X.method X.code, State.localsInUse_invoking X.frames X.method X.code]
    simp only [State.hasRoom, Bool.and_eq_true, decide_eq_true_eq] at h ⊢
    obtain ⟨⟨⟨⟨h1, h2, h3, h4, h5, h6⟩, h7⟩, h8⟩, h9⟩ := h
    rw [X.frames, List.length_cons] at h2 h3
    have q1 := X.heapSize
    have q2 := X.used
    simp only [hF, hU, List.length_cons, State.stackLimits_setFrames, State.stackBytes_setFrames, hl9, hb9]
    refine ⟨⟨⟨⟨by omega, by omega, by omega, by omega, by omega, h6⟩, ?_⟩, ?_⟩, X.book⟩
    · show T.heap.size + R'.cells ≤ e.platform.maxCells
      omega
    · show T.slotsUsed + R'.slots ≤ e.platform.maxSlots
      omega
  · rw [State.stackLimits_setFrames]; rfl
  · rw [State.stackBytes_setFrames]; rfl
  · refine ⟨?_, Nat.le_refl _, Nat.le_refl _, ?_, ?_, fun a c9 h9 => ⟨c9, h9, rfl, rfl, fun _ _ => rfl⟩⟩
    · obtain ⟨t, ht, -⟩ := State.frames_cons hr
      show T.setVm s.vm = { ((T.setVm s.vm).setFrames (.invoking m args :: below)).setFrames (T.setVm s.vm).frames with heap := T.heap, slotsUsed := T.slotsUsed }
      rw [State.setFrames_setFrames, State.setFrames_self ht]
      rfl
    · show T.slotsUsed = T.slotsUsed + ((T.heap.toList.drop T.heap.size).map (·.slots.size)).sum
      rw [List.drop_eq_nil_of_le (Nat.le_of_eq Array.length_toList)]
      rfl
    · show ((T.heap.toList.drop T.heap.size).map (·.slots.size)).sum ≤ 0
      rw [List.drop_eq_nil_of_le (Nat.le_of_eq Array.length_toList)]
      exact Nat.le_refl _
/-- 'throw new E()': new; dup; invokespecial; athrow -/
theorem vx_throw0 {cc : ByteArray} {pc : Nat} (hexec : p.tables.exec = Jvm.exec) (hb : c.code = cc) (hl : l.stackTraces = false) {own cls : String} {names : List String} {ik ic mc ms : Nat} {A : Nat → Prop}
    (hown : s.vm.findClass own = some m.cls) (hcls : Bundle.fit cls = true) (hnames : ∀ n ∈ names, Bundle.fit n = true)
    (hk : (Cond.classLink own ik cls).before args s = true) (hini : (Cond.initialized cls).before args s = true) (hat : ∀ w ∈ vx_at0 own ic cls names, w.before args s = true)
    (hgood : ∀ w ∈ Cond.classLink own ik cls :: Cond.initialized cls :: vx_at0 own ic cls names, vx_ot w = true)
    (hU : vx_Zq Bundle.tN "UNASSIGNED_STACK" Bundle.steD A s s.heap) (hN : vx_Zq Bundle.tN "SUPPRESSED_SENTINEL" Bundle.listD A s s.heap) (hS : va_S A s.heap H locs) (hsize : ls.size = c.maxLocals)
    (d0 : decode cc pc = .ok (.new ik, 3)) (d3 : decode cc (pc + 3) = .ok (.dup, 1)) (d4 : decode cc (pc + 4) = .ok (.invokespecial ic, 3)) (d7 : decode cc (pc + 7) = .ok (.athrow, 1))
    (hout : ∀ x ∈ c.exceptionTable.toList, covers x (pc + 7) = false)
    (hRframes : names.length + 3 < R.frames) (hRlocals : (rest.map fun v => v.category).sum + (13 * (names.length + 1) + 42) ≤ R.locals) (hRcells : cells + 1 ≤ R.cells) (hRslots : slots + 6 ≤ R.slots) (hlocks : meth.locks = false)
    (hx : ∀ t : State, s.vm.Alike t.vm → H.size ≤ t.heap.size → (∀ q : Nat, q < H.size → t.heap[q]? = H[q]?) → XC cls s t)
    (hf : ∀ z ∈ locs, free z.base) (hc : cells + 1 ≤ mc) (hs : slots + 6 ≤ ms) :
    W p l e R s m args below meth c H locs cells slots (vx_MQ below Qc XC args s mc ms free) (F0 m pc ls rest) := by
  intro T hT X
  have htr : e.platform.stackTraces = false := (show e.platform.stackTraces = l.stackTraces by rw [X.admits.platform]).trans hl
  have Y := vx_rebase X (R' := { frames := R.frames, locals := R.locals, cells := 1, slots := 6 }) (Nat.le_refl _) (Nat.le_refl _) hRcells hRslots
  obtain ⟨s', hA⟩ : ∃ z, z = (T.setVm s.vm).setFrames (.invoking m args :: below) := ⟨_, rfl⟩
  rw [← hA] at Y
  have hvm : s'.vm = s.vm := by rw [hA]; rfl
  have hhp : s'.heap = H := by rw [hA]; exact hT
  have hW0 : s.WarmedH s'.vm := by rw [hvm]; exact State.WarmedH.refl s
  have hat' : ∀ w ∈ vx_at0 own ic cls names, w.before args s' = true := fun w hw => vx_ot_at hW0 hvm.symm (hgood w (List.mem_cons_of_mem _ (List.mem_cons_of_mem _ hw))) (hat w hw)
  have hk' : (Cond.classLink own ik cls).before args s' = true := vx_ot_at hW0 hvm.symm (hgood _ List.mem_cons_self) hk
  have hini' : (Cond.initialized cls).before args s' = true := vx_ot_at hW0 hvm.symm (hgood _ (List.mem_cons_of_mem _ List.mem_cons_self)) hini
  have hU' : vx_Zq Bundle.tN "UNASSIGNED_STACK" Bundle.steD A s' s'.heap := by rw [hhp]; exact vx_Zq.moved hW0.alike (hU.kept hS.2.1)
  have hN' : vx_Zq Bundle.tN "SUPPRESSED_SENTINEL" Bundle.listD A s' s'.heap := by rw [hhp]; exact vx_Zq.moved hW0.alike (hN.kept hS.2.1)
  have h : ∀ w ∈ Bundle.ownAtoms0 own ic cls names, w.before args s' = true := vx_own hat' (vx_isRefq hU'.1) (vx_isRefq hN'.1) hU'.2.word hN'.2.word
  have hown' : s'.vm.findClass own = some m.cls := by rw [hvm]; exact hown
  have hins : (Cond.instantiable cls 6).before args s' = true := h _ (by simp [Bundle.ownAtoms0])
  obtain ⟨vm₁, cX, kX, hfX, hkX, -, -, X₁, st1⟩ := Y.newCold hexec (own := own) (C := cls) (index := ik) (n := 6) hown' hk' hins hini'
    (g := F0 m pc ls rest) rfl (by rw [hb]; exact d0) (Nat.le_refl _) (Nat.le_refl _)
  generalize hT1 : (T.setVm vm₁).pushCell { cls := cX, slots := kX.instanceTypes.map defaultValue, vm := .none } = T1 at X₁ st1
  have hcat : (Value.ref T.heap.size).category = 1 := rfl
  have hcellA : T1.heap[T.heap.size]? = some (freshCell cX kX) := by rw [← hT1]; exact State.heap_pushCell_size _ _
  have d3' : decode c.code (pc + 3) = .ok (.dup, 1) := by rw [hb]; exact d3
  obtain ⟨U, hsteps, hrun, hend, hW, hsame, ce, hce, hO⟩ := X₁.ctorThrow0 hexec htr (own := own) (cls := cls) (names := names) (ic := ic) hown' hcls hnames h (fun x hx => nomatch hx) hfX hkX hcellA (by rw [hhp, hT]; exact Nat.le_refl _)
    (g := { method := m, pc := pc + 4, locals := ls, stack := .ref T.heap.size :: .ref T.heap.size :: rest, locked := none }) rfl hsize rfl rfl (rest := rest) rfl
    (by rw [hb]; exact d4) (by rw [hb]; exact d7) hout hRframes (by simp only [List.map_cons, List.sum_cons, hcat]; omega) hlocks
  obtain ⟨f1, f2⟩ := vx_frame hsame
  rw [hhp] at f1 f2
  have hWs : s.WarmedH U.vm := State.WarmedH.trans hW0 hW
  have hcl : s.vm.findClass cls = some ce.cls := by
    have h9 := hO.cls
    rw [hvm] at h9
    exact h9
  have hall : s.sameButNew ({ U with vm := s.vm } : State) locs mc ms := by
    subst hA
    obtain ⟨e1, e2⟩ := hsame
    rw [State.setFrames_setFrames] at e1
    have h2 : (T.setVm s.vm).sameButNew ({ U with vm := s.vm } : State) [] (0 + 1) (0 + 6) := ⟨e1, e2⟩
    have h3 := X.same.trans h2
    rw [List.append_nil] at h3
    exact h3.mono hc hs
  refine ⟨U, ?_, .threw T.heap.size, hrun, hend, Or.inr ⟨T.heap.size, rfl, cls, ce, locs, hx U hWs.alike f1 (fun q hq => f2 q hq (fun z hz => nomatch hz)), hce, hO.vm, hcl, hWs, hall, hf⟩⟩
  refine st1 _ ?_
  show Steps p.tables e below (T1.setTop { method := m, pc := pc + 3, locals := ls, stack := .ref T.heap.size :: rest, locked := none }) _
  jvm_step X₁.here [X₁.here.top, hexec, d3', Value.category]
  exact hsteps
/-- 'throw new E("text")': new; dup; ldc; invokespecial; athrow -/
theorem vx_throwS {cc : ByteArray} {pc : Nat} (hexec : p.tables.exec = Jvm.exec) (hb : c.code = cc) (hl : l.stackTraces = false) {own cls text : String} {names : List String} {ik is ic mc ms sa : Nat} {A : Nat → Prop}
    (hown : s.vm.findClass own = some m.cls) (hcls : Bundle.fit cls = true) (hnames : ∀ n ∈ names, Bundle.fit n = true)
    (hk : (Cond.classLink own ik cls).before args s = true) (hini : (Cond.initialized cls).before args s = true) (hstr : vk_R own is text sa s) (hat : ∀ w ∈ vx_atS own ic cls names, w.before args s = true)
    (hgood : ∀ w ∈ Cond.classLink own ik cls :: Cond.initialized cls :: vx_atS own ic cls names, vx_ot w = true)
    (hU : vx_Zq Bundle.tN "UNASSIGNED_STACK" Bundle.steD A s s.heap) (hN : vx_Zq Bundle.tN "SUPPRESSED_SENTINEL" Bundle.listD A s s.heap) (hS : va_S A s.heap H locs) (hsize : ls.size = c.maxLocals)
    (d0 : decode cc pc = .ok (.new ik, 3)) (d3 : decode cc (pc + 3) = .ok (.dup, 1)) (d4 : decode cc (pc + 4) = .ok (.ldc is, 2)) (d6 : decode cc (pc + 6) = .ok (.invokespecial ic, 3)) (d9 : decode cc (pc + 9) = .ok (.athrow, 1))
    (hout : ∀ x ∈ c.exceptionTable.toList, covers x (pc + 9) = false)
    (hRframes : names.length + 3 < R.frames) (hRlocals : (rest.map fun v => v.category).sum + (13 * (names.length + 1) + 43) ≤ R.locals) (hRcells : cells + 1 ≤ R.cells) (hRslots : slots + 6 ≤ R.slots) (hlocks : meth.locks = false)
    (hx : ∀ t : State, s.vm.Alike t.vm → H.size ≤ t.heap.size → (∀ q : Nat, q < H.size → t.heap[q]? = H[q]?) → XC cls s t)
    (hf : ∀ z ∈ locs, free z.base) (hc : cells + 1 ≤ mc) (hs : slots + 6 ≤ ms) :
    W p l e R s m args below meth c H locs cells slots (vx_MQ below Qc XC args s mc ms free) (F0 m pc ls rest) := by
  intro T hT X
  have htr : e.platform.stackTraces = false := (show e.platform.stackTraces = l.stackTraces by rw [X.admits.platform]).trans hl
  have Y := vx_rebase X (R' := { frames := R.frames, locals := R.locals, cells := 1, slots := 6 }) (Nat.le_refl _) (Nat.le_refl _) hRcells hRslots
  obtain ⟨s', hA⟩ : ∃ z, z = (T.setVm s.vm).setFrames (.invoking m args :: below) := ⟨_, rfl⟩
  rw [← hA] at Y
  have hvm : s'.vm = s.vm := by rw [hA]; rfl
  have hhp : s'.heap = H := by rw [hA]; exact hT
  have hW0 : s.WarmedH s'.vm := by rw [hvm]; exact State.WarmedH.refl s
  have hat' : ∀ w ∈ vx_atS own ic cls names, w.before args s' = true := fun w hw => vx_ot_at hW0 hvm.symm (hgood w (List.mem_cons_of_mem _ (List.mem_cons_of_mem _ hw))) (hat w hw)
  have hk' : (Cond.classLink own ik cls).before args s' = true := vx_ot_at hW0 hvm.symm (hgood _ List.mem_cons_self) hk
  have hini' : (Cond.initialized cls).before args s' = true := vx_ot_at hW0 hvm.symm (hgood _ (List.mem_cons_of_mem _ List.mem_cons_self)) hini
  have hU' : vx_Zq Bundle.tN "UNASSIGNED_STACK" Bundle.steD A s' s'.heap := by rw [hhp]; exact vx_Zq.moved hW0.alike (hU.kept hS.2.1)
  have hN' : vx_Zq Bundle.tN "SUPPRESSED_SENTINEL" Bundle.listD A s' s'.heap := by rw [hhp]; exact vx_Zq.moved hW0.alike (hN.kept hS.2.1)
  have h : ∀ w ∈ Bundle.ownAtoms own ic cls names, w.before args s' = true := vx_own hat' (vx_isRefq hU'.1) (vx_isRefq hN'.1) hU'.2.word hN'.2.word
  have hown' : s'.vm.findClass own = some m.cls := by rw [hvm]; exact hown
  have hins : (Cond.instantiable cls 6).before args s' = true := h _ (by simp [Bundle.ownAtoms])
  obtain ⟨vm₁, cX, kX, hfX, hkX, -, -, X₁, st1⟩ := Y.newCold hexec (own := own) (C := cls) (index := ik) (n := 6) hown' hk' hins hini'
    (g := F0 m pc ls rest) rfl (by rw [hb]; exact d0) (Nat.le_refl _) (Nat.le_refl _)
  generalize hT1 : (T.setVm vm₁).pushCell { cls := cX, slots := kX.instanceTypes.map defaultValue, vm := .none } = T1 at X₁ st1
  have hcat : (Value.ref T.heap.size).category = 1 := rfl
  have hcellA : T1.heap[T.heap.size]? = some (freshCell cX kX) := by rw [← hT1]; exact State.heap_pushCell_size _ _
  have d3' : decode c.code (pc + 3) = .ok (.dup, 1) := by rw [hb]; exact d3
  have d4' : decode c.code (pc + 4) = .ok (.ldc is, 2) := by rw [hb]; exact d4
  have hstr' : vk_R own is text sa s' := vk_R.warm hW0 hstr
  obtain ⟨U, hsteps, hrun, hend, hW, hsame, ce, hce, hO⟩ := X₁.ctorThrowS hexec htr (own := own) (cls := cls) (names := names) (ic := ic) hown' hcls hnames h (fun x hx => nomatch hx) hfX hkX hcellA (by rw [hhp, hT]; exact Nat.le_refl _) (msg := .ref sa) rfl
    (g := { method := m, pc := pc + 6, locals := ls, stack := .ref sa :: .ref T.heap.size :: .ref T.heap.size :: rest, locked := none }) rfl hsize rfl rfl (rest := rest) rfl
    (by rw [hb]; exact d6) (by rw [hb]; exact d9) hout hRframes (by simp only [List.map_cons, List.sum_cons, hcat]; omega) hlocks
  obtain ⟨f1, f2⟩ := vx_frame hsame
  rw [hhp] at f1 f2
  have hWs : s.WarmedH U.vm := State.WarmedH.trans hW0 hW
  have hcl : s.vm.findClass cls = some ce.cls := by
    have h9 := hO.cls
    rw [hvm] at h9
    exact h9
  have hall : s.sameButNew ({ U with vm := s.vm } : State) locs mc ms := by
    subst hA
    obtain ⟨e1, e2⟩ := hsame
    rw [State.setFrames_setFrames] at e1
    have h2 : (T.setVm s.vm).sameButNew ({ U with vm := s.vm } : State) [] (0 + 1) (0 + 6) := ⟨e1, e2⟩
    have h3 := X.same.trans h2
    rw [List.append_nil] at h3
    exact h3.mono hc hs
  refine ⟨U, ?_, .threw T.heap.size, hrun, hend, Or.inr ⟨T.heap.size, rfl, cls, ce, locs, hx U hWs.alike f1 (fun q hq => f2 q hq (fun z hz => nomatch hz)), hce, hO.vm, hcl, hWs, hall, hf⟩⟩
  refine st1 _ ?_
  show Steps p.tables e below (T1.setTop { method := m, pc := pc + 3, locals := ls, stack := .ref T.heap.size :: rest, locked := none }) _
  jvm_step X₁.here [X₁.here.top, hexec, d3', Value.category]
  exact X₁.ldcString hexec (own := own) (text := text) (index := is) (a := sa) hown' hstr'.1 hstr'.2
    (g := { method := m, pc := pc + 4, locals := ls, stack := .ref T.heap.size :: .ref T.heap.size :: rest, locked := none }) rfl d4' _ hsteps
/-- 'throw new E("text")', the text by a wide index -/
theorem vx_throwSW {cc : ByteArray} {pc : Nat} (hexec : p.tables.exec = Jvm.exec) (hb : c.code = cc) (hl : l.stackTraces = false) {own cls text : String} {names : List String} {ik is ic mc ms sa : Nat} {A : Nat → Prop}
    (hown : s.vm.findClass own = some m.cls) (hcls : Bundle.fit cls = true) (hnames : ∀ n ∈ names, Bundle.fit n = true)
    (hk : (Cond.classLink own ik cls).before args s = true) (hini : (Cond.initialized cls).before args s = true) (hstr : vk_R own is text sa s) (hat : ∀ w ∈ vx_atS own ic cls names, w.before args s = true)
    (hgood : ∀ w ∈ Cond.classLink own ik cls :: Cond.initialized cls :: vx_atS own ic cls names, vx_ot w = true)
    (hU : vx_Zq Bundle.tN "UNASSIGNED_STACK" Bundle.steD A s s.heap) (hN : vx_Zq Bundle.tN "SUPPRESSED_SENTINEL" Bundle.listD A s s.heap) (hS : va_S A s.heap H locs) (hsize : ls.size = c.maxLocals)
    (d0 : decode cc pc = .ok (.new ik, 3)) (d3 : decode cc (pc + 3) = .ok (.dup, 1)) (d4 : decode cc (pc + 4) = .ok (.ldc_w is, 3)) (d7 : decode cc (pc + 7) = .ok (.invokespecial ic, 3)) (d10 : decode cc (pc + 10) = .ok (.athrow, 1))
    (hout : ∀ x ∈ c.exceptionTable.toList, covers x (pc + 10) = false)
    (hRframes : names.length + 3 < R.frames) (hRlocals : (rest.map fun v => v.category).sum + (13 * (names.length + 1) + 43) ≤ R.locals) (hRcells : cells + 1 ≤ R.cells) (hRslots : slots + 6 ≤ R.slots) (hlocks : meth.locks = false)
    (hx : ∀ t : State, s.vm.Alike t.vm → H.size ≤ t.heap.size → (∀ q : Nat, q < H.size → t.heap[q]? = H[q]?) → XC cls s t)
    (hf : ∀ z ∈ locs, free z.base) (hc : cells + 1 ≤ mc) (hs : slots + 6 ≤ ms) :
    W p l e R s m args below meth c H locs cells slots (vx_MQ below Qc XC args s mc ms free) (F0 m pc ls rest) := by
  intro T hT X
  have htr : e.platform.stackTraces = false := (show e.platform.stackTraces = l.stackTraces by rw [X.admits.platform]).trans hl
  have Y := vx_rebase X (R' := { frames := R.frames, locals := R.locals, cells := 1, slots := 6 }) (Nat.le_refl _) (Nat.le_refl _) hRcells hRslots
  obtain ⟨s', hA⟩ : ∃ z, z = (T.setVm s.vm).setFrames (.invoking m args :: below) := ⟨_, rfl⟩
  rw [← hA] at Y
  have hvm : s'.vm = s.vm := by rw [hA]; rfl
  have hhp : s'.heap = H := by rw [hA]; exact hT
  have hW0 : s.WarmedH s'.vm := by rw [hvm]; exact State.WarmedH.refl s
  have hat' : ∀ w ∈ vx_atS own ic cls names, w.before args s' = true := fun w hw => vx_ot_at hW0 hvm.symm (hgood w (List.mem_cons_of_mem _ (List.mem_cons_of_mem _ hw))) (hat w hw)
  have hk' : (Cond.classLink own ik cls).before args s' = true := vx_ot_at hW0 hvm.symm (hgood _ List.mem_cons_self) hk
  have hini' : (Cond.initialized cls).before args s' = true := vx_ot_at hW0 hvm.symm (hgood _ (List.mem_cons_of_mem _ List.mem_cons_self)) hini
  have hU' : vx_Zq Bundle.tN "UNASSIGNED_STACK" Bundle.steD A s' s'.heap := by rw [hhp]; exact vx_Zq.moved hW0.alike (hU.kept hS.2.1)
  have hN' : vx_Zq Bundle.tN "SUPPRESSED_SENTINEL" Bundle.listD A s' s'.heap := by rw [hhp]; exact vx_Zq.moved hW0.alike (hN.kept hS.2.1)
  have h : ∀ w ∈ Bundle.ownAtoms own ic cls names, w.before args s' = true := vx_own hat' (vx_isRefq hU'.1) (vx_isRefq hN'.1) hU'.2.word hN'.2.word
  have hown' : s'.vm.findClass own = some m.cls := by rw [hvm]; exact hown
  have hins : (Cond.instantiable cls 6).before args s' = true := h _ (by simp [Bundle.ownAtoms])
  obtain ⟨vm₁, cX, kX, hfX, hkX, -, -, X₁, st1⟩ := Y.newCold hexec (own := own) (C := cls) (index := ik) (n := 6) hown' hk' hins hini'
    (g := F0 m pc ls rest) rfl (by rw [hb]; exact d0) (Nat.le_refl _) (Nat.le_refl _)
  generalize hT1 : (T.setVm vm₁).pushCell { cls := cX, slots := kX.instanceTypes.map defaultValue, vm := .none } = T1 at X₁ st1
  have hcat : (Value.ref T.heap.size).category = 1 := rfl
  have hcellA : T1.heap[T.heap.size]? = some (freshCell cX kX) := by rw [← hT1]; exact State.heap_pushCell_size _ _
  have d3' : decode c.code (pc + 3) = .ok (.dup, 1) := by rw [hb]; exact d3
  have d4' : decode c.code (pc + 4) = .ok (.ldc_w is, 3) := by rw [hb]; exact d4
  have hstr' : vk_R own is text sa s' := vk_R.warm hW0 hstr
  obtain ⟨U, hsteps, hrun, hend, hW, hsame, ce, hce, hO⟩ := X₁.ctorThrowS hexec htr (own := own) (cls := cls) (names := names) (ic := ic) hown' hcls hnames h (fun x hx => nomatch hx) hfX hkX hcellA (by rw [hhp, hT]; exact Nat.le_refl _) (msg := .ref sa) rfl
    (g := { method := m, pc := pc + 7, locals := ls, stack := .ref sa :: .ref T.heap.size :: .ref T.heap.size :: rest, locked := none }) rfl hsize rfl rfl (rest := rest) rfl
    (by rw [hb]; exact d7) (by rw [hb]; exact d10) hout hRframes (by simp only [List.map_cons, List.sum_cons, hcat]; omega) hlocks
  obtain ⟨f1, f2⟩ := vx_frame hsame
  rw [hhp] at f1 f2
  have hWs : s.WarmedH U.vm := State.WarmedH.trans hW0 hW
  have hcl : s.vm.findClass cls = some ce.cls := by
    have h9 := hO.cls
    rw [hvm] at h9
    exact h9
  have hall : s.sameButNew ({ U with vm := s.vm } : State) locs mc ms := by
    subst hA
    obtain ⟨e1, e2⟩ := hsame
    rw [State.setFrames_setFrames] at e1
    have h2 : (T.setVm s.vm).sameButNew ({ U with vm := s.vm } : State) [] (0 + 1) (0 + 6) := ⟨e1, e2⟩
    have h3 := X.same.trans h2
    rw [List.append_nil] at h3
    exact h3.mono hc hs
  refine ⟨U, ?_, .threw T.heap.size, hrun, hend, Or.inr ⟨T.heap.size, rfl, cls, ce, locs, hx U hWs.alike f1 (fun q hq => f2 q hq (fun z hz => nomatch hz)), hce, hO.vm, hcl, hWs, hall, hf⟩⟩
  refine st1 _ ?_
  show Steps p.tables e below (T1.setTop { method := m, pc := pc + 3, locals := ls, stack := .ref T.heap.size :: rest, locked := none }) _
  jvm_step X₁.here [X₁.here.top, hexec, d3', Value.category]
  exact X₁.ldcStringW hexec (own := own) (text := text) (index := is) (a := sa) hown' hstr'.1 hstr'.2
    (g := { method := m, pc := pc + 4, locals := ls, stack := .ref T.heap.size :: .ref T.heap.size :: rest, locked := none }) rfl d4' _ hsteps
end Ends
section Bodies
variable {l : Launch}
theorem vx_ofW {y : MethodName} {ws ws' : List Cond} {rm : Room} {Pc : Array Value → State → Prop} {Qc : Array Value → State → Outcome → State → Prop} {XC : String → State → State → Prop} {mc ms : Nat} {free : Addr → Prop} {cc : ByteArray} {maxL : Nat} {ret : Option FieldType}
    (hy : plainName y.cls = true) (hw : ws = Cond.code y cc maxL ret :: ws')
    (body : ∀ p e s m args below meth c s₁, BodyLoose p l y (headSpec ws rm) cc maxL ret e s m args below meth c s₁ → c.maxLocals = maxL → (∀ x ∈ c.exceptionTable.toList, False) → Pc args s →
      W p l e (headSpec ws rm).room s m args below meth c s.heap [] 0 0 (vx_MQ below Qc XC args s mc ms free) (entryFrame m args maxL)) : vx_Met l y ws rm Pc Qc XC mc ms free := by
  refine MetFree.of_bodyS (code := cc) (maxLocals := maxL) (ret := ret) hy ?_ ?_
  · intro args s m h hn
    obtain ⟨meth, c, h1, h2, h3, h4, h5, h6, -, -⟩ := Cond.code_spec hn (atoms_spec (ws := ws) h _ (by rw [hw]; exact List.mem_cons_self))
    exact ⟨meth, c, h1, h2, h3, h4, h5, h6⟩
  · intro p e s m args below meth c s₁ B hml hP _
    have hh0 : s₁.heap = s.heap := by rw [B.state]; rfl
    have ht : ∀ x ∈ c.exceptionTable.toList, False := by
      obtain ⟨meth9, c9, h1, h2, -, -, -, -, h7, -⟩ := Cond.code_spec B.named (atoms_spec (ws := ws) B.pre _ (by rw [hw]; exact List.mem_cons_self))
      cases Option.some.inj (h1.symm.trans B.method)
      cases Option.some.inj (h2.symm.trans (Stand.of_body B).code)
      intro x hx
      rw [Array.isEmpty_iff.mp h7] at hx
      cases hx
    obtain ⟨t, a1, o, b1, b2, b3⟩ := body p e s m args below meth c s₁ B hml ht hP s₁ hh0 (Stand.of_body B)
    exact ⟨t, o, a1, b1, b2, b3⟩
/-- the table of a body with handlers -/
theorem vx_table {p : Program} {x y : MethodName} {S : Spec} {cc bytes : ByteArray} {maxL maxL' : Nat} {ret ret' : Option FieldType} {e : Env} {s s₁ : State} {m : MethodId} {args : Array Value} {below : List Frame} {meth : Method} {c : Code} {hh : List (Nat × Nat × Nat × Nat)}
    (B : BodyLoose p l y S cc maxL ret e s m args below meth c s₁) (h : (Cond.codeWith y bytes maxL' ret' hh).before args s = true) : c.exceptionTable.toList = tableOf hh := by
  obtain ⟨m9, meth9, c9, hn9, h1, h2, -, -, h6, -⟩ := Cond.codeWith_spec h
  cases Option.some.inj (hn9.symm.trans B.named)
  cases Option.some.inj (h1.symm.trans B.method)
  cases Option.some.inj (h2.symm.trans (Stand.of_body B).code)
  rw [← h6, table_eq]
end Bodies
end VXA
section VXS
variable {p : Program} {l : Launch} {e : Env} {R : Room} {s : State} {m : MethodId} {args : Array Value} {below : List Frame} {meth : Method} {c : Code} {T : State} {H : Heap} {locs : List Loc} {cells slots : Nat}
abbrev vx_CSW (R : Room) (s : State) (args : Array Value) (own : String) (index : Nat) (y : MethodName) (bytes : ByteArray) (maxL : Nat) (ret : Option FieldType) (hh : List (Nat × Nat × Nat × Nat)) (ws : List Cond) (rm : Room) (mc ms n : Nat) : Prop :=
  (rm.cells = mc ∧ rm.slots = ms ∧ rm.frames + 1 ≤ R.frames ∧ 8 + (maxL + 11) + rm.locals ≤ R.locals ∧ (∀ w ∈ ws, ∀ (a' : Array Value) (U : State), s.WarmedH U.vm → w.before a' U = true) ∧ Cond.codeWith y bytes maxL ret hh ∈ ws) ∧
  (Cond.codeWith y bytes maxL ret hh).before args s = true ∧ (Cond.initialized y.cls).before args s = true ∧ (y.cls ≠ "java/lang/invoke/MethodHandle" ∧ y.cls ≠ "java/lang/invoke/VarHandle") ∧
  (∀ sig, parseMethodDescriptor y.desc = some sig → n = sig.parameters.length) ∧ (Cond.methodLink own index y).before args s = true ∧ (Cond.static y).before args s = true
theorem vx_cwSW {own : String} {index maxL mc ms : Nat} {y : MethodName} {bytes : ByteArray} {ret : Option FieldType} {hh : List (Nat × Nat × Nat × Nat)} {Ts ws ws' : List Cond} {rm : Room} (n : Nat) (ht : ∀ w ∈ Ts, w.before args s = true) (hT : GoodIn Ts (va_wsS own index y ws)) (hw : ws = Cond.codeWith y bytes maxL ret hh :: ws') (hrc : rm.cells = mc) (hrs : rm.slots = ms)
    (hd : y.cls ≠ "java/lang/invoke/MethodHandle" ∧ y.cls ≠ "java/lang/invoke/VarHandle" ∧ (parseMethodDescriptor y.desc).map (fun d => d.parameters.length) = some n) (hR : rm.frames + 1 ≤ R.frames ∧ 8 + (maxL + 11) + rm.locals ≤ R.locals) :
    vx_CSW R s args own index y bytes maxL ret hh ws rm mc ms n := by
  have ok : ∀ w ∈ va_wsS own index y ws, w.before args s = true := fun w h => ht w (hT w h).1
  have hG : GoodIn Ts ws := fun w h => hT w (by unfold va_wsS; exact List.mem_append_right _ h)
  have hc : Cond.codeWith y bytes maxL ret hh ∈ ws := by rw [hw]; exact List.mem_cons_self
  refine ⟨⟨hrc, hrs, hR.1, hR.2, pay_in ht hG, hc⟩, ht _ (hG _ hc).1, ok _ (by simp [va_wsS]), ⟨hd.1, hd.2.1⟩, fun sig h => ?_, ok _ (by simp [va_wsS]), ok _ (by simp [va_wsS])⟩
  have h2 := hd.2.2
  rw [h] at h2
  exact (Option.some.inj h2).symm
theorem vx_callSW (X : Stand p l e R s m args below meth c T locs cells slots) (hexec : p.tables.exec = Jvm.exec) {own : String} {index : Nat} {y : MethodName} {bytes : ByteArray} {maxL : Nat} {ret : Option FieldType} {hh : List (Nat × Nat × Nat × Nat)}
    (hown : s.vm.findClass own = some m.cls) (hlink : (Cond.methodLink own index y).before args s = true) (hstat : (Cond.static y).before args s = true) (hinit : (Cond.initialized y.cls).before args s = true)
    (hcode : (Cond.codeWith y bytes maxL ret hh).before args s = true) (hy : y.cls ≠ "java/lang/invoke/MethodHandle" ∧ y.cls ≠ "java/lang/invoke/VarHandle")
    {W9 : Nat} {Pre : Pt → Array Value → Prop} {Post : Pt → Array Value → Option Value → Pt → Prop} (hK : Back l R p e below s args y 3 W9 Pre Post)
    {g : JFrame} (hg : g.method = m) (hsize : g.locals.size = c.maxLocals) {argsL rest : List Value} (hlen : ∀ sig, parseMethodDescriptor y.desc = some sig → argsL.length = sig.parameters.length)
    (hstack : g.stack = argsL.reverse ++ rest) (hW : 2 * g.monitorRoom + (rest.map fun v => v.category).sum ≤ W9) (hdg : decode c.code g.pc = .ok (.invokestatic index, 3))
    (hpre : ∀ vm₁, s.WarmedH vm₁ → Pre ⟨T.setVm vm₁, locs, cells, slots⟩ argsL.toArray) :
    ∃ (v : Option Value) (vm₁ : Vm) (B : Pt), s.WarmedH vm₁ ∧ Stand p l e R s m args below meth c B.U B.locs B.cells B.slots ∧ Post ⟨T.setVm vm₁, locs, cells, slots⟩ argsL.toArray v B ∧
      ∀ target, Steps p.tables e below (B.U.setTop { g with pc := g.pc + 3, stack := v.toList ++ rest }) target → Steps p.tables e below (T.setTop g) target := by
  obtain ⟨mk, methM, cM, hnamed, hmethM, -, -, -, -, -, -, hsigM⟩ := Cond.codeWith_spec hcode
  have hstatic : methM.isStatic = true := Cond.static_spec hnamed hmethM hstat
  obtain ⟨kP, hkP, -⟩ := className_of_methodNamed hnamed
  have hinitP : kP.init = .initialized := Cond.initialized_spec (findClass_of_methodNamed hnamed) hkP hinit
  obtain ⟨vm₁, X₁, hstep₁⟩ := X.invokestatic hexec hown hlink hnamed hmethM hstatic hkP hinitP hy (g := g) hg (argsL := argsL) (rest := rest) (hlen _ hsigM) hstack hdg
  obtain ⟨v, B, X', hpost, hsteps⟩ := hK m meth c ⟨T.setVm vm₁, locs, cells, slots⟩ { g with stack := rest } (.invokestatic index) mk argsL.toArray X₁ hg hsize hdg hW (X₁.named hnamed) (hpre vm₁ X₁.warmed)
  exact ⟨v, vm₁, B, X₁.warmed, X', hpost, fun target h => hstep₁ _ fun acts => by rw [doInvoke_state]; exact hsteps.trans h⟩
theorem vx_runSW {y : MethodName} {bytes cc : ByteArray} {maxL nL mc ms n index : Nat} {ret : Option FieldType} {hh : List (Nat × Nat × Nat × Nat)} {ws : List Cond} {rm : Room} {Pc : Array Value → State → Prop} {Qc : Array Value → State → Outcome → State → Prop} {free : Addr → Prop} {Ts : List Cond} {own : String} {As rest : List Value} {g : JFrame}
    (S : CallFix p m c cc nL s args Ts own) (hM : Met l y ws rm Pc Qc mc ms free) (cw : vx_CSW R s args own index y bytes maxL ret hh ws rm mc ms n) (hp : PreS s H Pc As)
    (hg : g.method = m) (hn : As.length = n) (hsize : g.locals.size = nL) (hstack : g.stack = As.reverse ++ rest) (hW : 2 * g.monitorRoom + (rest.map fun v => v.category).sum ≤ 8) (hdg : decode cc g.pc = .ok (.invokestatic index, 3)) (hf : cells + mc ≤ R.cells ∧ slots + ms ≤ R.slots) :
    va_Run p l e R s m args below meth c H locs cells slots mc ms g rest (Qc As.toArray) (free) := by
  obtain ⟨⟨hrc, hrs, hfr, hlo, hws, hcw⟩, hcode, hini, hy, hlen, hl, hstt⟩ := cw
  have hK : Back l R p e below s args y 3 8 (PreOf R mc ms Pc) (PostOf Qc mc ms free) := va_backW (hh := hh) (bytes := bytes) (maxL := maxL) (ret := ret) hM hp.1 hrc hrs hfr hlo hws hcw (fun a' U hW => word_at hW (Or.inl (by first | rfl | simp [Cond.onTables, Cond.keeps, Cond.steady])) hini)
  obtain ⟨hx, hb, hml, ho, -⟩ := S
  intro T hT X
  obtain ⟨v, vm₁, ⟨U', l2, c2, s2⟩, hW₁, X', ⟨g', mk, t, L, e1, e2, hq, h1, hL, h2, h3⟩, st⟩ := vx_callSW X hx (hh := hh) (bytes := bytes) (maxL := maxL) (ret := ret) ho hl hstt hini hcode hy hK hg (hsize.trans hml.symm) (argsL := As) (rest := rest) (fun sig h => hn.trans (hlen sig h)) hstack hW (by rw [hb]; exact hdg)
    (fun vm₁ hW₁ => ⟨hf.1, hf.2, hp.2 (T.setVm vm₁) hT hW₁⟩)
  dsimp only [Pt.U, Pt.locs, Pt.cells, Pt.slots] at X' e1 e2 h1 h2 h3 st
  subst h1; subst h2; subst h3
  exact ⟨v, (T.setVm vm₁).calling g' mk As.toArray, t, U', L, hT, X', hL, e1, e2, hq, st⟩
/-- not caught here, past rows that name other classes: it goes on to the caller -/
theorem vx_outP {p : Program} {l : Launch} {e : Env} {R : Room} {s : State} {m : MethodId} {args : Array Value} {below : List Frame} {meth : Method} {c : Code} {H : Heap} {locs : List Loc} {cells slots : Nat} {free : Addr → Prop} {ls : Array Slot} {rest : List Value} {Qc : Array Value → State → Outcome → State → Prop} {XC : String → State → State → Prop}
    {pc : Nat} {own E : String} {ce : Cell} {q : Addr} {mc ms : Nat} (hown : s.vm.findClass own = some m.cls) (hlocks : meth.locks = false)
    (hpass : ∀ z ∈ c.exceptionTable.toList, covers z pc = false ∨ (z.catchType ≠ 0 ∧ ∃ nm : String, (Cond.classLink own z.catchType nm).before args s = true ∧ va_Nc E nm s)) (hcell : H[q]? = some ce) (hv : ce.vm = .none) (hcl : s.vm.findClass E = some ce.cls)
    (hx : ∀ t : State, t.heap = H → s.vm.Alike t.vm → XC E s t) (hf : ∀ z ∈ locs, free z.base) (hc : cells ≤ mc) (hs : slots ≤ ms) :
    vx_W p l e R s m args below meth c H locs cells slots (vx_MQ below Qc XC args s mc ms free) (F0 m pc ls rest) q := by
  intro T hT X
  have hpl : e.platform.magicAccessors = ({} : Platform).magicAccessors := by rw [X.admits.platform]
  obtain ⟨vm', hW', X', st⟩ := X.outThrough hlocks q (g := F0 m pc ls rest) rfl rfl rfl (cell := ce) (by rw [hT]; exact hcell) (by rw [hv]; rfl)
    (by obtain ⟨k9, h9, -⟩ := Vm.findClass_spec hcl; exact ⟨k9, h9⟩) (fun z hz => by
      rcases hpass z hz with h | ⟨hz0, nm, hl1, hn1⟩
      · exact Or.inl h
      · obtain ⟨c6, hc6, hcl6⟩ := Cond.classLink_spec hown hl1 e.platform hpl
        obtain ⟨a8, b8, h1, h2, h3⟩ := hn1
        cases Option.some.inj (h1.symm.trans hcl)
        cases Option.some.inj (h2.symm.trans hc6)
        exact Or.inr ⟨hz0, _, hcl6, h3⟩)
  obtain ⟨g₀, hfr⟩ := X'.frames_eq
  have hcell9 : ((T.setVm vm').setFrames (.throwing q :: below)).heap[q]? = some ce := by
    show T.heap[q]? = some ce
    rw [hT]; exact hcell
  have hend : Ended ((T.setVm vm').setFrames (.throwing q :: below)) below (.threw q) := State.frames_setFrames _ (State.cur_lt_of_frames hfr)
  refine ⟨(T.setVm vm').setFrames (.throwing q :: below), ?_, .threw q, X'.here.running, hend, Or.inr ⟨q, rfl, E, ce, locs, hx _ hT (X'.ends _).1.alike, hcell9, hv, hcl, (X'.ends _).1, (X'.ends _).2.mono hc hs, hf⟩⟩
  rw [X.pushThrowing_eq]
  exact st
/-- a thing of a world lies in the heap -/
theorem vx_lt {D : va_G} {cl : List vw_C} {ws : va_W} {H1 : Heap} (h : va_P D cl ws H1) {k : Nat} {q : Nat × va_E} (hk : ws[k]? = some q) : q.1 < H1.size := (h k q hk).lt
end VXS
section VXH
/-! vx_backW, vx_callVX, vx_callSX, vx_callVW, vx_runVW, vx_runVX, vx_runSX, vx_ofWH follow the same proofs as their sisters above (Free/Laws.lean, Shelf42/LK1.lean); vx_outP calls Shelf42/NT130.lean (outThrough). -/
section
variable {l : Launch} {R : Room} {p : Program} {e : Env} {below : List Frame} {s : State} {sargs : Array Value} {y : MethodName} {len W9 : Nat}
theorem vx_backW {ws : List Cond} {rm : Room} {Pc : Array Value → State → Prop} {Qc : Array Value → State → Outcome → State → Prop} {XC : String → State → State → Prop} {mc ms : Nat} {free : Addr → Prop} {bytes : ByteArray} {maxL : Nat} {ret : Option FieldType} {hh : List (Nat × Nat × Nat × Nat)}
    (hM : vx_Met l y ws rm Pc Qc XC mc ms free) (hblind : FrameBlind Pc) (hrc : rm.cells = mc) (hrs : rm.slots = ms)
    (hframes : rm.frames + 1 ≤ R.frames) (hlocals : W9 + (maxL + 11) + rm.locals ≤ R.locals)
    (hws : ∀ w ∈ ws, ∀ a' U, s.WarmedH U.vm → w.before a' U = true) (hcode : Cond.codeWith y bytes maxL ret hh ∈ ws) (hinit : ∀ a' U, s.WarmedH U.vm → (Cond.initialized y.cls).before a' U = true) :
    vx_Back l R p e below s sargs y len W9 (PreOf R mc ms Pc) (PostOf Qc mc ms free) (vx_Post XC mc ms free) := by
  intro m meth c A g ig mk a X hg hsize hdg hW hn hp
  have h1 : (headSpec ws rm).pre.before a A.U = true := atoms_intro fun w hw => hws w hw _ _ X.warmed
  have h2 : (Cond.codeWith y bytes maxL ret hh).before a A.U = true := hws _ hcode _ _ X.warmed
  have h3 : (Cond.initialized y.cls).before a A.U = true := hinit _ _ X.warmed
  have h4 : A.cells + (headSpec ws rm).room.cells ≤ R.cells := by rw [show (headSpec ws rm).room.cells = mc from hrc]; exact hp.1
  have h5 : A.slots + (headSpec ws rm).room.slots ≤ R.slots := by rw [show (headSpec ws rm).room.slots = ms from hrs]; exact hp.2.1
  have hPc : Pc a (A.U.calling g mk a) := hblind _ _ _ _ hp.2.2
  obtain ⟨U, Ls, c0, s0⟩ := A
  dsimp only [Pt.U, Pt.locs, Pt.cells, Pt.slots] at h1 h2 h3 h4 h5 X hn hPc ⊢
  obtain ⟨m9, methY, cY, hn9, hmY, hcY, -, hlY, -⟩ := Cond.codeWith_spec h2
  cases Option.some.inj (hn9.symm.trans hn)
  obtain ⟨kY, hkY, -⟩ := className_of_methodNamed hn
  have hinitY : kY.init = .initialized := Cond.initialized_spec (findClass_of_methodNamed hn) hkY h3
  have h : At U g.method c below := by rw [hg]; exact X.here
  have hlocals9 : W9 + (maxL + 11) + (headSpec ws rm).room.locals ≤ R.locals := hlocals
  have happ : (headSpec ws rm).appliesLoose y e.platform (U.calling g mk a) = true :=
    Spec.appliesLoose_calling (g := g) h hdg hn hkY hinitY
      (X.room_calling (g := g) (R' := (headSpec ws rm).room) hsize hmY hcY hframes (by rw [hlY]; omega) h4 h5) h1
  obtain ⟨mid, hmid⟩ := h.above
  have hfr : (U.setTop g).frames = (.java g :: mid) ++ below := by rw [State.frames_setTop' g h.top, hmid]; rfl
  obtain ⟨o, s₂, hsteps, -, hend, hq⟩ := Steps.callFree hM p X.admits X.cas X.clock (acts := []) hfr happ hPc trivial
  have hq' : vx_Q Qc XC mc ms free a (U.calling g mk a) o s₂ := hq
  rw [State.frames_setTop' g h.top] at hend
  obtain ⟨g₀, hg0⟩ := Option.isSome_iff_exists.mp h.top
  obtain ⟨r, hr⟩ := State.topJava?_eq_some.mp hg0
  have hr' : (({ U with heap := s₂.heap, slotsUsed := s₂.slotsUsed } : State).setVm s₂.vm).frames = .java g₀ :: r := hr
  rcases hq' with ⟨hqc, L, hfe, hL⟩ | ⟨q, rfl, E, ce, L, hx, hce, hcv, hcl, hW₂, hsm, hL⟩
  · obtain ⟨⟨v, rfl⟩, hW₂, e2, q2, q3, q4, q5, q6⟩ := id hfe
    have e3 : s₂ = ({ (U.calling g mk a).setFrames s₂.frames with heap := s₂.heap, slotsUsed := s₂.slotsUsed } : State).setVm s₂.vm := by
      have : s₂ = ({ s₂ with vm := (U.calling g mk a).vm } : State).setVm s₂.vm := rfl
      rw [e2] at this
      exact this
    obtain ⟨c₂, i₂, len₂, hc₂, hd₂, hf₂⟩ := hend
    have hW' : U.WarmedH s₂.vm := hW₂
    have hcc : c₂ = c := by
      have h1 : s₂.code? g.method = U.code? g.method := by
        rw [State.code?_eq, State.code?_eq, hW'.alike.method?]
      exact Option.some.inj (hc₂.symm.trans (h1.trans h.code))
    subst hcc
    have hlen : len₂ = len := by rw [hdg] at hd₂; cases hd₂; rfl
    subst hlen
    have hs₂ : s₂ = (({ U with heap := s₂.heap, slotsUsed := s₂.slotsUsed } : State).setVm s₂.vm).setTop { g with pc := g.pc + len₂, stack := v.toList ++ g.stack } := by
      refine e3.trans ?_
      rw [hf₂, State.calling_eq h.top, State.setFrames_setFrames, State.setTop_of_frames _ hr', hr]
      rfl
    have hsame : U.sameButNew ({ U with heap := s₂.heap, slotsUsed := s₂.slotsUsed } : State) L mc ms := by
      refine ⟨?_, q2, q3, q4, q5, q6⟩
      obtain ⟨t, ht, -⟩ := State.frames_cons hr
      show ({ U with heap := s₂.heap, slotsUsed := s₂.slotsUsed } : State) = { U.setFrames U.frames with heap := s₂.heap, slotsUsed := s₂.slotsUsed }
      rw [State.setFrames_self ht]
    subst hg
    refine Or.inl ⟨v, ⟨(({ U with heap := s₂.heap, slotsUsed := s₂.slotsUsed } : State).setVm s₂.vm), Ls ++ L, c0 + mc, s0 + ms⟩,
      ⟨X.admits, X.cas, X.clock, X.frames, X.room, X.hears, X.method, X.code, (X.here.setHeapUsed s₂.heap s₂.slotsUsed).setVm hW'.alike, X.tail, State.WarmedH.trans X.warmed hW', X.limits, X.bytes, X.same.trans (hsame.setVm s.vm)⟩,
      ⟨g, mk, s₂, L, rfl, rfl, hqc, rfl, hL, rfl, rfl⟩, ?_⟩
    show Steps p.tables e below _ ((({ U with heap := s₂.heap, slotsUsed := s₂.slotsUsed } : State).setVm s₂.vm).setTop { g with pc := g.pc + len₂, stack := v.toList ++ g.stack })
    rw [← hs₂]
    exact hsteps
  · obtain ⟨e2, q2, q3, q4, q5, q6⟩ := id hsm
    have e3 : s₂ = ({ (U.calling g mk a).setFrames s₂.frames with heap := s₂.heap, slotsUsed := s₂.slotsUsed } : State).setVm s₂.vm := by
      have : s₂ = ({ s₂ with vm := (U.calling g mk a).vm } : State).setVm s₂.vm := rfl
      rw [e2] at this
      exact this
    have hf₂ : s₂.frames = .throwing q :: .java g :: U.frames.tail := hend
    have hW' : U.WarmedH s₂.vm := hW₂
    have hs₂ : s₂ = ((({ U with heap := s₂.heap, slotsUsed := s₂.slotsUsed } : State).setVm s₂.vm).setTop g).pushFrame (.throwing q) := by
      refine e3.trans ?_
      rw [hf₂, State.calling_eq h.top, State.setFrames_setFrames, State.pushFrame, State.frames_setTop _ hr', State.setTop_of_frames _ hr', State.setFrames_setFrames, hr]
      rfl
    have hsame : U.sameButNew ({ U with heap := s₂.heap, slotsUsed := s₂.slotsUsed } : State) L mc ms := by
      refine ⟨?_, q2, q3, q4, q5, q6⟩
      obtain ⟨t, ht, -⟩ := State.frames_cons hr
      show ({ U with heap := s₂.heap, slotsUsed := s₂.slotsUsed } : State) = { U.setFrames U.frames with heap := s₂.heap, slotsUsed := s₂.slotsUsed }
      rw [State.setFrames_self ht]
    subst hg
    refine Or.inr ⟨q, ⟨(({ U with heap := s₂.heap, slotsUsed := s₂.slotsUsed } : State).setVm s₂.vm), Ls ++ L, c0 + mc, s0 + ms⟩,
      ⟨X.admits, X.cas, X.clock, X.frames, X.room, X.hears, X.method, X.code, (X.here.setHeapUsed s₂.heap s₂.slotsUsed).setVm hW'.alike, X.tail, State.WarmedH.trans X.warmed hW', X.limits, X.bytes, X.same.trans (hsame.setVm s.vm)⟩,
      ⟨g, mk, s₂, L, E, ce, rfl, rfl, hx, hce, hcv, hcl, rfl, hL, rfl, rfl⟩, ?_⟩
    show Steps p.tables e below _ (((({ U with heap := s₂.heap, slotsUsed := s₂.slotsUsed } : State).setVm s₂.vm).setTop g).pushFrame (.throwing q))
    rw [← hs₂]
    exact hsteps
end
variable {p : Program} {l : Launch} {e : Env} {R : Room} {s : State} {m : MethodId} {args : Array Value} {below : List Frame} {meth : Method} {c : Code} {T : State} {H : Heap} {locs : List Loc} {cells slots : Nat}
theorem vx_callVX (X : Stand p l e R s m args below meth c T locs cells slots) (hexec : p.tables.exec = Jvm.exec) {own C : String} {index : Nat} {y : MethodName} {bytes : ByteArray} {maxL : Nat} {ret : Option FieldType} {hh : List (Nat × Nat × Nat × Nat)}
    (hown : s.vm.findClass own = some m.cls) (hlink : (Cond.methodLink own index y).before args s = true) (hinst : (Cond.instanceMethod y).before args s = true) (hsel : (Cond.selects C y y).before args s = true)
    (hcode : (Cond.codeWith y bytes maxL ret hh).before args s = true) (hy : y.cls ≠ "java/lang/invoke/MethodHandle" ∧ y.cls ≠ "java/lang/invoke/VarHandle")
    {W9 : Nat} {Pre : Pt → Array Value → Prop} {Post : Pt → Array Value → Option Value → Pt → Prop} {PostX : Pt → Array Value → Addr → Pt → Prop} (hK : vx_Back l R p e below s args y 3 W9 Pre Post PostX)
    {b : Addr} {cellB : Cell} (hcell : T.heap[b]? = some cellB) (hobj : cellB.vm.isStatics = false) (hcls : s.vm.findClass C = some cellB.cls)
    {g : JFrame} (hg : g.method = m) (hsize : g.locals.size = c.maxLocals) {argsL rest : List Value} (hlen : ∀ sig, parseMethodDescriptor y.desc = some sig → argsL.length = sig.parameters.length)
    (hstack : g.stack = argsL.reverse ++ .ref b :: rest) (hW : 2 * g.monitorRoom + (rest.map fun v => v.category).sum ≤ W9) (hdg : decode c.code g.pc = .ok (.invokevirtual index, 3))
    (hpre : ∀ vm₁, s.WarmedH vm₁ → Pre ⟨T.setVm vm₁, locs, cells, slots⟩ (Value.ref b :: argsL).toArray) :
    (∃ (v : Option Value) (vm₁ : Vm) (B : Pt), s.WarmedH vm₁ ∧ Stand p l e R s m args below meth c B.U B.locs B.cells B.slots ∧ Post ⟨T.setVm vm₁, locs, cells, slots⟩ (Value.ref b :: argsL).toArray v B ∧
      ∀ target, Steps p.tables e below (B.U.setTop { g with pc := g.pc + 3, stack := v.toList ++ rest }) target → Steps p.tables e below (T.setTop g) target) ∨
    (∃ (q : Addr) (vm₁ : Vm) (B : Pt), s.WarmedH vm₁ ∧ Stand p l e R s m args below meth c B.U B.locs B.cells B.slots ∧ PostX ⟨T.setVm vm₁, locs, cells, slots⟩ (Value.ref b :: argsL).toArray q B ∧
      Steps p.tables e below (T.setTop g) ((B.U.setTop { g with stack := rest }).pushFrame (.throwing q))) := by
  obtain ⟨mk, methM, hnamed, hmethM, hstM, habM⟩ := Cond.instanceMethod_spec hinst
  obtain ⟨m8, methM', cM, hn8, hmethM', -, -, -, -, -, -, hsigM⟩ := Cond.codeWith_spec hcode
  cases Option.some.inj (hn8.symm.trans hnamed)
  cases hmethM.symm.trans hmethM'
  obtain ⟨c2, r2, m2, q1, q2, q3, q4, kP, hkP, hkPi⟩ := Cond.selects_spec hsel
  cases hcls.symm.trans q1
  cases (State.methodFound?_of_named hnamed hy).symm.trans q2
  cases hnamed.symm.trans q3
  have hselP : selectMethod e.platform s.vm cellB.cls mk = .method mk := by rw [Launch.admits_selectMethod X.admits]; exact q4
  obtain ⟨vm₁, X₁, hstep₁⟩ := X.invokevirtual hexec hown hlink hnamed hmethM hstM hkP hkPi hy (a := b) (cell := cellB) hcell
    (fun z h => by rw [h] at hobj; cases hobj) hselP hmethM habM hkP hkPi (g := g) hg (argsL := argsL) (rest := rest) (hlen _ hsigM) hstack hdg
  rcases hK m meth c ⟨T.setVm vm₁, locs, cells, slots⟩ { g with stack := rest } (.invokevirtual index) mk (Value.ref b :: argsL).toArray X₁ hg hsize hdg hW (X₁.named hnamed) (hpre vm₁ X₁.warmed) with ⟨v, B, X', hpost, hsteps⟩ | ⟨q, B, X', hpost, hsteps⟩
  · exact Or.inl ⟨v, vm₁, B, X₁.warmed, X', hpost, fun target h => hstep₁ _ fun acts => by rw [doInvoke_state]; exact hsteps.trans h⟩
  · exact Or.inr ⟨q, vm₁, B, X₁.warmed, X', hpost, hstep₁ _ fun acts => by rw [doInvoke_state]; exact hsteps⟩
theorem vx_callSX (X : Stand p l e R s m args below meth c T locs cells slots) (hexec : p.tables.exec = Jvm.exec) {own : String} {index : Nat} {y : MethodName} {bytes : ByteArray} {maxL : Nat} {ret : Option FieldType} {hh : List (Nat × Nat × Nat × Nat)}
    (hown : s.vm.findClass own = some m.cls) (hlink : (Cond.methodLink own index y).before args s = true) (hstat : (Cond.static y).before args s = true) (hinit : (Cond.initialized y.cls).before args s = true)
    (hcode : (Cond.codeWith y bytes maxL ret hh).before args s = true) (hy : y.cls ≠ "java/lang/invoke/MethodHandle" ∧ y.cls ≠ "java/lang/invoke/VarHandle")
    {W9 : Nat} {Pre : Pt → Array Value → Prop} {Post : Pt → Array Value → Option Value → Pt → Prop} {PostX : Pt → Array Value → Addr → Pt → Prop} (hK : vx_Back l R p e below s args y 3 W9 Pre Post PostX)
    {g : JFrame} (hg : g.method = m) (hsize : g.locals.size = c.maxLocals) {argsL rest : List Value} (hlen : ∀ sig, parseMethodDescriptor y.desc = some sig → argsL.length = sig.parameters.length)
    (hstack : g.stack = argsL.reverse ++ rest) (hW : 2 * g.monitorRoom + (rest.map fun v => v.category).sum ≤ W9) (hdg : decode c.code g.pc = .ok (.invokestatic index, 3))
    (hpre : ∀ vm₁, s.WarmedH vm₁ → Pre ⟨T.setVm vm₁, locs, cells, slots⟩ argsL.toArray) :
    (∃ (v : Option Value) (vm₁ : Vm) (B : Pt), s.WarmedH vm₁ ∧ Stand p l e R s m args below meth c B.U B.locs B.cells B.slots ∧ Post ⟨T.setVm vm₁, locs, cells, slots⟩ argsL.toArray v B ∧
      ∀ target, Steps p.tables e below (B.U.setTop { g with pc := g.pc + 3, stack := v.toList ++ rest }) target → Steps p.tables e below (T.setTop g) target) ∨
    (∃ (q : Addr) (vm₁ : Vm) (B : Pt), s.WarmedH vm₁ ∧ Stand p l e R s m args below meth c B.U B.locs B.cells B.slots ∧ PostX ⟨T.setVm vm₁, locs, cells, slots⟩ argsL.toArray q B ∧
      Steps p.tables e below (T.setTop g) ((B.U.setTop { g with stack := rest }).pushFrame (.throwing q))) := by
  obtain ⟨mk, methM, cM, hnamed, hmethM, -, -, -, -, -, -, hsigM⟩ := Cond.codeWith_spec hcode
  have hstatic : methM.isStatic = true := Cond.static_spec hnamed hmethM hstat
  obtain ⟨kP, hkP, -⟩ := className_of_methodNamed hnamed
  have hinitP : kP.init = .initialized := Cond.initialized_spec (findClass_of_methodNamed hnamed) hkP hinit
  obtain ⟨vm₁, X₁, hstep₁⟩ := X.invokestatic hexec hown hlink hnamed hmethM hstatic hkP hinitP hy (g := g) hg (argsL := argsL) (rest := rest) (hlen _ hsigM) hstack hdg
  rcases hK m meth c ⟨T.setVm vm₁, locs, cells, slots⟩ { g with stack := rest } (.invokestatic index) mk argsL.toArray X₁ hg hsize hdg hW (X₁.named hnamed) (hpre vm₁ X₁.warmed) with ⟨v, B, X', hpost, hsteps⟩ | ⟨q, B, X', hpost, hsteps⟩
  · exact Or.inl ⟨v, vm₁, B, X₁.warmed, X', hpost, fun target h => hstep₁ _ fun acts => by rw [doInvoke_state]; exact hsteps.trans h⟩
  · exact Or.inr ⟨q, vm₁, B, X₁.warmed, X', hpost, hstep₁ _ fun acts => by rw [doInvoke_state]; exact hsteps⟩
theorem vx_callVW (X : Stand p l e R s m args below meth c T locs cells slots) (hexec : p.tables.exec = Jvm.exec) {own C : String} {index : Nat} {y : MethodName} {bytes : ByteArray} {maxL : Nat} {ret : Option FieldType} {hh : List (Nat × Nat × Nat × Nat)}
    (hown : s.vm.findClass own = some m.cls) (hlink : (Cond.methodLink own index y).before args s = true) (hinst : (Cond.instanceMethod y).before args s = true) (hsel : (Cond.selects C y y).before args s = true)
    (hcode : (Cond.codeWith y bytes maxL ret hh).before args s = true) (hy : y.cls ≠ "java/lang/invoke/MethodHandle" ∧ y.cls ≠ "java/lang/invoke/VarHandle")
    {W9 : Nat} {Pre : Pt → Array Value → Prop} {Post : Pt → Array Value → Option Value → Pt → Prop} (hK : Back l R p e below s args y 3 W9 Pre Post)
    {b : Addr} {cellB : Cell} (hcell : T.heap[b]? = some cellB) (hobj : cellB.vm.isStatics = false) (hcls : s.vm.findClass C = some cellB.cls)
    {g : JFrame} (hg : g.method = m) (hsize : g.locals.size = c.maxLocals) {argsL rest : List Value} (hlen : ∀ sig, parseMethodDescriptor y.desc = some sig → argsL.length = sig.parameters.length)
    (hstack : g.stack = argsL.reverse ++ .ref b :: rest) (hW : 2 * g.monitorRoom + (rest.map fun v => v.category).sum ≤ W9) (hdg : decode c.code g.pc = .ok (.invokevirtual index, 3))
    (hpre : ∀ vm₁, s.WarmedH vm₁ → Pre ⟨T.setVm vm₁, locs, cells, slots⟩ (Value.ref b :: argsL).toArray) :
    ∃ (v : Option Value) (vm₁ : Vm) (B : Pt), s.WarmedH vm₁ ∧ Stand p l e R s m args below meth c B.U B.locs B.cells B.slots ∧ Post ⟨T.setVm vm₁, locs, cells, slots⟩ (Value.ref b :: argsL).toArray v B ∧
      ∀ target, Steps p.tables e below (B.U.setTop { g with pc := g.pc + 3, stack := v.toList ++ rest }) target → Steps p.tables e below (T.setTop g) target := by
  obtain ⟨mk, methM, hnamed, hmethM, hstM, habM⟩ := Cond.instanceMethod_spec hinst
  obtain ⟨m8, methM', cM, hn8, hmethM', -, -, -, -, -, -, hsigM⟩ := Cond.codeWith_spec hcode
  cases Option.some.inj (hn8.symm.trans hnamed)
  cases hmethM.symm.trans hmethM'
  obtain ⟨c2, r2, m2, q1, q2, q3, q4, kP, hkP, hkPi⟩ := Cond.selects_spec hsel
  cases hcls.symm.trans q1
  cases (State.methodFound?_of_named hnamed hy).symm.trans q2
  cases hnamed.symm.trans q3
  have hselP : selectMethod e.platform s.vm cellB.cls mk = .method mk := by rw [Launch.admits_selectMethod X.admits]; exact q4
  obtain ⟨vm₁, X₁, hstep₁⟩ := X.invokevirtual hexec hown hlink hnamed hmethM hstM hkP hkPi hy (a := b) (cell := cellB) hcell
    (fun z h => by rw [h] at hobj; cases hobj) hselP hmethM habM hkP hkPi (g := g) hg (argsL := argsL) (rest := rest) (hlen _ hsigM) hstack hdg
  obtain ⟨v, B, X', hpost, hsteps⟩ := hK m meth c ⟨T.setVm vm₁, locs, cells, slots⟩ { g with stack := rest } (.invokevirtual index) mk (Value.ref b :: argsL).toArray X₁ hg hsize hdg hW (X₁.named hnamed) (hpre vm₁ X₁.warmed)
  exact ⟨v, vm₁, B, X₁.warmed, X', hpost, fun target h => hstep₁ _ fun acts => by rw [doInvoke_state]; exact hsteps.trans h⟩
abbrev vx_CVW (R : Room) (s : State) (args : Array Value) (own C : String) (index : Nat) (y : MethodName) (bytes : ByteArray) (maxL : Nat) (ret : Option FieldType) (hh : List (Nat × Nat × Nat × Nat)) (ws : List Cond) (rm : Room) (mc ms n : Nat) : Prop :=
  (rm.cells = mc ∧ rm.slots = ms ∧ rm.frames + 1 ≤ R.frames ∧ 8 + (maxL + 11) + rm.locals ≤ R.locals ∧ (∀ w ∈ ws, ∀ (a' : Array Value) (U : State), s.WarmedH U.vm → w.before a' U = true) ∧ Cond.codeWith y bytes maxL ret hh ∈ ws) ∧
  (Cond.codeWith y bytes maxL ret hh).before args s = true ∧ (Cond.initialized y.cls).before args s = true ∧ (y.cls ≠ "java/lang/invoke/MethodHandle" ∧ y.cls ≠ "java/lang/invoke/VarHandle") ∧
  (∀ sig, parseMethodDescriptor y.desc = some sig → n = sig.parameters.length) ∧ (Cond.methodLink own index y).before args s = true ∧ (Cond.instanceMethod y).before args s = true ∧ (Cond.selects C y y).before args s = true
theorem vx_cwVW {own C : String} {index maxL mc ms : Nat} {y : MethodName} {bytes : ByteArray} {ret : Option FieldType} {hh : List (Nat × Nat × Nat × Nat)} {Ts ws ws' : List Cond} {rm : Room} (n : Nat) (ht : ∀ w ∈ Ts, w.before args s = true) (hT : GoodIn Ts (wsV own index C y ws)) (hw : ws = Cond.codeWith y bytes maxL ret hh :: ws') (hrc : rm.cells = mc) (hrs : rm.slots = ms)
    (hd : y.cls = C ∧ y.cls ≠ "java/lang/invoke/MethodHandle" ∧ y.cls ≠ "java/lang/invoke/VarHandle" ∧ (parseMethodDescriptor y.desc).map (fun d => d.parameters.length) = some n) (hR : rm.frames + 1 ≤ R.frames ∧ 8 + (maxL + 11) + rm.locals ≤ R.locals) :
    vx_CVW R s args own C index y bytes maxL ret hh ws rm mc ms n := by
  obtain ⟨hC, hd⟩ := hd
  subst hC
  have ok : ∀ w ∈ wsV own index y.cls y ws, w.before args s = true := fun w h => ht w (hT w h).1
  have hG : GoodIn Ts ws := fun w h => hT w (by unfold wsV; exact List.mem_append_right _ h)
  have hc : Cond.codeWith y bytes maxL ret hh ∈ ws := by rw [hw]; exact List.mem_cons_self
  refine ⟨⟨hrc, hrs, hR.1, hR.2, pay_in ht hG, hc⟩, ht _ (hG _ hc).1, ok _ (by simp [wsV]), ⟨hd.1, hd.2.1⟩, fun sig h => ?_, ok _ (by simp [wsV]), ok _ (by simp [wsV]), ok _ (by simp [wsV])⟩
  have h2 := hd.2.2
  rw [h] at h2
  exact (Option.some.inj h2).symm
theorem vx_runVW {y : MethodName} {bytes cc : ByteArray} {maxL nL mc ms n index : Nat} {ret : Option FieldType} {hh : List (Nat × Nat × Nat × Nat)} {ws : List Cond} {rm : Room} {Pc : Array Value → State → Prop} {Qc : Array Value → State → Outcome → State → Prop} {free : Addr → Prop} {Ts : List Cond} {own C : String} {b : Addr} {As rest : List Value} {g : JFrame}
    (S : CallFix p m c cc nL s args Ts own) (hM : Met l y ws rm Pc Qc mc ms free) (cw : vx_CVW R s args own C index y bytes maxL ret hh ws rm mc ms n) (hp : PreV s H C b Pc As)
    (hg : g.method = m) (hn : As.length = n) (hsize : g.locals.size = nL) (hstack : g.stack = As.reverse ++ .ref b :: rest) (hW : 2 * g.monitorRoom + (rest.map fun v => v.category).sum ≤ 8) (hdg : decode cc g.pc = .ok (.invokevirtual index, 3)) (hf : cells + mc ≤ R.cells ∧ slots + ms ≤ R.slots) :
    va_Run p l e R s m args below meth c H locs cells slots mc ms g rest (Qc (Value.ref b :: As).toArray) free := by
  obtain ⟨⟨hrc, hrs, hfr, hlo, hws, hcw⟩, hcode, hini, hy, hlen, hl, hin, hse⟩ := cw
  have hK : Back l R p e below s args y 3 8 (PreOf R mc ms Pc) (PostOf Qc mc ms free) := va_backW (hh := hh) (bytes := bytes) (maxL := maxL) (ret := ret) hM hp.1 hrc hrs hfr hlo hws hcw (fun a' U hW => word_at hW (Or.inl (by first | rfl | simp [Cond.onTables, Cond.keeps, Cond.steady])) hini)
  obtain ⟨hx, hb, hml, ho, -⟩ := S
  obtain ⟨-, ⟨cellB, hcB, hoB, hclB⟩, hPc⟩ := hp
  intro T hT X
  obtain ⟨v, vm₁, ⟨U', l2, c2, s2⟩, hW₁, X', ⟨g', mk, t, L, e1, e2, hq, h1, hL, h2, h3⟩, st⟩ := vx_callVW X hx (C := C) (hh := hh) (bytes := bytes) (maxL := maxL) (ret := ret) ho hl hin hse hcode hy hK (by rw [hT]; exact hcB) hoB hclB hg (hsize.trans hml.symm) (argsL := As) (rest := rest) (fun sig h => hn.trans (hlen sig h)) hstack hW (by rw [hb]; exact hdg)
    (fun vm₁ hW₁ => ⟨hf.1, hf.2, hPc (T.setVm vm₁) hT hW₁⟩)
  dsimp only [Pt.U, Pt.locs, Pt.cells, Pt.slots] at X' e1 e2 h1 h2 h3 st
  subst h1; subst h2; subst h3
  exact ⟨v, (T.setVm vm₁).calling g' mk (Value.ref b :: As).toArray, t, U', L, hT, X', hL, e1, e2, hq, st⟩
section
variable {y : MethodName} {bytes cc : ByteArray} {maxL nL mc ms n index : Nat} {ret : Option FieldType} {ws : List Cond} {rm : Room} {Pc : Array Value → State → Prop} {Qc : Array Value → State → Outcome → State → Prop} {XC : String → State → State → Prop} {free : Addr → Prop} {Ts : List Cond} {own C : String} {b : Addr} {As rest : List Value} {g : JFrame}
theorem vx_runVX {hh : List (Nat × Nat × Nat × Nat)} (S : CallFix p m c cc nL s args Ts own) (hM : vx_Met l y ws rm Pc Qc XC mc ms free) (cw : vx_CVW R s args own C index y bytes maxL ret hh ws rm mc ms n) (hp : PreV s H C b Pc As)
    (hg : g.method = m) (hn : As.length = n) (hsize : g.locals.size = nL) (hstack : g.stack = As.reverse ++ .ref b :: rest) (hW : 2 * g.monitorRoom + (rest.map fun v => v.category).sum ≤ 8) (hdg : decode cc g.pc = .ok (.invokevirtual index, 3)) (hf : cells + mc ≤ R.cells ∧ slots + ms ≤ R.slots) :
    vx_Run p l e R s m args below meth c H locs cells slots mc ms g rest (Qc (Value.ref b :: As).toArray) XC free := by
  obtain ⟨⟨hrc, hrs, hfr, hlo, hws, hcw⟩, hcode, hini, hy, hlen, hl, hin, hse⟩ := cw
  have hK : vx_Back l R p e below s args y 3 8 (PreOf R mc ms Pc) (PostOf Qc mc ms free) (vx_Post XC mc ms free) := vx_backW (hh := hh) (bytes := bytes) (maxL := maxL) (ret := ret) hM hp.1 hrc hrs hfr hlo hws hcw (fun a' U hW => word_at hW (Or.inl (by first | rfl | simp [Cond.onTables, Cond.keeps, Cond.steady])) hini)
  obtain ⟨hx, hb, hml, ho, -⟩ := S
  obtain ⟨-, ⟨cellB, hcB, hoB, hclB⟩, hPc⟩ := hp
  intro T hT X
  rcases vx_callVX X hx (C := C) (hh := hh) (bytes := bytes) (maxL := maxL) (ret := ret) ho hl hin hse hcode hy hK (by rw [hT]; exact hcB) hoB hclB hg (hsize.trans hml.symm) (argsL := As) (rest := rest) (fun sig h => hn.trans (hlen sig h)) hstack hW (by rw [hb]; exact hdg)
    (fun vm₁ hW₁ => ⟨hf.1, hf.2, hPc (T.setVm vm₁) hT hW₁⟩) with ⟨v, vm₁, ⟨U', l2, c2, s2⟩, hW₁, X', ⟨g', mk, t, L, e1, e2, hq, h1, hL, h2, h3⟩, st⟩ | ⟨q, vm₁, ⟨U', l2, c2, s2⟩, hW₁, X', ⟨g', mk, t, L, E, ce, e1, e2, hq, hce, hcv, hcl, h1, hL, h2, h3⟩, st⟩
  · dsimp only [Pt.U, Pt.locs, Pt.cells, Pt.slots] at X' e1 e2 h1 h2 h3 st
    subst h1; subst h2; subst h3
    exact Or.inl ⟨v, (T.setVm vm₁).calling g' mk (Value.ref b :: As).toArray, t, U', L, hT, X', hL, e1, e2, hq, st⟩
  · dsimp only [Pt.U, Pt.locs, Pt.cells, Pt.slots] at X' e1 e2 h1 h2 h3 st hcl
    subst h1; subst h2; subst h3
    exact Or.inr ⟨q, (T.setVm vm₁).calling g' mk (Value.ref b :: As).toArray, t, U', L, E, ce, hT, X', hL, e1, e2, hq, hce, hcv, vx_cls hW₁ hcl, st⟩
theorem vx_runSX {hh : List (Nat × Nat × Nat × Nat)} (S : CallFix p m c cc nL s args Ts own) (hM : vx_Met l y ws rm Pc Qc XC mc ms free) (cw : vx_CSW R s args own index y bytes maxL ret hh ws rm mc ms n) (hp : PreS s H Pc As)
    (hg : g.method = m) (hn : As.length = n) (hsize : g.locals.size = nL) (hstack : g.stack = As.reverse ++ rest) (hW : 2 * g.monitorRoom + (rest.map fun v => v.category).sum ≤ 8) (hdg : decode cc g.pc = .ok (.invokestatic index, 3)) (hf : cells + mc ≤ R.cells ∧ slots + ms ≤ R.slots) :
    vx_Run p l e R s m args below meth c H locs cells slots mc ms g rest (Qc As.toArray) XC free := by
  obtain ⟨⟨hrc, hrs, hfr, hlo, hws, hcw⟩, hcode, hini, hy, hlen, hl, hstt⟩ := cw
  have hK : vx_Back l R p e below s args y 3 8 (PreOf R mc ms Pc) (PostOf Qc mc ms free) (vx_Post XC mc ms free) := vx_backW (hh := hh) (bytes := bytes) (maxL := maxL) (ret := ret) hM hp.1 hrc hrs hfr hlo hws hcw (fun a' U hW => word_at hW (Or.inl (by first | rfl | simp [Cond.onTables, Cond.keeps, Cond.steady])) hini)
  obtain ⟨hx, hb, hml, ho, -⟩ := S
  intro T hT X
  rcases vx_callSX X hx (hh := hh) (bytes := bytes) (maxL := maxL) (ret := ret) ho hl hstt hini hcode hy hK hg (hsize.trans hml.symm) (argsL := As) (rest := rest) (fun sig h => hn.trans (hlen sig h)) hstack hW (by rw [hb]; exact hdg)
    (fun vm₁ hW₁ => ⟨hf.1, hf.2, hp.2 (T.setVm vm₁) hT hW₁⟩) with ⟨v, vm₁, ⟨U', l2, c2, s2⟩, hW₁, X', ⟨g', mk, t, L, e1, e2, hq, h1, hL, h2, h3⟩, st⟩ | ⟨q, vm₁, ⟨U', l2, c2, s2⟩, hW₁, X', ⟨g', mk, t, L, E, ce, e1, e2, hq, hce, hcv, hcl, h1, hL, h2, h3⟩, st⟩
  · dsimp only [Pt.U, Pt.locs, Pt.cells, Pt.slots] at X' e1 e2 h1 h2 h3 st
    subst h1; subst h2; subst h3
    exact Or.inl ⟨v, (T.setVm vm₁).calling g' mk As.toArray, t, U', L, hT, X', hL, e1, e2, hq, st⟩
  · dsimp only [Pt.U, Pt.locs, Pt.cells, Pt.slots] at X' e1 e2 h1 h2 h3 st hcl
    subst h1; subst h2; subst h3
    exact Or.inr ⟨q, (T.setVm vm₁).calling g' mk As.toArray, t, U', L, E, ce, hT, X', hL, e1, e2, hq, hce, hcv, vx_cls hW₁ hcl, st⟩
end
end VXH
theorem vx_ofWH {l : Launch} {y : MethodName} {ws ws' : List Cond} {rm : Room} {Pc : Array Value → State → Prop} {Qc : Array Value → State → Outcome → State → Prop} {XC : String → State → State → Prop} {mc ms : Nat} {free : Addr → Prop} {cc : ByteArray} {maxL : Nat} {ret : Option FieldType} {hh : List (Nat × Nat × Nat × Nat)}
    (hy : plainName y.cls = true) (hw : ws = Cond.codeWith y cc maxL ret hh :: ws')
    (body : ∀ p e s m args below meth c s₁, BodyLoose p l y (headSpec ws rm) cc maxL ret e s m args below meth c s₁ → c.maxLocals = maxL → Pc args s →
      W p l e (headSpec ws rm).room s m args below meth c s.heap [] 0 0 (vx_MQ below Qc XC args s mc ms free) (entryFrame m args maxL)) : vx_Met l y ws rm Pc Qc XC mc ms free := by
  refine MetFree.of_bodyS (code := cc) (maxLocals := maxL) (ret := ret) hy ?_ ?_
  · intro args s m h hn
    obtain ⟨m9, meth, c, hn9, h1, h2, h3, h4, -, h5, h6, -⟩ := Cond.codeWith_spec (atoms_spec (ws := ws) h _ (by rw [hw]; exact List.mem_cons_self))
    cases hn.symm.trans hn9
    exact ⟨meth, c, h1, h2, h3, h4, h5, h6⟩
  · intro p e s m args below meth c s₁ B hml hP _
    have hh0 : s₁.heap = s.heap := by rw [B.state]; rfl
    obtain ⟨t, a1, o, b1, b2, b3⟩ := body p e s m args below meth c s₁ B hml hP s₁ hh0 (Stand.of_body B)
    exact ⟨t, o, a1, b1, b2, b3⟩
end
section
/-! ===== BEGIN new T[n][m]: the outer array a place, the inner ones among the pooled ===== -/
/-- f, but v at every address of l -/
def vr_up {α : Type} (f : Nat → α) (l : List Nat) (v : α) : Nat → α := fun a => if a ∈ l then v else f a
theorem vr_up_in {α : Type} {f : Nat → α} {l : List Nat} {v : α} {a : Nat} (h : a ∈ l) : vr_up f l v a = v := if_pos h
theorem vr_up_ne {α : Type} {f : Nat → α} {l : List Nat} {v : α} {a : Nat} (h : a ∉ l) : vr_up f l v a = f a := if_neg h
theorem vr_rows {L l : List Nat} {f : Nat → va_E} {e : va_E} (h : ∀ a, a ∈ l → a ∉ L) : va_pl L f ++ l.map (fun a => (a, e)) = va_pl (L ++ l) (vr_up f l e) := by
  unfold va_pl
  rw [List.map_append]
  congr 1
  · apply List.map_congr_left
    intro a ha
    rw [vr_up_ne (fun q => h a q ha)]
  · apply List.map_congr_left
    intro a ha
    rw [vr_up_in ha]
theorem vr_lay {X rows : va_W} {x : Nat × va_E} {pl : va_W} {D : va_G} {cl : List vw_C} {H : Heap} (hP : va_P D cl (((X ++ pl) ++ [x]) ++ rows) H) : va_P D cl ((X ++ [x]) ++ (pl ++ rows)) H := by
  rw [List.append_assoc (X ++ pl)] at hP
  have h := va_P.swap hP
  rw [← List.append_assoc X] at h
  have h2 := va_P.swap h
  rw [List.append_assoc (X ++ [x])] at h2
  exact h2
theorem vr_layD {X rows : va_W} {x : Nat × va_E} {pl : va_W} {A : Nat → Prop} (hD : va_D A (((X ++ pl) ++ [x]) ++ rows)) : va_D A ((X ++ [x]) ++ (pl ++ rows)) := by
  rw [List.append_assoc (X ++ pl)] at hD
  have h := va_D.swap hD
  rw [← List.append_assoc X] at h
  have h2 := va_D.swap h
  rw [List.append_assoc (X ++ [x])] at h2
  exact h2
theorem vr_outer (c : ClassId) (N h0 : Nat) : ∀ i : Nat, Jvm.Free.Multi.outerC c N h0 i = arrV c N (fun j => va_rf (if j < i then some (h0 + 1 + j) else none))
  | 0 => by
    show ({ cls := c, slots := Array.replicate N .null, vm := .none } : Cell) = _
    rw [arrV_new]
    refine congrArg (arrV c N) (funext fun j => ?_)
    simp [va_rf]
  | i + 1 => by
    show (Jvm.Free.Multi.outerC c N h0 i).setSlot i (.ref (h0 + 1 + i)) = _
    rw [vr_outer c N h0 i, arrV_store]
    refine congrArg (arrV c N) (funext fun j => ?_)
    by_cases e : j = i
    · subst e
      simp [updV, va_rf]
    · by_cases h : j < i
      · simp [updV, e, h, Nat.lt_succ_of_lt h]
      · simp [updV, e, h, show ¬ j < i + 1 by omega]
section VGM
variable {p : Program} {l : Launch} {e : Env} {R : Room} {s : State} {m : MethodId} {args : Array Value} {below : List Frame} {meth : Method} {c : Code} {H : Heap} {locs : List Loc} {cells slots : Nat} {Q : State → Prop}
variable {cc : ByteArray} {pc : Nat} {ls : Array Slot} {rest : List Value} {D : va_G} {cl : List vw_C} {A : Nat → Prop} {a : Nat} {tys : List (ClassId × FieldType)} {ws : va_W} {H0 : Heap}
theorem va_mna {X : va_W} {L : List Nat} {f : Nat → va_E} {cc : ByteArray} (hexec : p.tables.exec = Jvm.exec) (hb : c.code = cc) {own : String} {index : Nat} {ty : FieldType} {cy : ClassId} (hown : s.vm.findClass own = some m.cls) (hclink : (Cond.classLink own index ("[" ++ (FieldType.array ty).toString)).before args s = true) (hover : (Cond.arrayOver (.array ty)).before args s = true) (harr : (Cond.arrayClass ty).before args s = true) (hcy : s.vm.findClass (FieldType.array ty).toString = some cy)
    (hK : va_K D cl tys s) (hP : va_P D cl (X ++ va_pl L f) H) (hD : va_D A (X ++ va_pl L f)) (hS : va_S A H0 H locs) (hA : ∀ q, H0.size ≤ q → A q) {n k : Int32} {N' K' : Nat} {z : vp_A} (hn : ¬ n < 0) (hk : ¬ k < 0) (hN : n.toNatClampNeg = N') (hM : k.toNatClampNeg = K')
    (hb1 : N' * 4 ≤ 536870912) (hb2 : K' * componentBytes ty ≤ 536870912) (hb3 : K' ≤ 536870912) (hdf : fits ty (defaultValue ty) = true) (hdd : (defaultValue ty).isDefault = true) (hcells : cells + (1 + N') ≤ R.cells) (hslots : slots + (N' + N' * K') ≤ R.slots) (hz : ∀ c : ClassId, Jvm.Free.Multi.innerC c K' (defaultValue ty) = vp_cell c z) (hdg : decode cc pc = .ok (.multianewarray index 2, 4))
    (kk : ∀ (q : Nat) (r : Nat → Nat) (cA : ClassId) (H1 : Heap), (∀ i j : Nat, i < N' → j < N' → r i = r j → i = j) → (∀ i : Nat, i < N' → r i ∉ L) → va_K D cl (tys ++ [(cA, .array ty)]) s →
      va_P D cl ((X ++ [(q, .inl (cA, N', .inr (.inr (.inr (.inr (fun i => if i < N' then some (r i) else none))))))]) ++ va_pl (L ++ (List.range N').map r) (vr_up f ((List.range N').map r) (.inl (cy, z)))) H1 → va_D A ((X ++ [(q, .inl (cA, N', .inr (.inr (.inr (.inr (fun i => if i < N' then some (r i) else none))))))]) ++ va_pl (L ++ (List.range N').map r) (vr_up f ((List.range N').map r) (.inl (cy, z)))) → va_S A H0 H1 locs →
      W p l e R s m args below meth c H1 locs (cells + 1 + N') (slots + N' + N' * K') Q (F0 m (pc + 4) ls (.ref q :: rest))) : W p l e R s m args below meth c H locs cells slots Q (F0 m pc ls (.int k :: .int n :: rest)) := by
  subst hN
  subst hM
  intro T hT Xs
  obtain ⟨vm₁, cA, comp, -, fA, fC, hO, -, X', step⟩ := Xs.multianewarray2F hexec hown hclink hover harr (g := F0 m pc ls (.int k :: .int n :: rest)) rfl (by rw [hb]; exact hdg) rfl hn hk hb1 hb2 hb3 hdf hdd hcells hslots
  have ec : some cy = some comp := hcy.symm.trans fC
  cases ec
  generalize hF : Jvm.Free.Multi.fill (T.setVm vm₁) cA cy n.toNatClampNeg k.toNatClampNeg (defaultValue ty) n.toNatClampNeg = F at X' step
  have hTh : (T.setVm vm₁).heap = H := hT
  obtain ⟨f1, f2, -, -⟩ := Jvm.Free.Multi.fill_facts (T.setVm vm₁) cA cy n.toNatClampNeg k.toNatClampNeg (defaultValue ty) n.toNatClampNeg
  rw [hF, hTh] at f1 f2
  have hold : ∀ x : Nat, x < H.size → F.heap[x]? = H[x]? := fun x hx => by
    have := Jvm.Free.Multi.fill_old (T.setVm vm₁) cA cy n.toNatClampNeg k.toNatClampNeg (defaultValue ty) (a := x) (by rw [hTh]; exact hx) n.toNatClampNeg
    rw [hF, hTh] at this
    exact this
  have hrow : ∀ j : Nat, j < n.toNatClampNeg → F.heap[H.size + 1 + j]? = some (vp_cell cy z) := fun j hj => by
    have := Jvm.Free.Multi.fill_inner (T.setVm vm₁) cA cy n.toNatClampNeg k.toNatClampNeg (defaultValue ty) n.toNatClampNeg j hj
    rw [hF, hTh, hz] at this
    exact this
  have hout : Jvm.Free.Multi.outerC cA n.toNatClampNeg H.size n.toNatClampNeg = vp_cell cA (n.toNatClampNeg, .inr (.inr (.inr (.inr (fun i => if i < n.toNatClampNeg then some (H.size + 1 + i) else none))))) := by
    rw [vp_cell_q]
    exact vr_outer cA n.toNatClampNeg H.size n.toNatClampNeg
  rw [hout] at f2
  have hlt : ∀ a, a ∈ L → a < H.size := fun a ha => by
    obtain ⟨k9, hk9⟩ := va_pl_get (X := X) (f := f) ha
    exact (hP k9 _ hk9).lt
  have hnl : ∀ i : Nat, i < n.toNatClampNeg → H.size + 1 + i ∉ L := fun i _ h => by
    have := hlt _ h
    omega
  have hnm : ∀ a, a ∈ (List.range n.toNatClampNeg).map (fun i => H.size + 1 + i) → a ∉ L := fun a ha h => by
    obtain ⟨i, -, rfl⟩ := List.mem_map.mp ha
    have := hlt _ h
    omega
  have hP0 : va_P D cl (X ++ va_pl L f) F.heap := hP.kept (fun k9 x hx => hold x.1 ((hP k9 x hx).lt))
  have hP1 : va_P D cl ((X ++ va_pl L f) ++ [(H.size, .inl (cA, n.toNatClampNeg, .inr (.inr (.inr (.inr (fun i => if i < n.toNatClampNeg then some (H.size + 1 + i) else none))))))]) F.heap := hP0.app (fun k9 x hx => by
    have h0 : k9 < 1 := (List.getElem?_eq_some_iff.mp hx).1
    rw [show k9 = 0 by omega] at hx
    cases hx
    exact f2)
  have hP2 : va_P D cl (((X ++ va_pl L f) ++ [(H.size, .inl (cA, n.toNatClampNeg, .inr (.inr (.inr (.inr (fun i => if i < n.toNatClampNeg then some (H.size + 1 + i) else none))))))]) ++ ((List.range n.toNatClampNeg).map (fun i => H.size + 1 + i)).map (fun a => (a, .inl (cy, z)))) F.heap := hP1.app (fun k9 x hx => by
    obtain ⟨a, ha, rfl⟩ := List.mem_map.mp (List.mem_of_getElem? hx)
    obtain ⟨i, hi, rfl⟩ := List.mem_map.mp ha
    exact hrow i (List.mem_range.mp hi))
  have hD2 : va_D A (((X ++ va_pl L f) ++ [(H.size, .inl (cA, n.toNatClampNeg, .inr (.inr (.inr (.inr (fun i => if i < n.toNatClampNeg then some (H.size + 1 + i) else none))))))]) ++ ((List.range n.toNatClampNeg).map (fun i => H.size + 1 + i)).map (fun a => (a, .inl (cy, z)))) := by
    have hD1 := hD.push (e := .inl (cA, n.toNatClampNeg, .inr (.inr (.inr (.inr (fun i => if i < n.toNatClampNeg then some (H.size + 1 + i) else none)))))) hP rfl (hA _ hS.1)
    generalize hW1 : (X ++ va_pl L f) ++ [(H.size, .inl (cA, n.toNatClampNeg, .inr (.inr (.inr (.inr (fun i => if i < n.toNatClampNeg then some (H.size + 1 + i) else none))))))] = W1 at hD1 hP1 ⊢
    have hle : ∀ (k9 : Nat) (x : Nat × va_E), W1[k9]? = some x → x.1 ≤ H.size := fun k9 x hx => by
      rw [← hW1] at hx
      by_cases hl : k9 < (X ++ va_pl L f).length
      · rw [List.getElem?_append_left hl] at hx
        exact Nat.le_of_lt ((hP k9 x hx).lt)
      · rw [List.getElem?_append_right (by omega)] at hx
        have h0 : k9 - (X ++ va_pl L f).length < 1 := (List.getElem?_eq_some_iff.mp hx).1
        rw [show k9 - (X ++ va_pl L f).length = 0 by omega] at hx
        cases hx
        exact Nat.le_refl _
    have hr : ∀ (k9 : Nat) (x : Nat × va_E), (((List.range n.toNatClampNeg).map (fun i => H.size + 1 + i)).map (fun a => ((a, .inl (cy, z)) : Nat × va_E)))[k9]? = some x → x.1 = H.size + 1 + k9 := fun k9 x hx => by
      rw [List.getElem?_map, List.getElem?_map] at hx
      by_cases h9 : k9 < n.toNatClampNeg
      · rw [List.getElem?_range h9] at hx
        cases hx
        rfl
      · have hn0 : (List.range n.toNatClampNeg)[k9]? = none := List.getElem?_eq_none (by rw [List.length_range]; omega)
        rw [hn0] at hx
        cases hx
    refine ⟨fun i j x y hi hj hxy => ?_, fun k9 x hx => ?_⟩
    · by_cases h1 : i < W1.length <;> by_cases h2 : j < W1.length
      · rw [List.getElem?_append_left h1] at hi
        rw [List.getElem?_append_left h2] at hj
        exact hD1.1 i j x y hi hj hxy
      · rw [List.getElem?_append_left h1] at hi
        rw [List.getElem?_append_right (by omega)] at hj
        have := hle _ _ hi
        have := hr _ _ hj
        omega
      · rw [List.getElem?_append_right (by omega)] at hi
        rw [List.getElem?_append_left h2] at hj
        have := hle _ _ hj
        have := hr _ _ hi
        omega
      · rw [List.getElem?_append_right (by omega)] at hi hj
        have := hr _ _ hi
        have := hr _ _ hj
        omega
    · by_cases h1 : k9 < W1.length
      · rw [List.getElem?_append_left h1] at hx
        exact hD1.2 k9 x hx
      · rw [List.getElem?_append_right (by omega)] at hx
        have := hr _ _ hx
        exact hA _ (by have := hS.1; omega)
  have hAr : ArrOfT s cA (.array ty) := fun N9 z9 => by
    obtain ⟨-, k9, hk9, cm9, hkk9⟩ := (hO 0 0 0).1
    exact ⟨(fun q hq => by cases hq), k9, hk9, cm9, hkk9⟩
  have hK2 : va_K D cl (tys ++ [(cA, .array ty)]) s := ⟨hK.1, fun k9 x hx => by
    by_cases hl : k9 < tys.length
    · rw [List.getElem?_append_left hl] at hx
      exact hK.2 k9 x hx
    · rw [List.getElem?_append_right (by omega)] at hx
      have h0 : k9 - tys.length < 1 := (List.getElem?_eq_some_iff.mp hx).1
      rw [show k9 - tys.length = 0 by omega] at hx
      cases hx
      exact ⟨hAr, fA⟩⟩
  obtain ⟨t, a1, b1⟩ := kk H.size (fun i => H.size + 1 + i) cA F.heap (fun i j _ _ h => by have h9 : H.size + 1 + i = H.size + 1 + j := h; omega) hnl hK2 (by rw [← vr_rows hnm]; exact vr_lay hP2) (by rw [← vr_rows hnm]; exact vr_layD hD2) ⟨by rw [f1]; have := hS.1; omega, fun x h1 h2 => (hold x (Nat.lt_of_lt_of_le h1 hS.1)).trans (hS.2.1 x h1 h2), hS.2.2⟩ F rfl X'
  refine ⟨t, step t ?_, b1⟩
  have e : T.heap.size = H.size := by rw [hT]
  rw [e]
  exact a1
end VGM
/-! ===== END ===== -/
end
section
def RX0 : String := "RagVats$Mill"
def TX0 : u_T := fun k => match k with
  | 0 => ("RagVats$Mill", "day", "I", false)
  | 1 => ("RagVats$Mill", "coins", "I", false)
  | 2 => ("RagVats$Mill", "felts", "I", false)
  | 3 => ("RagVats$Mill", "made", "I", false)
  | 4 => ("RagVats$Mill", "worth", "I", false)
  | 5 => ("RagVats$Mill", "rags", "[I", true)
  | 6 => ("RagVats$Mill", "water", "[I", true)
  | 7 => ("RagVats$Mill", "vats", "LRagVats$Vats;", true)
  | 8 => ("RagVats$Mill", "moulds", "LRagVats$Moulds;", true)
  | 9 => ("RagVats$Mill", "teams", "LRagVats$Teams;", true)
  | 10 => ("RagVats$Mill", "posts", "LRagVats$Posts;", true)
  | _ => ("RagVats$Mill", "loft", "[I", true)
def tyX0 : Nat → FieldType := fun k => match k with
  | 0 => .int
  | 1 => .int
  | 2 => .int
  | 3 => .int
  | 4 => .int
  | 5 => .array .int
  | 6 => .array .int
  | 7 => .object "RagVats$Vats"
  | 8 => .object "RagVats$Moulds"
  | 9 => .object "RagVats$Teams"
  | 10 => .object "RagVats$Posts"
  | _ => .array .int
abbrev wsX00 : List Cond := u_ws RX0 TX0 12
abbrev cX0_init : ByteArray := prog_2_method_1_code
def yX0_init : MethodName := ⟨RX0, "<init>", "()V"⟩
abbrev cX0_becomeLike : ByteArray := prog_2_method_2_code
def yX0_becomeLike : MethodName := ⟨RX0, "becomeLike", "(LRagVats$Mill;)V"⟩
abbrev cX0_takeIn : ByteArray := prog_2_method_3_code
def yX0_takeIn : MethodName := ⟨RX0, "takeIn", "(II)I"⟩
abbrev cX0_freeFelts : ByteArray := prog_2_method_4_code
def yX0_freeFelts : MethodName := ⟨RX0, "freeFelts", "()I"⟩
abbrev cX0_hanging : ByteArray := prog_2_method_5_code
def yX0_hanging : MethodName := ⟨RX0, "hanging", "(II)I"⟩
abbrev cX0_hang : ByteArray := prog_2_method_6_code
def yX0_hang : MethodName := ⟨RX0, "hang", "(III)V"⟩
abbrev cX0_tell : ByteArray := prog_2_method_7_code
def yX0_tell : MethodName := ⟨RX0, "tell", "(I)I"⟩
abbrev cX0_tellPair : ByteArray := prog_2_method_8_code
def yX0_tellPair : MethodName := ⟨RX0, "tellPair", "(II)I"⟩
abbrev cX0_tellTeam : ByteArray := prog_2_method_9_code
def yX0_tellTeam : MethodName := ⟨RX0, "tellTeam", "(II)I"⟩
abbrev cX0_sheetsOf : ByteArray := prog_2_method_10_code
def yX0_sheetsOf : MethodName := ⟨RX0, "sheetsOf", "(I)I"⟩
abbrev cX0_liveDays : ByteArray := prog_2_method_11_code
def yX0_liveDays : MethodName := ⟨RX0, "liveDays", "(I)V"⟩
abbrev cX0_liveDay : ByteArray := prog_2_method_12_code
def yX0_liveDay : MethodName := ⟨RX0, "liveDay", "()V"⟩
abbrev cX0_makeSheets : ByteArray := prog_2_method_13_code
def yX0_makeSheets : MethodName := ⟨RX0, "makeSheets", "(I)V"⟩
abbrev cX0_gradeOf : ByteArray := prog_2_method_14_code
def yX0_gradeOf : MethodName := ⟨RX0, "gradeOf", "(II)I"⟩
abbrev cX0_pointsOf : ByteArray := prog_2_method_15_code
def yX0_pointsOf : MethodName := ⟨RX0, "pointsOf", "(I)I"⟩
abbrev cX0_pressPosts : ByteArray := prog_2_method_16_code
def yX0_pressPosts : MethodName := ⟨RX0, "pressPosts", "()V"⟩
abbrev cX0_allHanging : ByteArray := prog_2_method_17_code
def yX0_allHanging : MethodName := ⟨RX0, "allHanging", "()I"⟩
abbrev cX0_poundsOf : ByteArray := prog_2_method_18_code
def yX0_poundsOf : MethodName := ⟨RX0, "poundsOf", "(I)I"⟩
def RX1 : String := "RagVats$Moulds"
def TX1 : u_T := fun k => match k with
  | 0 => ("RagVats$Moulds", "number", "I", false)
  | 1 => ("RagVats$Moulds", "mark", "[I", true)
  | 2 => ("RagVats$Moulds", "size", "[I", true)
  | _ => ("RagVats$Moulds", "worn", "[I", true)
def tyX1 : Nat → FieldType := fun k => match k with
  | 0 => .int
  | 1 => .array .int
  | 2 => .array .int
  | _ => .array .int
abbrev wsX10 : List Cond := u_ws RX1 TX1 4
abbrev cX1_init : ByteArray := prog_3_method_1_code
def yX1_init : MethodName := ⟨RX1, "<init>", "()V"⟩
abbrev cX1_becomeLike : ByteArray := prog_3_method_2_code
def yX1_becomeLike : MethodName := ⟨RX1, "becomeLike", "(LRagVats$Moulds;)V"⟩
abbrev cX1_has : ByteArray := prog_3_method_3_code
def yX1_has : MethodName := ⟨RX1, "has", "(I)Z"⟩
abbrev cX1_add : ByteArray := prog_3_method_4_code
def yX1_add : MethodName := ⟨RX1, "add", "(II)I"⟩
abbrev cX1_markOf : ByteArray := prog_3_method_5_code
def yX1_markOf : MethodName := ⟨RX1, "markOf", "(I)I"⟩
abbrev cX1_sizeOf : ByteArray := prog_3_method_6_code
def yX1_sizeOf : MethodName := ⟨RX1, "sizeOf", "(I)I"⟩
abbrev cX1_wornOf : ByteArray := prog_3_method_7_code
def yX1_wornOf : MethodName := ⟨RX1, "wornOf", "(I)I"⟩
abbrev cX1_makeNew : ByteArray := prog_3_method_8_code
def yX1_makeNew : MethodName := ⟨RX1, "makeNew", "(I)V"⟩
abbrev cX1_wearBySheets : ByteArray := prog_3_method_9_code
def yX1_wearBySheets : MethodName := ⟨RX1, "wearBySheets", "(II)V"⟩
def RX2 : String := "RagVats$Posts"
def TX2 : u_T := fun k => match k with
  | 0 => ("RagVats$Posts", "number", "I", false)
  | 1 => ("RagVats$Posts", "allSheets", "I", false)
  | 2 => ("RagVats$Posts", "mark", "[I", true)
  | 3 => ("RagVats$Posts", "grade", "[I", true)
  | _ => ("RagVats$Posts", "sheets", "[I", true)
def tyX2 : Nat → FieldType := fun k => match k with
  | 0 => .int
  | 1 => .int
  | 2 => .array .int
  | 3 => .array .int
  | _ => .array .int
abbrev wsX20 : List Cond := u_ws RX2 TX2 5
abbrev cX2_init : ByteArray := prog_4_method_1_code
def yX2_init : MethodName := ⟨RX2, "<init>", "()V"⟩
abbrev cX2_becomeLike : ByteArray := prog_4_method_2_code
def yX2_becomeLike : MethodName := ⟨RX2, "becomeLike", "(LRagVats$Posts;)V"⟩
abbrev cX2_has : ByteArray := prog_4_method_3_code
def yX2_has : MethodName := ⟨RX2, "has", "(I)Z"⟩
abbrev cX2_add : ByteArray := prog_4_method_4_code
def yX2_add : MethodName := ⟨RX2, "add", "(III)V"⟩
abbrev cX2_tell : ByteArray := prog_4_method_5_code
def yX2_tell : MethodName := ⟨RX2, "tell", "(II)I"⟩
abbrev cX2_markOf : ByteArray := prog_4_method_6_code
def yX2_markOf : MethodName := ⟨RX2, "markOf", "(I)I"⟩
abbrev cX2_gradeOf : ByteArray := prog_4_method_7_code
def yX2_gradeOf : MethodName := ⟨RX2, "gradeOf", "(I)I"⟩
abbrev cX2_sheetsOf : ByteArray := prog_4_method_8_code
def yX2_sheetsOf : MethodName := ⟨RX2, "sheetsOf", "(I)I"⟩
abbrev cX2_takeOff : ByteArray := prog_4_method_9_code
def yX2_takeOff : MethodName := ⟨RX2, "takeOff", "(II)V"⟩
abbrev cX2_dropEmptyOnes : ByteArray := prog_4_method_10_code
def yX2_dropEmptyOnes : MethodName := ⟨RX2, "dropEmptyOnes", "()V"⟩
def RX3 : String := "RagVats$Teams"
def TX3 : u_T := fun k => match k with
  | 0 => ("RagVats$Teams", "number", "I", false)
  | 1 => ("RagVats$Teams", "skill", "[I", true)
  | 2 => ("RagVats$Teams", "vat", "[I", true)
  | _ => ("RagVats$Teams", "pair", "[I", true)
def tyX3 : Nat → FieldType := fun k => match k with
  | 0 => .int
  | 1 => .array .int
  | 2 => .array .int
  | _ => .array .int
abbrev wsX30 : List Cond := u_ws RX3 TX3 4
abbrev cX3_init : ByteArray := prog_5_method_1_code
def yX3_init : MethodName := ⟨RX3, "<init>", "()V"⟩
abbrev cX3_becomeLike : ByteArray := prog_5_method_2_code
def yX3_becomeLike : MethodName := ⟨RX3, "becomeLike", "(LRagVats$Teams;)V"⟩
abbrev cX3_has : ByteArray := prog_5_method_3_code
def yX3_has : MethodName := ⟨RX3, "has", "(I)Z"⟩
abbrev cX3_add : ByteArray := prog_5_method_4_code
def yX3_add : MethodName := ⟨RX3, "add", "(I)I"⟩
abbrev cX3_skillOf : ByteArray := prog_5_method_5_code
def yX3_skillOf : MethodName := ⟨RX3, "skillOf", "(I)I"⟩
abbrev cX3_vatOf : ByteArray := prog_5_method_6_code
def yX3_vatOf : MethodName := ⟨RX3, "vatOf", "(I)I"⟩
abbrev cX3_pairOf : ByteArray := prog_5_method_7_code
def yX3_pairOf : MethodName := ⟨RX3, "pairOf", "(I)I"⟩
abbrev cX3_send : ByteArray := prog_5_method_8_code
def yX3_send : MethodName := ⟨RX3, "send", "(III)V"⟩
abbrev cX3_holderOf : ByteArray := prog_5_method_9_code
def yX3_holderOf : MethodName := ⟨RX3, "holderOf", "(I)I"⟩
def RX4 : String := "RagVats$Vats"
def TX4 : u_T := fun k => match k with
  | 0 => ("RagVats$Vats", "pulp", "[I", true)
  | 1 => ("RagVats$Vats", "beat", "[I", true)
  | _ => ("RagVats$Vats", "sort", "[I", true)
def tyX4 : Nat → FieldType := fun k => match k with
  | 0 => .array .int
  | 1 => .array .int
  | _ => .array .int
abbrev wsX40 : List Cond := u_ws RX4 TX4 3
abbrev cX4_init : ByteArray := prog_6_method_1_code
def yX4_init : MethodName := ⟨RX4, "<init>", "()V"⟩
abbrev cX4_becomeLike : ByteArray := prog_6_method_2_code
def yX4_becomeLike : MethodName := ⟨RX4, "becomeLike", "(LRagVats$Vats;)V"⟩
abbrev cX4_pulpOf : ByteArray := prog_6_method_3_code
def yX4_pulpOf : MethodName := ⟨RX4, "pulpOf", "(I)I"⟩
abbrev cX4_beatOf : ByteArray := prog_6_method_4_code
def yX4_beatOf : MethodName := ⟨RX4, "beatOf", "(I)I"⟩
abbrev cX4_sortOf : ByteArray := prog_6_method_5_code
def yX4_sortOf : MethodName := ⟨RX4, "sortOf", "(I)I"⟩
abbrev cX4_tell : ByteArray := prog_6_method_6_code
def yX4_tell : MethodName := ⟨RX4, "tell", "(II)I"⟩
abbrev cX4_charge : ByteArray := prog_6_method_7_code
def yX4_charge : MethodName := ⟨RX4, "charge", "(III)V"⟩
abbrev cX4_takeOut : ByteArray := prog_6_method_8_code
def yX4_takeOut : MethodName := ⟨RX4, "takeOut", "(II)V"⟩
abbrev cX4_allPulp : ByteArray := prog_6_method_9_code
def yX4_allPulp : MethodName := ⟨RX4, "allPulp", "()I"⟩
abbrev cX4_beatAll : ByteArray := prog_6_method_10_code
def yX4_beatAll : MethodName := ⟨RX4, "beatAll", "(I)V"⟩
abbrev cX4_numberWithPulp : ByteArray := prog_6_method_11_code
def yX4_numberWithPulp : MethodName := ⟨RX4, "numberWithPulp", "()I"⟩
def RX5 : String := "RagVats"
def TX5 : u_T := fun k => match k with
  | 0 => ("RagVats", "mill", "LRagVats$Mill;", true)
  | _ => ("RagVats", "trial", "LRagVats$Mill;", true)
def tyX5 : Nat → FieldType := fun k => match k with
  | 0 => .object "RagVats$Mill"
  | _ => .object "RagVats$Mill"
abbrev wsX50 : List Cond := u_ws RX5 TX5 2
abbrev cX5_init : ByteArray := prog_1_method_1_code
def yX5_init : MethodName := ⟨RX5, "<init>", "()V"⟩
abbrev cX5_buy : ByteArray := prog_1_method_2_code
def yX5_buy : MethodName := ⟨RX5, "buy", "(II)I"⟩
abbrev cX5_sell : ByteArray := prog_1_method_3_code
def yX5_sell : MethodName := ⟨RX5, "sell", "(III)I"⟩
abbrev cX5_fill : ByteArray := prog_1_method_4_code
def yX5_fill : MethodName := ⟨RX5, "fill", "(III)I"⟩
abbrev cX5_drain : ByteArray := prog_1_method_5_code
def yX5_drain : MethodName := ⟨RX5, "drain", "(I)I"⟩
abbrev cX5_pair : ByteArray := prog_1_method_6_code
def yX5_pair : MethodName := ⟨RX5, "pair", "(II)I"⟩
abbrev cX5_wire : ByteArray := prog_1_method_7_code
def yX5_wire : MethodName := ⟨RX5, "wire", "(I)I"⟩
abbrev cX5_team : ByteArray := prog_1_method_8_code
def yX5_team : MethodName := ⟨RX5, "team", "(I)I"⟩
abbrev cX5_place : ByteArray := prog_1_method_9_code
def yX5_place : MethodName := ⟨RX5, "place", "(III)I"⟩
abbrev cX5_setWater : ByteArray := prog_1_method_10_code
def yX5_setWater : MethodName := ⟨RX5, "setWater", "(II)I"⟩
abbrev cX5_about : ByteArray := prog_1_method_11_code
def yX5_about : MethodName := ⟨RX5, "about", "(II)I"⟩
abbrev cX5_mould : ByteArray := prog_1_method_12_code
def yX5_mould : MethodName := ⟨RX5, "mould", "(II)I"⟩
abbrev cX5_told : ByteArray := prog_1_method_13_code
def yX5_told : MethodName := ⟨RX5, "told", "(II)I"⟩
abbrev cX5_post : ByteArray := prog_1_method_14_code
def yX5_post : MethodName := ⟨RX5, "post", "(II)I"⟩
abbrev cX5_loft : ByteArray := prog_1_method_15_code
def yX5_loft : MethodName := ⟨RX5, "loft", "(II)I"⟩
abbrev cX5_count : ByteArray := prog_1_method_16_code
def yX5_count : MethodName := ⟨RX5, "count", "(I)I"⟩
abbrev cX5_pass : ByteArray := prog_1_method_17_code
def yX5_pass : MethodName := ⟨RX5, "pass", "(I)I"⟩
abbrev cX5_ripe : ByteArray := prog_1_method_18_code
def yX5_ripe : MethodName := ⟨RX5, "ripe", "(II)I"⟩
abbrev cX5_foresee : ByteArray := prog_1_method_19_code
def yX5_foresee : MethodName := ⟨RX5, "foresee", "(II)I"⟩
abbrev cX5_mean : ByteArray := prog_1_method_21_code
def yX5_mean : MethodName := ⟨RX5, "mean", "()D"⟩
abbrev cX5_isBelow : ByteArray := prog_1_method_23_code
def yX5_isBelow : MethodName := ⟨RX5, "isBelow", "(II)Z"⟩
abbrev cX5_isFrom1To : ByteArray := prog_1_method_24_code
def yX5_isFrom1To : MethodName := ⟨RX5, "isFrom1To", "(II)Z"⟩
abbrev cX5_worthOf : ByteArray := prog_1_method_25_code
def yX5_worthOf : MethodName := ⟨RX5, "worthOf", "(I)I"⟩
def RX6 : String := "RagVatsLaw$Sim"
def TX6 : u_T := fun k => match k with
  | 0 => ("RagVatsLaw$Sim", "day", "I", false)
  | 1 => ("RagVatsLaw$Sim", "coins", "I", false)
  | 2 => ("RagVatsLaw$Sim", "felts", "I", false)
  | 3 => ("RagVatsLaw$Sim", "made", "I", false)
  | 4 => ("RagVatsLaw$Sim", "worth", "I", false)
  | 5 => ("RagVatsLaw$Sim", "water", "[I", false)
  | 6 => ("RagVatsLaw$Sim", "rags", "[I", false)
  | 7 => ("RagVatsLaw$Sim", "vats", "[[I", false)
  | 8 => ("RagVatsLaw$Sim", "pairs", "[[I", false)
  | 9 => ("RagVatsLaw$Sim", "teams", "[[I", false)
  | 10 => ("RagVatsLaw$Sim", "posts", "[[I", false)
  | _ => ("RagVatsLaw$Sim", "loft", "[[I", false)
def tyX6 : Nat → FieldType := fun k => match k with
  | 0 => .int
  | 1 => .int
  | 2 => .int
  | 3 => .int
  | 4 => .int
  | 5 => .array .int
  | 6 => .array .int
  | 7 => .array (.array .int)
  | 8 => .array (.array .int)
  | 9 => .array (.array .int)
  | 10 => .array (.array .int)
  | _ => .array (.array .int)
abbrev wsX60 : List Cond := u_ws RX6 TX6 12
abbrev cX6_init : ByteArray := prog_8_method_1_code
def yX6_init : MethodName := ⟨RX6, "<init>", "()V"⟩
abbrev cX6_more : ByteArray := prog_8_method_3_code
def yX6_more : MethodName := ⟨RX6, "more", "([[I[I)[[I"⟩
abbrev cX6_free : ByteArray := prog_8_method_5_code
def yX6_free : MethodName := ⟨RX6, "free", "()I"⟩
abbrev cX6_makes : ByteArray := prog_8_method_6_code
def yX6_makes : MethodName := ⟨RX6, "makes", "([I)I"⟩
abbrev cX6_worth : ByteArray := prog_8_method_7_code
def yX6_worth : MethodName := ⟨RX6, "worth", "(I)I"⟩
abbrev cX6_pass : ByteArray := prog_8_method_8_code
def yX6_pass : MethodName := ⟨RX6, "pass", "()I"⟩
abbrev cX6_told : ByteArray := prog_8_method_9_code
def yX6_told : MethodName := ⟨RX6, "told", "(I)I"⟩
abbrev cX6_isSame : ByteArray := prog_8_method_10_code
def yX6_isSame : MethodName := ⟨RX6, "isSame", "(LRagVats;)Z"⟩
def RX7 : String := "RagVatsModel"
def TX7 : u_T := fun k => match k with
  | _ => ("", "", "", false)
def tyX7 : Nat → FieldType := fun k => match k with
  | _ => .int
abbrev wsX70 : List Cond := u_ws RX7 TX7 0
def RJx145de : String := "java/io/Serializable"
def TJx145de : u_T := fun k => match k with
  | _ => ("", "", "", false)
def tyJx145de : Nat → FieldType := fun k => match k with
  | _ => .int
abbrev wsJx145de0 : List Cond := u_ws RJx145de TJx145de 0
def RJx8e188 : String := "java/lang/Cloneable"
def TJx8e188 : u_T := fun k => match k with
  | _ => ("", "", "", false)
def tyJx8e188 : Nat → FieldType := fun k => match k with
  | _ => .int
abbrev wsJx8e1880 : List Cond := u_ws RJx8e188 TJx8e188 0
def RJ9 : String := "java/lang/Math"
def TJ9 : u_T := fun k => match k with
  | _ => ("", "", "", false)
def tyJ9 : Nat → FieldType := fun k => match k with
  | _ => .int
abbrev wsJ90 : List Cond := u_ws RJ9 TJ9 0
abbrev cJ9_floorMod_7cf53 : ByteArray := prog_15_method_50_code
def yJ9_floorMod_7cf53 : MethodName := ⟨RJ9, "floorMod", "(II)I"⟩
abbrev cJ9_min_7cf53 : ByteArray := prog_15_method_69_code
def yJ9_min_7cf53 : MethodName := ⟨RJ9, "min", "(II)I"⟩
def RJ0 : String := "java/lang/String"
def TJ0 : u_T := fun k => match k with
  | _ => ("", "", "", false)
def tyJ0 : Nat → FieldType := fun k => match k with
  | _ => .int
abbrev wsJ00 : List Cond := u_ws RJ0 TJ0 0
def RJ10 : String := "java/lang/System"
def TJ10 : u_T := fun k => match k with
  | _ => ("", "", "", false)
def tyJ10 : Nat → FieldType := fun k => match k with
  | _ => .int
abbrev wsJ100 : List Cond := u_ws RJ10 TJ10 0
def RJ7 : String := "java/util/Arrays"
def TJ7 : u_T := fun k => match k with
  | _ => ("", "", "", false)
def tyJ7 : Nat → FieldType := fun k => match k with
  | _ => .int
abbrev wsJ70 : List Cond := u_ws RJ7 TJ7 0
abbrev cJ7_fill_53178 : ByteArray := prog_20_method_103_code
def yJ7_fill_53178 : MethodName := ⟨RJ7, "fill", "([II)V"⟩
def RL : String := "RagVatsLaw"
abbrev cL_below : ByteArray := method_2_code
def yL_below : MethodName := ⟨RL, "below", "(II)I"⟩
abbrev cL_cell : ByteArray := method_3_code
def yL_cell : MethodName := ⟨RL, "cell", "([II)I"⟩
abbrev cL_act : ByteArray := method_4_code
def yL_act : MethodName := ⟨RL, "act", "(LRagVats;LRagVatsLaw$Sim;I)Z"⟩
abbrev cL_build : ByteArray := method_5_code
def yL_build : MethodName := ⟨RL, "build", "(LRagVats;[I)LRagVatsLaw$Sim;"⟩
abbrev cL_law : ByteArray := code
def yL_law : MethodName := ⟨RL, "law", "([I)Z"⟩
def wsJ7_fill_53178 : List Cond := .code yJ7_fill_53178 cJ7_fill_53178 4 none :: ([])
def wsX4_init : List Cond := .code yX4_init cX4_init 1 none :: ([.methodLink RX4 3 objectInit, .instanceMethod objectInit, .code objectInit ⟨#[0xb1]⟩ 1 none, .arrayClass .int, .fieldLink RX4 9 "RagVats$Vats" "pulp" "[I", .fieldLink RX4 15 "RagVats$Vats" "beat" "[I", .fieldLink RX4 18 "RagVats$Vats" "sort" "[I", .methodLink RX4 21 yJ7_fill_53178, .static yJ7_fill_53178, .initialized RJ7, .code yJ7_fill_53178 cJ7_fill_53178 4 none] ++ wsX40)
def wsX1_init : List Cond := .code yX1_init cX1_init 1 none :: ([.methodLink RX1 3 objectInit, .instanceMethod objectInit, .code objectInit ⟨#[0xb1]⟩ 1 none, .fieldLink RX1 9 "RagVats$Moulds" "number" "I", .arrayClass .int, .fieldLink RX1 15 "RagVats$Moulds" "mark" "[I", .fieldLink RX1 19 "RagVats$Moulds" "size" "[I", .fieldLink RX1 22 "RagVats$Moulds" "worn" "[I"] ++ wsX10)
def wsX3_init : List Cond := .code yX3_init cX3_init 1 none :: ([.methodLink RX3 3 objectInit, .instanceMethod objectInit, .code objectInit ⟨#[0xb1]⟩ 1 none, .fieldLink RX3 9 "RagVats$Teams" "number" "I", .arrayClass .int, .fieldLink RX3 15 "RagVats$Teams" "skill" "[I", .fieldLink RX3 19 "RagVats$Teams" "vat" "[I", .fieldLink RX3 22 "RagVats$Teams" "pair" "[I"] ++ wsX30)
def wsX2_init : List Cond := .code yX2_init cX2_init 1 none :: ([.methodLink RX2 3 objectInit, .instanceMethod objectInit, .code objectInit ⟨#[0xb1]⟩ 1 none, .fieldLink RX2 9 "RagVats$Posts" "number" "I", .fieldLink RX2 15 "RagVats$Posts" "allSheets" "I", .arrayClass .int, .fieldLink RX2 18 "RagVats$Posts" "mark" "[I", .fieldLink RX2 22 "RagVats$Posts" "grade" "[I", .fieldLink RX2 25 "RagVats$Posts" "sheets" "[I"] ++ wsX20)
def wsX0_init_r1 : List Cond := [Cond.methodLink RX0 3 objectInit, Cond.instanceMethod objectInit, Cond.code objectInit ⟨#[0xb1]⟩ 1 none, Cond.fieldLink RX0 9 "RagVats$Mill" "day" "I", Cond.fieldLink RX0 15 "RagVats$Mill" "coins" "I", Cond.fieldLink RX0 18 "RagVats$Mill" "felts" "I", Cond.fieldLink RX0 21 "RagVats$Mill" "made" "I", Cond.fieldLink RX0 24 "RagVats$Mill" "worth" "I", Cond.arrayClass .int, Cond.fieldLink RX0 27 "RagVats$Mill" "rags" "[I", Cond.fieldLink RX0 31 "RagVats$Mill" "water" "[I", Cond.classLink RX0 34 RX4, Cond.instantiable RX4 3, Cond.initialized RX4, Cond.fieldLink RX0 37 "RagVats$Mill" "vats" "LRagVats$Vats;", Cond.classLink RX0 41 RX1, Cond.instantiable RX1 4, Cond.initialized RX1, Cond.fieldLink RX0 44 "RagVats$Mill" "moulds" "LRagVats$Moulds;", Cond.classLink RX0 48 RX3, Cond.instantiable RX3 4, Cond.initialized RX3, Cond.fieldLink RX0 51 "RagVats$Mill" "teams" "LRagVats$Teams;", Cond.classLink RX0 55 RX2]
def wsX0_init_r2 : List Cond := [Cond.instantiable RX2 5, Cond.initialized RX2, Cond.fieldLink RX0 58 "RagVats$Mill" "posts" "LRagVats$Posts;", Cond.fieldLink RX0 62 "RagVats$Mill" "loft" "[I", Cond.methodLink RX0 36 yX4_init, Cond.instanceMethod yX4_init, Cond.code yX4_init cX4_init 1 none, Cond.methodLink RX4 3 objectInit, Cond.fieldLink RX4 9 "RagVats$Vats" "pulp" "[I", Cond.fieldLink RX4 15 "RagVats$Vats" "beat" "[I", Cond.fieldLink RX4 18 "RagVats$Vats" "sort" "[I", Cond.methodLink RX4 21 yJ7_fill_53178, Cond.static yJ7_fill_53178, Cond.initialized RJ7, Cond.code yJ7_fill_53178 cJ7_fill_53178 4 none, Cond.instanceMethod yX1_init, Cond.code yX1_init cX1_init 1 none, Cond.methodLink RX1 3 objectInit, Cond.fieldLink RX1 9 "RagVats$Moulds" "number" "I", Cond.fieldLink RX1 15 "RagVats$Moulds" "mark" "[I", Cond.fieldLink RX1 19 "RagVats$Moulds" "size" "[I", Cond.fieldLink RX1 22 "RagVats$Moulds" "worn" "[I", Cond.instanceMethod yX3_init, Cond.code yX3_init cX3_init 1 none]
def wsX0_init_r3 : List Cond := [Cond.methodLink RX3 3 objectInit, Cond.fieldLink RX3 9 "RagVats$Teams" "number" "I", Cond.fieldLink RX3 15 "RagVats$Teams" "skill" "[I", Cond.fieldLink RX3 19 "RagVats$Teams" "vat" "[I", Cond.fieldLink RX3 22 "RagVats$Teams" "pair" "[I", Cond.instanceMethod yX2_init, Cond.code yX2_init cX2_init 1 none, Cond.methodLink RX2 3 objectInit, Cond.fieldLink RX2 9 "RagVats$Posts" "number" "I", Cond.fieldLink RX2 15 "RagVats$Posts" "allSheets" "I", Cond.fieldLink RX2 18 "RagVats$Posts" "mark" "[I", Cond.fieldLink RX2 22 "RagVats$Posts" "grade" "[I", Cond.fieldLink RX2 25 "RagVats$Posts" "sheets" "[I", Cond.methodLink RX0 65 yJ7_fill_53178]
def wsX0_init : List Cond := .code yX0_init cX0_init 1 none :: ((wsX0_init_r1 ++ (wsX0_init_r2 ++ wsX0_init_r3)) ++ wsX00 ++ wsX40 ++ wsX10 ++ wsX30 ++ wsX20)
def wsX4_becomeLike : List Cond := .code yX4_becomeLike cX4_becomeLike 2 none :: ([.fieldLink RX4 9 "RagVats$Vats" "pulp" "[I", .methodLink RX4 27 arraycopyName, .native arraycopyName, .static arraycopyName, .initialized "java/lang/System", .fieldLink RX4 15 "RagVats$Vats" "beat" "[I", .fieldLink RX4 18 "RagVats$Vats" "sort" "[I"] ++ wsX40)
def wsX1_becomeLike : List Cond := .code yX1_becomeLike cX1_becomeLike 2 none :: ([.fieldLink RX1 9 "RagVats$Moulds" "number" "I", .fieldLink RX1 15 "RagVats$Moulds" "mark" "[I", .methodLink RX1 25 arraycopyName, .native arraycopyName, .static arraycopyName, .initialized "java/lang/System", .fieldLink RX1 19 "RagVats$Moulds" "size" "[I", .fieldLink RX1 22 "RagVats$Moulds" "worn" "[I"] ++ wsX10)
def wsX3_becomeLike : List Cond := .code yX3_becomeLike cX3_becomeLike 2 none :: ([.fieldLink RX3 9 "RagVats$Teams" "number" "I", .fieldLink RX3 15 "RagVats$Teams" "skill" "[I", .methodLink RX3 25 arraycopyName, .native arraycopyName, .static arraycopyName, .initialized "java/lang/System", .fieldLink RX3 19 "RagVats$Teams" "vat" "[I", .fieldLink RX3 22 "RagVats$Teams" "pair" "[I"] ++ wsX30)
def wsX2_becomeLike : List Cond := .code yX2_becomeLike cX2_becomeLike 2 none :: ([.fieldLink RX2 9 "RagVats$Posts" "number" "I", .fieldLink RX2 15 "RagVats$Posts" "allSheets" "I", .fieldLink RX2 18 "RagVats$Posts" "mark" "[I", .methodLink RX2 28 arraycopyName, .native arraycopyName, .static arraycopyName, .initialized "java/lang/System", .fieldLink RX2 22 "RagVats$Posts" "grade" "[I", .fieldLink RX2 25 "RagVats$Posts" "sheets" "[I"] ++ wsX20)
def wsX0_becomeLike_r1 : List Cond := [Cond.fieldLink RX0 9 "RagVats$Mill" "day" "I", Cond.fieldLink RX0 15 "RagVats$Mill" "coins" "I", Cond.fieldLink RX0 18 "RagVats$Mill" "felts" "I", Cond.fieldLink RX0 21 "RagVats$Mill" "made" "I", Cond.fieldLink RX0 24 "RagVats$Mill" "worth" "I", Cond.fieldLink RX0 27 "RagVats$Mill" "rags" "[I", Cond.methodLink RX0 71 arraycopyName, Cond.native arraycopyName, Cond.static arraycopyName, Cond.initialized "java/lang/System", Cond.fieldLink RX0 31 "RagVats$Mill" "water" "[I", Cond.fieldLink RX0 37 "RagVats$Mill" "vats" "LRagVats$Vats;", Cond.fieldLink RX0 44 "RagVats$Mill" "moulds" "LRagVats$Moulds;", Cond.fieldLink RX0 51 "RagVats$Mill" "teams" "LRagVats$Teams;", Cond.fieldLink RX0 58 "RagVats$Mill" "posts" "LRagVats$Posts;", Cond.fieldLink RX0 62 "RagVats$Mill" "loft" "[I", Cond.methodLink RX0 77 yX4_becomeLike, Cond.instanceMethod yX4_becomeLike, Cond.selects RX4 yX4_becomeLike yX4_becomeLike, Cond.initialized RX4, Cond.code yX4_becomeLike cX4_becomeLike 2 none, Cond.fieldLink RX4 9 "RagVats$Vats" "pulp" "[I", Cond.methodLink RX4 27 arraycopyName, Cond.fieldLink RX4 15 "RagVats$Vats" "beat" "[I"]
def wsX0_becomeLike_r2 : List Cond := [Cond.fieldLink RX4 18 "RagVats$Vats" "sort" "[I", Cond.methodLink RX0 81 yX1_becomeLike, Cond.instanceMethod yX1_becomeLike, Cond.selects RX1 yX1_becomeLike yX1_becomeLike, Cond.initialized RX1, Cond.code yX1_becomeLike cX1_becomeLike 2 none, Cond.fieldLink RX1 9 "RagVats$Moulds" "number" "I", Cond.fieldLink RX1 15 "RagVats$Moulds" "mark" "[I", Cond.methodLink RX1 25 arraycopyName, Cond.fieldLink RX1 19 "RagVats$Moulds" "size" "[I", Cond.fieldLink RX1 22 "RagVats$Moulds" "worn" "[I", Cond.methodLink RX0 84 yX3_becomeLike, Cond.instanceMethod yX3_becomeLike, Cond.selects RX3 yX3_becomeLike yX3_becomeLike, Cond.initialized RX3, Cond.code yX3_becomeLike cX3_becomeLike 2 none, Cond.fieldLink RX3 9 "RagVats$Teams" "number" "I", Cond.fieldLink RX3 15 "RagVats$Teams" "skill" "[I", Cond.methodLink RX3 25 arraycopyName, Cond.fieldLink RX3 19 "RagVats$Teams" "vat" "[I", Cond.fieldLink RX3 22 "RagVats$Teams" "pair" "[I", Cond.methodLink RX0 87 yX2_becomeLike, Cond.instanceMethod yX2_becomeLike, Cond.selects RX2 yX2_becomeLike yX2_becomeLike]
def wsX0_becomeLike_r3 : List Cond := [Cond.initialized RX2, Cond.code yX2_becomeLike cX2_becomeLike 2 none, Cond.fieldLink RX2 9 "RagVats$Posts" "number" "I", Cond.fieldLink RX2 15 "RagVats$Posts" "allSheets" "I", Cond.fieldLink RX2 18 "RagVats$Posts" "mark" "[I", Cond.methodLink RX2 28 arraycopyName, Cond.fieldLink RX2 22 "RagVats$Posts" "grade" "[I", Cond.fieldLink RX2 25 "RagVats$Posts" "sheets" "[I"]
def wsX0_becomeLike : List Cond := .code yX0_becomeLike cX0_becomeLike 2 none :: ((wsX0_becomeLike_r1 ++ (wsX0_becomeLike_r2 ++ wsX0_becomeLike_r3)) ++ wsX00 ++ wsX40 ++ wsX10 ++ wsX30 ++ wsX20)
def wsX5_isBelow : List Cond := .code yX5_isBelow cX5_isBelow 2 (some .boolean) :: ([])
def wsX0_takeIn : List Cond := .code yX0_takeIn cX0_takeIn 3 (some .int) :: ([.fieldLink RX0 18 "RagVats$Mill" "felts" "I", .fieldLink RX0 27 "RagVats$Mill" "rags" "[I", .static yX5_isBelow, .initialized RX5, .code yX5_isBelow cX5_isBelow 2 (some .boolean)] ++ wsX00)
def wsX0_freeFelts : List Cond := .code yX0_freeFelts cX0_freeFelts 1 (some .int) :: ([.fieldLink RX0 18 "RagVats$Mill" "felts" "I", .fieldLink RX0 58 "RagVats$Mill" "posts" "LRagVats$Posts;"] ++ wsX00 ++ wsX20)
def wsX0_hanging : List Cond := .code yX0_hanging cX0_hanging 3 (some .int) :: ([.fieldLink RX0 62 "RagVats$Mill" "loft" "[I", .static yX5_isBelow, .initialized RX5, .code yX5_isBelow cX5_isBelow 2 (some .boolean)] ++ wsX00)
def wsX0_hang : List Cond := .code yX0_hang cX0_hang 4 none :: ([.fieldLink RX0 62 "RagVats$Mill" "loft" "[I", .static yX5_isBelow, .initialized RX5, .code yX5_isBelow cX5_isBelow 2 (some .boolean)] ++ wsX00)
def wsX0_allHanging : List Cond := .code yX0_allHanging cX0_allHanging 3 (some .int) :: ([.fieldLink RX0 62 "RagVats$Mill" "loft" "[I"] ++ wsX00)
def wsX4_allPulp : List Cond := .code yX4_allPulp cX4_allPulp 3 (some .int) :: ([.fieldLink RX4 9 "RagVats$Vats" "pulp" "[I"] ++ wsX40)
def wsX0_poundsOf : List Cond := .code yX0_poundsOf cX0_poundsOf 2 (some .int) :: ([.fieldLink RX0 27 "RagVats$Mill" "rags" "[I", .static yX5_isBelow, .initialized RX5, .code yX5_isBelow cX5_isBelow 2 (some .boolean)] ++ wsX00)
def wsX0_tell_r1 : List Cond := [Cond.fieldLink RX0 9 "RagVats$Mill" "day" "I", Cond.fieldLink RX0 15 "RagVats$Mill" "coins" "I", Cond.fieldLink RX0 18 "RagVats$Mill" "felts" "I", Cond.fieldLink RX0 21 "RagVats$Mill" "made" "I", Cond.fieldLink RX0 24 "RagVats$Mill" "worth" "I", Cond.fieldLink RX0 58 "RagVats$Mill" "posts" "LRagVats$Posts;", Cond.fieldLink RX0 37 "RagVats$Mill" "vats" "LRagVats$Vats;", Cond.methodLink RX0 97 yX0_freeFelts, Cond.instanceMethod yX0_freeFelts, Cond.selects RX0 yX0_freeFelts yX0_freeFelts, Cond.initialized RX0, Cond.code yX0_freeFelts cX0_freeFelts 1 (some .int), Cond.methodLink RX0 104 yX0_allHanging, Cond.instanceMethod yX0_allHanging, Cond.selects RX0 yX0_allHanging yX0_allHanging, Cond.code yX0_allHanging cX0_allHanging 3 (some .int), Cond.fieldLink RX0 62 "RagVats$Mill" "loft" "[I", Cond.methodLink RX0 107 yX4_allPulp, Cond.instanceMethod yX4_allPulp, Cond.selects RX4 yX4_allPulp yX4_allPulp, Cond.initialized RX4, Cond.code yX4_allPulp cX4_allPulp 3 (some .int), Cond.fieldLink RX4 9 "RagVats$Vats" "pulp" "[I", Cond.methodLink RX0 110 yX0_poundsOf]
def wsX0_tell_r2 : List Cond := [Cond.instanceMethod yX0_poundsOf, Cond.selects RX0 yX0_poundsOf yX0_poundsOf, Cond.code yX0_poundsOf cX0_poundsOf 2 (some .int), Cond.fieldLink RX0 27 "RagVats$Mill" "rags" "[I", Cond.static yX5_isBelow, Cond.initialized RX5, Cond.code yX5_isBelow cX5_isBelow 2 (some .boolean)]
def wsX0_tell : List Cond := .code yX0_tell cX0_tell 2 (some .int) :: ((wsX0_tell_r1 ++ wsX0_tell_r2) ++ wsX00 ++ wsX20 ++ wsX40)
def wsX1_has : List Cond := .code yX1_has cX1_has 2 (some .boolean) :: ([.fieldLink RX1 9 "RagVats$Moulds" "number" "I"] ++ wsX10)
def wsX1_markOf : List Cond := .code yX1_markOf cX1_markOf 2 (some .int) :: ([.fieldLink RX1 15 "RagVats$Moulds" "mark" "[I", .methodLink RX1 31 yX1_has, .instanceMethod yX1_has, .selects RX1 yX1_has yX1_has, .initialized RX1, .code yX1_has cX1_has 2 (some .boolean), .fieldLink RX1 9 "RagVats$Moulds" "number" "I"] ++ wsX10)
def wsX1_sizeOf : List Cond := .code yX1_sizeOf cX1_sizeOf 2 (some .int) :: ([.fieldLink RX1 19 "RagVats$Moulds" "size" "[I", .methodLink RX1 31 yX1_has, .instanceMethod yX1_has, .selects RX1 yX1_has yX1_has, .initialized RX1, .code yX1_has cX1_has 2 (some .boolean), .fieldLink RX1 9 "RagVats$Moulds" "number" "I"] ++ wsX10)
def wsX1_wornOf : List Cond := .code yX1_wornOf cX1_wornOf 2 (some .int) :: ([.fieldLink RX1 22 "RagVats$Moulds" "worn" "[I", .methodLink RX1 31 yX1_has, .instanceMethod yX1_has, .selects RX1 yX1_has yX1_has, .initialized RX1, .code yX1_has cX1_has 2 (some .boolean), .fieldLink RX1 9 "RagVats$Moulds" "number" "I"] ++ wsX10)
def wsX3_has : List Cond := .code yX3_has cX3_has 2 (some .boolean) :: ([.fieldLink RX3 9 "RagVats$Teams" "number" "I"] ++ wsX30)
def wsX3_pairOf : List Cond := .code yX3_pairOf cX3_pairOf 2 (some .int) :: ([.fieldLink RX3 22 "RagVats$Teams" "pair" "[I", .methodLink RX3 31 yX3_has, .instanceMethod yX3_has, .selects RX3 yX3_has yX3_has, .initialized RX3, .code yX3_has cX3_has 2 (some .boolean), .fieldLink RX3 9 "RagVats$Teams" "number" "I"] ++ wsX30)
def wsX3_holderOf : List Cond := .code yX3_holderOf cX3_holderOf 3 (some .int) :: ([.fieldLink RX3 9 "RagVats$Teams" "number" "I", .methodLink RX3 35 yX3_pairOf, .instanceMethod yX3_pairOf, .selects RX3 yX3_pairOf yX3_pairOf, .initialized RX3, .code yX3_pairOf cX3_pairOf 2 (some .int), .fieldLink RX3 22 "RagVats$Teams" "pair" "[I", .methodLink RX3 31 yX3_has, .instanceMethod yX3_has, .selects RX3 yX3_has yX3_has, .code yX3_has cX3_has 2 (some .boolean)] ++ wsX30)
def wsX0_tellPair_r1 : List Cond := [Cond.fieldLink RX0 44 "RagVats$Mill" "moulds" "LRagVats$Moulds;", Cond.fieldLink RX0 51 "RagVats$Mill" "teams" "LRagVats$Teams;", Cond.methodLink RX0 114 yX1_markOf, Cond.instanceMethod yX1_markOf, Cond.selects RX1 yX1_markOf yX1_markOf, Cond.initialized RX1, Cond.code yX1_markOf cX1_markOf 2 (some .int), Cond.fieldLink RX1 15 "RagVats$Moulds" "mark" "[I", Cond.methodLink RX1 31 yX1_has, Cond.instanceMethod yX1_has, Cond.selects RX1 yX1_has yX1_has, Cond.code yX1_has cX1_has 2 (some .boolean), Cond.fieldLink RX1 9 "RagVats$Moulds" "number" "I", Cond.methodLink RX0 117 yX1_sizeOf, Cond.instanceMethod yX1_sizeOf, Cond.selects RX1 yX1_sizeOf yX1_sizeOf, Cond.code yX1_sizeOf cX1_sizeOf 2 (some .int), Cond.fieldLink RX1 19 "RagVats$Moulds" "size" "[I", Cond.methodLink RX0 120 yX1_wornOf, Cond.instanceMethod yX1_wornOf, Cond.selects RX1 yX1_wornOf yX1_wornOf, Cond.code yX1_wornOf cX1_wornOf 2 (some .int), Cond.fieldLink RX1 22 "RagVats$Moulds" "worn" "[I", Cond.methodLink RX0 123 yX3_holderOf]
def wsX0_tellPair_r2 : List Cond := [Cond.instanceMethod yX3_holderOf, Cond.selects RX3 yX3_holderOf yX3_holderOf, Cond.initialized RX3, Cond.code yX3_holderOf cX3_holderOf 3 (some .int), Cond.fieldLink RX3 9 "RagVats$Teams" "number" "I", Cond.methodLink RX3 35 yX3_pairOf, Cond.instanceMethod yX3_pairOf, Cond.selects RX3 yX3_pairOf yX3_pairOf, Cond.code yX3_pairOf cX3_pairOf 2 (some .int), Cond.fieldLink RX3 22 "RagVats$Teams" "pair" "[I", Cond.methodLink RX3 31 yX3_has, Cond.instanceMethod yX3_has, Cond.selects RX3 yX3_has yX3_has, Cond.code yX3_has cX3_has 2 (some .boolean)]
def wsX0_tellPair : List Cond := .code yX0_tellPair cX0_tellPair 3 (some .int) :: ((wsX0_tellPair_r1 ++ wsX0_tellPair_r2) ++ wsX00 ++ wsX10 ++ wsX30)
def wsX3_skillOf : List Cond := .code yX3_skillOf cX3_skillOf 2 (some .int) :: ([.fieldLink RX3 15 "RagVats$Teams" "skill" "[I", .methodLink RX3 31 yX3_has, .instanceMethod yX3_has, .selects RX3 yX3_has yX3_has, .initialized RX3, .code yX3_has cX3_has 2 (some .boolean), .fieldLink RX3 9 "RagVats$Teams" "number" "I"] ++ wsX30)
def wsX3_vatOf : List Cond := .code yX3_vatOf cX3_vatOf 2 (some .int) :: ([.fieldLink RX3 19 "RagVats$Teams" "vat" "[I", .methodLink RX3 31 yX3_has, .instanceMethod yX3_has, .selects RX3 yX3_has yX3_has, .initialized RX3, .code yX3_has cX3_has 2 (some .boolean), .fieldLink RX3 9 "RagVats$Teams" "number" "I"] ++ wsX30)
def wsX4_beatOf : List Cond := .code yX4_beatOf cX4_beatOf 2 (some .int) :: ([.fieldLink RX4 15 "RagVats$Vats" "beat" "[I", .static yX5_isBelow, .initialized RX5, .code yX5_isBelow cX5_isBelow 2 (some .boolean)] ++ wsX40)
def wsX4_pulpOf : List Cond := .code yX4_pulpOf cX4_pulpOf 2 (some .int) :: ([.fieldLink RX4 9 "RagVats$Vats" "pulp" "[I", .static yX5_isBelow, .initialized RX5, .code yX5_isBelow cX5_isBelow 2 (some .boolean)] ++ wsX40)
def wsX0_sheetsOf_r1 : List Cond := [Cond.fieldLink RX0 51 "RagVats$Mill" "teams" "LRagVats$Teams;", Cond.fieldLink RX0 37 "RagVats$Mill" "vats" "LRagVats$Vats;", Cond.fieldLink RX0 44 "RagVats$Mill" "moulds" "LRagVats$Moulds;", Cond.methodLink RX0 141 Lib.Math.min.name, Cond.static Lib.Math.min.name, Cond.initialized "java/lang/Math", Cond.code Lib.Math.min.name Lib.Math.min.code 2 (some .int), Cond.methodLink RX0 129 yX3_vatOf, Cond.instanceMethod yX3_vatOf, Cond.selects RX3 yX3_vatOf yX3_vatOf, Cond.initialized RX3, Cond.code yX3_vatOf cX3_vatOf 2 (some .int), Cond.fieldLink RX3 19 "RagVats$Teams" "vat" "[I", Cond.methodLink RX3 31 yX3_has, Cond.instanceMethod yX3_has, Cond.selects RX3 yX3_has yX3_has, Cond.code yX3_has cX3_has 2 (some .boolean), Cond.fieldLink RX3 9 "RagVats$Teams" "number" "I", Cond.methodLink RX0 132 yX3_pairOf, Cond.instanceMethod yX3_pairOf, Cond.selects RX3 yX3_pairOf yX3_pairOf, Cond.code yX3_pairOf cX3_pairOf 2 (some .int), Cond.fieldLink RX3 22 "RagVats$Teams" "pair" "[I", Cond.methodLink RX0 138 yX4_beatOf]
def wsX0_sheetsOf_r2 : List Cond := [Cond.instanceMethod yX4_beatOf, Cond.selects RX4 yX4_beatOf yX4_beatOf, Cond.initialized RX4, Cond.code yX4_beatOf cX4_beatOf 2 (some .int), Cond.fieldLink RX4 15 "RagVats$Vats" "beat" "[I", Cond.static yX5_isBelow, Cond.initialized RX5, Cond.code yX5_isBelow cX5_isBelow 2 (some .boolean), Cond.methodLink RX0 117 yX1_sizeOf, Cond.instanceMethod yX1_sizeOf, Cond.selects RX1 yX1_sizeOf yX1_sizeOf, Cond.initialized RX1, Cond.code yX1_sizeOf cX1_sizeOf 2 (some .int), Cond.fieldLink RX1 19 "RagVats$Moulds" "size" "[I", Cond.methodLink RX1 31 yX1_has, Cond.instanceMethod yX1_has, Cond.selects RX1 yX1_has yX1_has, Cond.code yX1_has cX1_has 2 (some .boolean), Cond.fieldLink RX1 9 "RagVats$Moulds" "number" "I", Cond.methodLink RX0 126 yX3_skillOf, Cond.instanceMethod yX3_skillOf, Cond.selects RX3 yX3_skillOf yX3_skillOf, Cond.code yX3_skillOf cX3_skillOf 2 (some .int), Cond.fieldLink RX3 15 "RagVats$Teams" "skill" "[I"]
def wsX0_sheetsOf_r3 : List Cond := [Cond.methodLink RX0 97 yX0_freeFelts, Cond.instanceMethod yX0_freeFelts, Cond.selects RX0 yX0_freeFelts yX0_freeFelts, Cond.initialized RX0, Cond.code yX0_freeFelts cX0_freeFelts 1 (some .int), Cond.fieldLink RX0 18 "RagVats$Mill" "felts" "I", Cond.fieldLink RX0 58 "RagVats$Mill" "posts" "LRagVats$Posts;", Cond.methodLink RX0 147 yX4_pulpOf, Cond.instanceMethod yX4_pulpOf, Cond.selects RX4 yX4_pulpOf yX4_pulpOf, Cond.code yX4_pulpOf cX4_pulpOf 2 (some .int), Cond.fieldLink RX4 9 "RagVats$Vats" "pulp" "[I"]
def wsX0_sheetsOf : List Cond := .code yX0_sheetsOf cX0_sheetsOf 6 (some .int) :: ((wsX0_sheetsOf_r1 ++ (wsX0_sheetsOf_r2 ++ wsX0_sheetsOf_r3)) ++ wsX00 ++ wsX30 ++ wsX40 ++ wsX10 ++ wsX20)
def wsX0_tellTeam_r1 : List Cond := [Cond.fieldLink RX0 51 "RagVats$Mill" "teams" "LRagVats$Teams;", Cond.methodLink RX0 126 yX3_skillOf, Cond.instanceMethod yX3_skillOf, Cond.selects RX3 yX3_skillOf yX3_skillOf, Cond.initialized RX3, Cond.code yX3_skillOf cX3_skillOf 2 (some .int), Cond.fieldLink RX3 15 "RagVats$Teams" "skill" "[I", Cond.methodLink RX3 31 yX3_has, Cond.instanceMethod yX3_has, Cond.selects RX3 yX3_has yX3_has, Cond.code yX3_has cX3_has 2 (some .boolean), Cond.fieldLink RX3 9 "RagVats$Teams" "number" "I", Cond.methodLink RX0 129 yX3_vatOf, Cond.instanceMethod yX3_vatOf, Cond.selects RX3 yX3_vatOf yX3_vatOf, Cond.code yX3_vatOf cX3_vatOf 2 (some .int), Cond.fieldLink RX3 19 "RagVats$Teams" "vat" "[I", Cond.methodLink RX0 132 yX3_pairOf, Cond.instanceMethod yX3_pairOf, Cond.selects RX3 yX3_pairOf yX3_pairOf, Cond.code yX3_pairOf cX3_pairOf 2 (some .int), Cond.fieldLink RX3 22 "RagVats$Teams" "pair" "[I", Cond.methodLink RX0 135 yX0_sheetsOf, Cond.instanceMethod yX0_sheetsOf]
def wsX0_tellTeam_r2 : List Cond := [Cond.selects RX0 yX0_sheetsOf yX0_sheetsOf, Cond.initialized RX0, Cond.code yX0_sheetsOf cX0_sheetsOf 6 (some .int), Cond.fieldLink RX0 37 "RagVats$Mill" "vats" "LRagVats$Vats;", Cond.fieldLink RX0 44 "RagVats$Mill" "moulds" "LRagVats$Moulds;", Cond.methodLink RX0 141 Lib.Math.min.name, Cond.static Lib.Math.min.name, Cond.initialized "java/lang/Math", Cond.code Lib.Math.min.name Lib.Math.min.code 2 (some .int), Cond.methodLink RX0 138 yX4_beatOf, Cond.instanceMethod yX4_beatOf, Cond.selects RX4 yX4_beatOf yX4_beatOf, Cond.initialized RX4, Cond.code yX4_beatOf cX4_beatOf 2 (some .int), Cond.fieldLink RX4 15 "RagVats$Vats" "beat" "[I", Cond.static yX5_isBelow, Cond.initialized RX5, Cond.code yX5_isBelow cX5_isBelow 2 (some .boolean), Cond.methodLink RX0 117 yX1_sizeOf, Cond.instanceMethod yX1_sizeOf, Cond.selects RX1 yX1_sizeOf yX1_sizeOf, Cond.initialized RX1, Cond.code yX1_sizeOf cX1_sizeOf 2 (some .int), Cond.fieldLink RX1 19 "RagVats$Moulds" "size" "[I"]
def wsX0_tellTeam_r3 : List Cond := [Cond.methodLink RX1 31 yX1_has, Cond.instanceMethod yX1_has, Cond.selects RX1 yX1_has yX1_has, Cond.code yX1_has cX1_has 2 (some .boolean), Cond.fieldLink RX1 9 "RagVats$Moulds" "number" "I", Cond.methodLink RX0 97 yX0_freeFelts, Cond.instanceMethod yX0_freeFelts, Cond.selects RX0 yX0_freeFelts yX0_freeFelts, Cond.code yX0_freeFelts cX0_freeFelts 1 (some .int), Cond.fieldLink RX0 18 "RagVats$Mill" "felts" "I", Cond.fieldLink RX0 58 "RagVats$Mill" "posts" "LRagVats$Posts;", Cond.methodLink RX0 147 yX4_pulpOf, Cond.instanceMethod yX4_pulpOf, Cond.selects RX4 yX4_pulpOf yX4_pulpOf, Cond.code yX4_pulpOf cX4_pulpOf 2 (some .int), Cond.fieldLink RX4 9 "RagVats$Vats" "pulp" "[I"]
def wsX0_tellTeam : List Cond := .code yX0_tellTeam cX0_tellTeam 3 (some .int) :: ((wsX0_tellTeam_r1 ++ (wsX0_tellTeam_r2 ++ wsX0_tellTeam_r3)) ++ wsX00 ++ wsX30 ++ wsX40 ++ wsX10 ++ wsX20)
def wsJ9_floorMod_7cf53 : List Cond := .code yJ9_floorMod_7cf53 cJ9_floorMod_7cf53 3 (some .int) :: ([])
def wsX4_numberWithPulp : List Cond := .code yX4_numberWithPulp cX4_numberWithPulp 3 (some .int) :: ([.fieldLink RX4 9 "RagVats$Vats" "pulp" "[I"] ++ wsX40)
def wsX4_beatAll : List Cond := .code yX4_beatAll cX4_beatAll 5 none :: ([.fieldLink RX4 9 "RagVats$Vats" "pulp" "[I", .fieldLink RX4 15 "RagVats$Vats" "beat" "[I", .methodLink RX4 55 Lib.Math.min.name, .static Lib.Math.min.name, .initialized "java/lang/Math", .code Lib.Math.min.name Lib.Math.min.code 2 (some .int), .methodLink RX4 51 yX4_numberWithPulp, .instanceMethod yX4_numberWithPulp, .selects RX4 yX4_numberWithPulp yX4_numberWithPulp, .initialized RX4, .code yX4_numberWithPulp cX4_numberWithPulp 3 (some .int)] ++ wsX40)
def wsX4_sortOf : List Cond := .code yX4_sortOf cX4_sortOf 2 (some .int) :: ([.fieldLink RX4 18 "RagVats$Vats" "sort" "[I", .static yX5_isBelow, .initialized RX5, .code yX5_isBelow cX5_isBelow 2 (some .boolean)] ++ wsX40)
def wsX0_pointsOf : List Cond := .code yX0_pointsOf cX0_pointsOf 1 (some .int) :: ([.static yX5_isBelow, .initialized RX5, .code yX5_isBelow cX5_isBelow 2 (some .boolean)])
def wsX0_gradeOf_r1 : List Cond := [Cond.fieldLink RX0 37 "RagVats$Mill" "vats" "LRagVats$Vats;", Cond.fieldLink RX0 44 "RagVats$Mill" "moulds" "LRagVats$Moulds;", Cond.methodLink RX0 138 yX4_beatOf, Cond.instanceMethod yX4_beatOf, Cond.selects RX4 yX4_beatOf yX4_beatOf, Cond.initialized RX4, Cond.code yX4_beatOf cX4_beatOf 2 (some .int), Cond.fieldLink RX4 15 "RagVats$Vats" "beat" "[I", Cond.static yX5_isBelow, Cond.initialized RX5, Cond.code yX5_isBelow cX5_isBelow 2 (some .boolean), Cond.methodLink RX0 184 yX4_sortOf, Cond.instanceMethod yX4_sortOf, Cond.selects RX4 yX4_sortOf yX4_sortOf, Cond.code yX4_sortOf cX4_sortOf 2 (some .int), Cond.fieldLink RX4 18 "RagVats$Vats" "sort" "[I", Cond.methodLink RX0 187 yX0_pointsOf, Cond.static yX0_pointsOf, Cond.initialized RX0, Cond.code yX0_pointsOf cX0_pointsOf 1 (some .int), Cond.methodLink RX0 120 yX1_wornOf, Cond.instanceMethod yX1_wornOf, Cond.selects RX1 yX1_wornOf yX1_wornOf, Cond.initialized RX1]
def wsX0_gradeOf_r2 : List Cond := [Cond.code yX1_wornOf cX1_wornOf 2 (some .int), Cond.fieldLink RX1 22 "RagVats$Moulds" "worn" "[I", Cond.methodLink RX1 31 yX1_has, Cond.instanceMethod yX1_has, Cond.selects RX1 yX1_has yX1_has, Cond.code yX1_has cX1_has 2 (some .boolean), Cond.fieldLink RX1 9 "RagVats$Moulds" "number" "I"]
def wsX0_gradeOf : List Cond := .code yX0_gradeOf cX0_gradeOf 4 (some .int) :: ((wsX0_gradeOf_r1 ++ wsX0_gradeOf_r2) ++ wsX00 ++ wsX40 ++ wsX10)
def wsX2_add : List Cond := .code yX2_add cX2_add 4 none :: ([.fieldLink RX2 9 "RagVats$Posts" "number" "I", .fieldLink RX2 18 "RagVats$Posts" "mark" "[I", .fieldLink RX2 22 "RagVats$Posts" "grade" "[I", .fieldLink RX2 25 "RagVats$Posts" "sheets" "[I", .fieldLink RX2 15 "RagVats$Posts" "allSheets" "I"] ++ wsX20)
def wsX5_worthOf : List Cond := .code yX5_worthOf cX5_worthOf 1 (some .int) :: ([.fieldLink RX5 252 "RagVats" "SHEET_WORTH" "[I", .methodLink RX5 19 yX5_isBelow, .static yX5_isBelow, .initialized RX5, .code yX5_isBelow cX5_isBelow 2 (some .boolean)])
def wsX4_charge : List Cond := .code yX4_charge cX4_charge 4 none :: ([.fieldLink RX4 9 "RagVats$Vats" "pulp" "[I", .fieldLink RX4 15 "RagVats$Vats" "beat" "[I", .fieldLink RX4 18 "RagVats$Vats" "sort" "[I", .static yX5_isBelow, .initialized RX5, .code yX5_isBelow cX5_isBelow 2 (some .boolean)] ++ wsX40)
def wsX4_takeOut : List Cond := .code yX4_takeOut cX4_takeOut 3 none :: ([.fieldLink RX4 9 "RagVats$Vats" "pulp" "[I", .static yX5_isBelow, .initialized RX5, .code yX5_isBelow cX5_isBelow 2 (some .boolean), .methodLink RX4 47 yX4_charge, .instanceMethod yX4_charge, .selects RX4 yX4_charge yX4_charge, .initialized RX4, .code yX4_charge cX4_charge 4 none, .fieldLink RX4 15 "RagVats$Vats" "beat" "[I", .fieldLink RX4 18 "RagVats$Vats" "sort" "[I"] ++ wsX40)
def wsX1_wearBySheets : List Cond := .code yX1_wearBySheets cX1_wearBySheets 3 none :: ([.fieldLink RX1 22 "RagVats$Moulds" "worn" "[I", .methodLink RX1 35 Lib.Math.min.name, .static Lib.Math.min.name, .initialized "java/lang/Math", .code Lib.Math.min.name Lib.Math.min.code 2 (some .int), .methodLink RX1 31 yX1_has, .instanceMethod yX1_has, .selects RX1 yX1_has yX1_has, .initialized RX1, .code yX1_has cX1_has 2 (some .boolean), .fieldLink RX1 9 "RagVats$Moulds" "number" "I"] ++ wsX10)
def wsX0_makeSheets_r1 : List Cond := [Cond.fieldLink RX0 51 "RagVats$Mill" "teams" "LRagVats$Teams;", Cond.fieldLink RX0 58 "RagVats$Mill" "posts" "LRagVats$Posts;", Cond.fieldLink RX0 44 "RagVats$Mill" "moulds" "LRagVats$Moulds;", Cond.fieldLink RX0 21 "RagVats$Mill" "made" "I", Cond.fieldLink RX0 24 "RagVats$Mill" "worth" "I", Cond.fieldLink RX0 37 "RagVats$Mill" "vats" "LRagVats$Vats;", Cond.methodLink RX0 135 yX0_sheetsOf, Cond.instanceMethod yX0_sheetsOf, Cond.selects RX0 yX0_sheetsOf yX0_sheetsOf, Cond.initialized RX0, Cond.code yX0_sheetsOf cX0_sheetsOf 6 (some .int), Cond.methodLink RX0 141 Lib.Math.min.name, Cond.static Lib.Math.min.name, Cond.initialized "java/lang/Math", Cond.code Lib.Math.min.name Lib.Math.min.code 2 (some .int), Cond.methodLink RX0 129 yX3_vatOf, Cond.instanceMethod yX3_vatOf, Cond.selects RX3 yX3_vatOf yX3_vatOf, Cond.initialized RX3, Cond.code yX3_vatOf cX3_vatOf 2 (some .int), Cond.fieldLink RX3 19 "RagVats$Teams" "vat" "[I", Cond.methodLink RX3 31 yX3_has, Cond.instanceMethod yX3_has, Cond.selects RX3 yX3_has yX3_has]
def wsX0_makeSheets_r2 : List Cond := [Cond.code yX3_has cX3_has 2 (some .boolean), Cond.fieldLink RX3 9 "RagVats$Teams" "number" "I", Cond.methodLink RX0 132 yX3_pairOf, Cond.instanceMethod yX3_pairOf, Cond.selects RX3 yX3_pairOf yX3_pairOf, Cond.code yX3_pairOf cX3_pairOf 2 (some .int), Cond.fieldLink RX3 22 "RagVats$Teams" "pair" "[I", Cond.methodLink RX0 138 yX4_beatOf, Cond.instanceMethod yX4_beatOf, Cond.selects RX4 yX4_beatOf yX4_beatOf, Cond.initialized RX4, Cond.code yX4_beatOf cX4_beatOf 2 (some .int), Cond.fieldLink RX4 15 "RagVats$Vats" "beat" "[I", Cond.static yX5_isBelow, Cond.initialized RX5, Cond.code yX5_isBelow cX5_isBelow 2 (some .boolean), Cond.methodLink RX0 117 yX1_sizeOf, Cond.instanceMethod yX1_sizeOf, Cond.selects RX1 yX1_sizeOf yX1_sizeOf, Cond.initialized RX1, Cond.code yX1_sizeOf cX1_sizeOf 2 (some .int), Cond.fieldLink RX1 19 "RagVats$Moulds" "size" "[I", Cond.methodLink RX1 31 yX1_has, Cond.instanceMethod yX1_has]
def wsX0_makeSheets_r3 : List Cond := [Cond.selects RX1 yX1_has yX1_has, Cond.code yX1_has cX1_has 2 (some .boolean), Cond.fieldLink RX1 9 "RagVats$Moulds" "number" "I", Cond.methodLink RX0 126 yX3_skillOf, Cond.instanceMethod yX3_skillOf, Cond.selects RX3 yX3_skillOf yX3_skillOf, Cond.code yX3_skillOf cX3_skillOf 2 (some .int), Cond.fieldLink RX3 15 "RagVats$Teams" "skill" "[I", Cond.methodLink RX0 97 yX0_freeFelts, Cond.instanceMethod yX0_freeFelts, Cond.selects RX0 yX0_freeFelts yX0_freeFelts, Cond.code yX0_freeFelts cX0_freeFelts 1 (some .int), Cond.fieldLink RX0 18 "RagVats$Mill" "felts" "I", Cond.methodLink RX0 147 yX4_pulpOf, Cond.instanceMethod yX4_pulpOf, Cond.selects RX4 yX4_pulpOf yX4_pulpOf, Cond.code yX4_pulpOf cX4_pulpOf 2 (some .int), Cond.fieldLink RX4 9 "RagVats$Vats" "pulp" "[I", Cond.methodLink RX0 167 yX0_gradeOf, Cond.instanceMethod yX0_gradeOf, Cond.selects RX0 yX0_gradeOf yX0_gradeOf, Cond.code yX0_gradeOf cX0_gradeOf 4 (some .int), Cond.methodLink RX0 184 yX4_sortOf, Cond.instanceMethod yX4_sortOf]
def wsX0_makeSheets_r4 : List Cond := [Cond.selects RX4 yX4_sortOf yX4_sortOf, Cond.code yX4_sortOf cX4_sortOf 2 (some .int), Cond.fieldLink RX4 18 "RagVats$Vats" "sort" "[I", Cond.methodLink RX0 187 yX0_pointsOf, Cond.static yX0_pointsOf, Cond.code yX0_pointsOf cX0_pointsOf 1 (some .int), Cond.methodLink RX0 120 yX1_wornOf, Cond.instanceMethod yX1_wornOf, Cond.selects RX1 yX1_wornOf yX1_wornOf, Cond.code yX1_wornOf cX1_wornOf 2 (some .int), Cond.fieldLink RX1 22 "RagVats$Moulds" "worn" "[I", Cond.methodLink RX0 114 yX1_markOf, Cond.instanceMethod yX1_markOf, Cond.selects RX1 yX1_markOf yX1_markOf, Cond.code yX1_markOf cX1_markOf 2 (some .int), Cond.fieldLink RX1 15 "RagVats$Moulds" "mark" "[I", Cond.methodLink RX0 170 yX2_add, Cond.instanceMethod yX2_add, Cond.selects RX2 yX2_add yX2_add, Cond.initialized RX2, Cond.code yX2_add cX2_add 4 none, Cond.fieldLink RX2 9 "RagVats$Posts" "number" "I", Cond.fieldLink RX2 18 "RagVats$Posts" "mark" "[I", Cond.fieldLink RX2 22 "RagVats$Posts" "grade" "[I"]
def wsX0_makeSheets_r5 : List Cond := [Cond.fieldLink RX2 25 "RagVats$Posts" "sheets" "[I", Cond.fieldLink RX2 15 "RagVats$Posts" "allSheets" "I", Cond.static yX5_worthOf, Cond.code yX5_worthOf cX5_worthOf 1 (some .int), Cond.fieldLink RX5 252 "RagVats" "SHEET_WORTH" "[I", Cond.methodLink RX5 19 yX5_isBelow, Cond.methodLink RX0 177 yX4_takeOut, Cond.instanceMethod yX4_takeOut, Cond.selects RX4 yX4_takeOut yX4_takeOut, Cond.code yX4_takeOut cX4_takeOut 3 none, Cond.methodLink RX4 47 yX4_charge, Cond.instanceMethod yX4_charge, Cond.selects RX4 yX4_charge yX4_charge, Cond.code yX4_charge cX4_charge 4 none, Cond.methodLink RX0 181 yX1_wearBySheets, Cond.instanceMethod yX1_wearBySheets, Cond.selects RX1 yX1_wearBySheets yX1_wearBySheets, Cond.code yX1_wearBySheets cX1_wearBySheets 3 none, Cond.methodLink RX1 35 Lib.Math.min.name]
def wsX0_makeSheets : List Cond := .code yX0_makeSheets cX0_makeSheets 6 none :: ((wsX0_makeSheets_r1 ++ (wsX0_makeSheets_r2 ++ (wsX0_makeSheets_r3 ++ (wsX0_makeSheets_r4 ++ wsX0_makeSheets_r5)))) ++ wsX00 ++ wsX30 ++ wsX40 ++ wsX10 ++ wsX20)
def wsX2_has : List Cond := .code yX2_has cX2_has 2 (some .boolean) :: ([.fieldLink RX2 9 "RagVats$Posts" "number" "I"] ++ wsX20)
def wsX2_sheetsOf : List Cond := .code yX2_sheetsOf cX2_sheetsOf 2 (some .int) :: ([.fieldLink RX2 25 "RagVats$Posts" "sheets" "[I", .methodLink RX2 44 yX2_has, .instanceMethod yX2_has, .selects RX2 yX2_has yX2_has, .initialized RX2, .code yX2_has cX2_has 2 (some .boolean), .fieldLink RX2 9 "RagVats$Posts" "number" "I"] ++ wsX20)
def wsX2_markOf : List Cond := .code yX2_markOf cX2_markOf 2 (some .int) :: ([.fieldLink RX2 18 "RagVats$Posts" "mark" "[I", .methodLink RX2 44 yX2_has, .instanceMethod yX2_has, .selects RX2 yX2_has yX2_has, .initialized RX2, .code yX2_has cX2_has 2 (some .boolean), .fieldLink RX2 9 "RagVats$Posts" "number" "I"] ++ wsX20)
def wsX2_gradeOf : List Cond := .code yX2_gradeOf cX2_gradeOf 2 (some .int) :: ([.fieldLink RX2 22 "RagVats$Posts" "grade" "[I", .methodLink RX2 44 yX2_has, .instanceMethod yX2_has, .selects RX2 yX2_has yX2_has, .initialized RX2, .code yX2_has cX2_has 2 (some .boolean), .fieldLink RX2 9 "RagVats$Posts" "number" "I"] ++ wsX20)
def wsX2_takeOff : List Cond := .code yX2_takeOff cX2_takeOff 3 none :: ([.fieldLink RX2 25 "RagVats$Posts" "sheets" "[I", .fieldLink RX2 15 "RagVats$Posts" "allSheets" "I", .methodLink RX2 44 yX2_has, .instanceMethod yX2_has, .selects RX2 yX2_has yX2_has, .initialized RX2, .code yX2_has cX2_has 2 (some .boolean), .fieldLink RX2 9 "RagVats$Posts" "number" "I"] ++ wsX20)
def wsX2_dropEmptyOnes : List Cond := .code yX2_dropEmptyOnes cX2_dropEmptyOnes 3 none :: ([.fieldLink RX2 9 "RagVats$Posts" "number" "I", .fieldLink RX2 25 "RagVats$Posts" "sheets" "[I", .fieldLink RX2 18 "RagVats$Posts" "mark" "[I", .fieldLink RX2 22 "RagVats$Posts" "grade" "[I"] ++ wsX20)
def wsX0_pressPosts_r1 : List Cond := [Cond.fieldLink RX0 58 "RagVats$Mill" "posts" "LRagVats$Posts;", Cond.methodLink RX0 141 Lib.Math.min.name, Cond.static Lib.Math.min.name, Cond.initialized "java/lang/Math", Cond.code Lib.Math.min.name Lib.Math.min.code 2 (some .int), Cond.methodLink RX0 193 yX2_sheetsOf, Cond.instanceMethod yX2_sheetsOf, Cond.selects RX2 yX2_sheetsOf yX2_sheetsOf, Cond.initialized RX2, Cond.code yX2_sheetsOf cX2_sheetsOf 2 (some .int), Cond.fieldLink RX2 25 "RagVats$Posts" "sheets" "[I", Cond.methodLink RX2 44 yX2_has, Cond.instanceMethod yX2_has, Cond.selects RX2 yX2_has yX2_has, Cond.code yX2_has cX2_has 2 (some .boolean), Cond.fieldLink RX2 9 "RagVats$Posts" "number" "I", Cond.methodLink RX0 194 yX2_markOf, Cond.instanceMethod yX2_markOf, Cond.selects RX2 yX2_markOf yX2_markOf, Cond.code yX2_markOf cX2_markOf 2 (some .int), Cond.fieldLink RX2 18 "RagVats$Posts" "mark" "[I", Cond.methodLink RX0 195 yX2_gradeOf, Cond.instanceMethod yX2_gradeOf, Cond.selects RX2 yX2_gradeOf yX2_gradeOf]
def wsX0_pressPosts_r2 : List Cond := [Cond.code yX2_gradeOf cX2_gradeOf 2 (some .int), Cond.fieldLink RX2 22 "RagVats$Posts" "grade" "[I", Cond.methodLink RX0 197 yX0_hang, Cond.instanceMethod yX0_hang, Cond.selects RX0 yX0_hang yX0_hang, Cond.initialized RX0, Cond.code yX0_hang cX0_hang 4 none, Cond.fieldLink RX0 62 "RagVats$Mill" "loft" "[I", Cond.static yX5_isBelow, Cond.initialized RX5, Cond.code yX5_isBelow cX5_isBelow 2 (some .boolean), Cond.methodLink RX0 200 yX2_takeOff, Cond.instanceMethod yX2_takeOff, Cond.selects RX2 yX2_takeOff yX2_takeOff, Cond.code yX2_takeOff cX2_takeOff 3 none, Cond.fieldLink RX2 15 "RagVats$Posts" "allSheets" "I", Cond.methodLink RX0 203 yX2_dropEmptyOnes, Cond.instanceMethod yX2_dropEmptyOnes, Cond.selects RX2 yX2_dropEmptyOnes yX2_dropEmptyOnes, Cond.code yX2_dropEmptyOnes cX2_dropEmptyOnes 3 none]
def wsX0_pressPosts : List Cond := .code yX0_pressPosts cX0_pressPosts 4 none :: ((wsX0_pressPosts_r1 ++ wsX0_pressPosts_r2) ++ wsX00 ++ wsX20)
def wsX0_liveDay_r1 : List Cond := [Cond.fieldLink RX0 37 "RagVats$Mill" "vats" "LRagVats$Vats;", Cond.fieldLink RX0 31 "RagVats$Mill" "water" "[I", Cond.fieldLink RX0 9 "RagVats$Mill" "day" "I", Cond.fieldLink RX0 51 "RagVats$Mill" "teams" "LRagVats$Teams;", Cond.methodLink RX0 153 yJ9_floorMod_7cf53, Cond.static yJ9_floorMod_7cf53, Cond.initialized RJ9, Cond.code yJ9_floorMod_7cf53 cJ9_floorMod_7cf53 3 (some .int), Cond.methodLink RX0 156 yX4_beatAll, Cond.instanceMethod yX4_beatAll, Cond.selects RX4 yX4_beatAll yX4_beatAll, Cond.initialized RX4, Cond.code yX4_beatAll cX4_beatAll 5 none, Cond.fieldLink RX4 9 "RagVats$Vats" "pulp" "[I", Cond.fieldLink RX4 15 "RagVats$Vats" "beat" "[I", Cond.methodLink RX4 55 Lib.Math.min.name, Cond.static Lib.Math.min.name, Cond.initialized "java/lang/Math", Cond.code Lib.Math.min.name Lib.Math.min.code 2 (some .int), Cond.methodLink RX4 51 yX4_numberWithPulp, Cond.instanceMethod yX4_numberWithPulp, Cond.selects RX4 yX4_numberWithPulp yX4_numberWithPulp, Cond.code yX4_numberWithPulp cX4_numberWithPulp 3 (some .int), Cond.methodLink RX0 161 yX0_makeSheets]
def wsX0_liveDay_r2 : List Cond := [Cond.instanceMethod yX0_makeSheets, Cond.selects RX0 yX0_makeSheets yX0_makeSheets, Cond.initialized RX0, Cond.code yX0_makeSheets cX0_makeSheets 6 none, Cond.fieldLink RX0 58 "RagVats$Mill" "posts" "LRagVats$Posts;", Cond.fieldLink RX0 44 "RagVats$Mill" "moulds" "LRagVats$Moulds;", Cond.fieldLink RX0 21 "RagVats$Mill" "made" "I", Cond.fieldLink RX0 24 "RagVats$Mill" "worth" "I", Cond.methodLink RX0 135 yX0_sheetsOf, Cond.instanceMethod yX0_sheetsOf, Cond.selects RX0 yX0_sheetsOf yX0_sheetsOf, Cond.code yX0_sheetsOf cX0_sheetsOf 6 (some .int), Cond.methodLink RX0 141 Lib.Math.min.name, Cond.methodLink RX0 129 yX3_vatOf, Cond.instanceMethod yX3_vatOf, Cond.selects RX3 yX3_vatOf yX3_vatOf, Cond.initialized RX3, Cond.code yX3_vatOf cX3_vatOf 2 (some .int), Cond.fieldLink RX3 19 "RagVats$Teams" "vat" "[I", Cond.methodLink RX3 31 yX3_has, Cond.instanceMethod yX3_has, Cond.selects RX3 yX3_has yX3_has, Cond.code yX3_has cX3_has 2 (some .boolean), Cond.fieldLink RX3 9 "RagVats$Teams" "number" "I"]
def wsX0_liveDay_r3 : List Cond := [Cond.methodLink RX0 132 yX3_pairOf, Cond.instanceMethod yX3_pairOf, Cond.selects RX3 yX3_pairOf yX3_pairOf, Cond.code yX3_pairOf cX3_pairOf 2 (some .int), Cond.fieldLink RX3 22 "RagVats$Teams" "pair" "[I", Cond.methodLink RX0 138 yX4_beatOf, Cond.instanceMethod yX4_beatOf, Cond.selects RX4 yX4_beatOf yX4_beatOf, Cond.code yX4_beatOf cX4_beatOf 2 (some .int), Cond.static yX5_isBelow, Cond.initialized RX5, Cond.code yX5_isBelow cX5_isBelow 2 (some .boolean), Cond.methodLink RX0 117 yX1_sizeOf, Cond.instanceMethod yX1_sizeOf, Cond.selects RX1 yX1_sizeOf yX1_sizeOf, Cond.initialized RX1, Cond.code yX1_sizeOf cX1_sizeOf 2 (some .int), Cond.fieldLink RX1 19 "RagVats$Moulds" "size" "[I", Cond.methodLink RX1 31 yX1_has, Cond.instanceMethod yX1_has, Cond.selects RX1 yX1_has yX1_has, Cond.code yX1_has cX1_has 2 (some .boolean), Cond.fieldLink RX1 9 "RagVats$Moulds" "number" "I", Cond.methodLink RX0 126 yX3_skillOf]
def wsX0_liveDay_r4 : List Cond := [Cond.instanceMethod yX3_skillOf, Cond.selects RX3 yX3_skillOf yX3_skillOf, Cond.code yX3_skillOf cX3_skillOf 2 (some .int), Cond.fieldLink RX3 15 "RagVats$Teams" "skill" "[I", Cond.methodLink RX0 97 yX0_freeFelts, Cond.instanceMethod yX0_freeFelts, Cond.selects RX0 yX0_freeFelts yX0_freeFelts, Cond.code yX0_freeFelts cX0_freeFelts 1 (some .int), Cond.fieldLink RX0 18 "RagVats$Mill" "felts" "I", Cond.methodLink RX0 147 yX4_pulpOf, Cond.instanceMethod yX4_pulpOf, Cond.selects RX4 yX4_pulpOf yX4_pulpOf, Cond.code yX4_pulpOf cX4_pulpOf 2 (some .int), Cond.methodLink RX0 167 yX0_gradeOf, Cond.instanceMethod yX0_gradeOf, Cond.selects RX0 yX0_gradeOf yX0_gradeOf, Cond.code yX0_gradeOf cX0_gradeOf 4 (some .int), Cond.methodLink RX0 184 yX4_sortOf, Cond.instanceMethod yX4_sortOf, Cond.selects RX4 yX4_sortOf yX4_sortOf, Cond.code yX4_sortOf cX4_sortOf 2 (some .int), Cond.fieldLink RX4 18 "RagVats$Vats" "sort" "[I", Cond.methodLink RX0 187 yX0_pointsOf, Cond.static yX0_pointsOf]
def wsX0_liveDay_r5 : List Cond := [Cond.code yX0_pointsOf cX0_pointsOf 1 (some .int), Cond.methodLink RX0 120 yX1_wornOf, Cond.instanceMethod yX1_wornOf, Cond.selects RX1 yX1_wornOf yX1_wornOf, Cond.code yX1_wornOf cX1_wornOf 2 (some .int), Cond.fieldLink RX1 22 "RagVats$Moulds" "worn" "[I", Cond.methodLink RX0 114 yX1_markOf, Cond.instanceMethod yX1_markOf, Cond.selects RX1 yX1_markOf yX1_markOf, Cond.code yX1_markOf cX1_markOf 2 (some .int), Cond.fieldLink RX1 15 "RagVats$Moulds" "mark" "[I", Cond.methodLink RX0 170 yX2_add, Cond.instanceMethod yX2_add, Cond.selects RX2 yX2_add yX2_add, Cond.initialized RX2, Cond.code yX2_add cX2_add 4 none, Cond.fieldLink RX2 9 "RagVats$Posts" "number" "I", Cond.fieldLink RX2 18 "RagVats$Posts" "mark" "[I", Cond.fieldLink RX2 22 "RagVats$Posts" "grade" "[I", Cond.fieldLink RX2 25 "RagVats$Posts" "sheets" "[I", Cond.fieldLink RX2 15 "RagVats$Posts" "allSheets" "I", Cond.static yX5_worthOf, Cond.code yX5_worthOf cX5_worthOf 1 (some .int), Cond.fieldLink RX5 252 "RagVats" "SHEET_WORTH" "[I"]
def wsX0_liveDay_r6 : List Cond := [Cond.methodLink RX5 19 yX5_isBelow, Cond.methodLink RX0 177 yX4_takeOut, Cond.instanceMethod yX4_takeOut, Cond.selects RX4 yX4_takeOut yX4_takeOut, Cond.code yX4_takeOut cX4_takeOut 3 none, Cond.methodLink RX4 47 yX4_charge, Cond.instanceMethod yX4_charge, Cond.selects RX4 yX4_charge yX4_charge, Cond.code yX4_charge cX4_charge 4 none, Cond.methodLink RX0 181 yX1_wearBySheets, Cond.instanceMethod yX1_wearBySheets, Cond.selects RX1 yX1_wearBySheets yX1_wearBySheets, Cond.code yX1_wearBySheets cX1_wearBySheets 3 none, Cond.methodLink RX1 35 Lib.Math.min.name, Cond.methodLink RX0 164 yX0_pressPosts, Cond.instanceMethod yX0_pressPosts, Cond.selects RX0 yX0_pressPosts yX0_pressPosts, Cond.code yX0_pressPosts cX0_pressPosts 4 none, Cond.methodLink RX0 193 yX2_sheetsOf, Cond.instanceMethod yX2_sheetsOf, Cond.selects RX2 yX2_sheetsOf yX2_sheetsOf, Cond.code yX2_sheetsOf cX2_sheetsOf 2 (some .int), Cond.methodLink RX2 44 yX2_has, Cond.instanceMethod yX2_has]
def wsX0_liveDay_r7 : List Cond := [Cond.selects RX2 yX2_has yX2_has, Cond.code yX2_has cX2_has 2 (some .boolean), Cond.methodLink RX0 194 yX2_markOf, Cond.instanceMethod yX2_markOf, Cond.selects RX2 yX2_markOf yX2_markOf, Cond.code yX2_markOf cX2_markOf 2 (some .int), Cond.methodLink RX0 195 yX2_gradeOf, Cond.instanceMethod yX2_gradeOf, Cond.selects RX2 yX2_gradeOf yX2_gradeOf, Cond.code yX2_gradeOf cX2_gradeOf 2 (some .int), Cond.methodLink RX0 197 yX0_hang, Cond.instanceMethod yX0_hang, Cond.selects RX0 yX0_hang yX0_hang, Cond.code yX0_hang cX0_hang 4 none, Cond.fieldLink RX0 62 "RagVats$Mill" "loft" "[I", Cond.methodLink RX0 200 yX2_takeOff, Cond.instanceMethod yX2_takeOff, Cond.selects RX2 yX2_takeOff yX2_takeOff, Cond.code yX2_takeOff cX2_takeOff 3 none, Cond.methodLink RX0 203 yX2_dropEmptyOnes, Cond.instanceMethod yX2_dropEmptyOnes, Cond.selects RX2 yX2_dropEmptyOnes yX2_dropEmptyOnes, Cond.code yX2_dropEmptyOnes cX2_dropEmptyOnes 3 none]
def wsX0_liveDay : List Cond := .code yX0_liveDay cX0_liveDay 2 none :: ((wsX0_liveDay_r1 ++ (wsX0_liveDay_r2 ++ (wsX0_liveDay_r3 ++ (wsX0_liveDay_r4 ++ (wsX0_liveDay_r5 ++ (wsX0_liveDay_r6 ++ wsX0_liveDay_r7)))))) ++ wsX00 ++ wsX30 ++ wsX40 ++ wsX10 ++ wsX20)
def wsX0_liveDays_r1 : List Cond := [Cond.methodLink RX0 150 yX0_liveDay, Cond.instanceMethod yX0_liveDay, Cond.selects RX0 yX0_liveDay yX0_liveDay, Cond.initialized RX0, Cond.code yX0_liveDay cX0_liveDay 2 none, Cond.fieldLink RX0 37 "RagVats$Mill" "vats" "LRagVats$Vats;", Cond.fieldLink RX0 31 "RagVats$Mill" "water" "[I", Cond.fieldLink RX0 9 "RagVats$Mill" "day" "I", Cond.fieldLink RX0 51 "RagVats$Mill" "teams" "LRagVats$Teams;", Cond.methodLink RX0 153 yJ9_floorMod_7cf53, Cond.static yJ9_floorMod_7cf53, Cond.initialized RJ9, Cond.code yJ9_floorMod_7cf53 cJ9_floorMod_7cf53 3 (some .int), Cond.methodLink RX0 156 yX4_beatAll, Cond.instanceMethod yX4_beatAll, Cond.selects RX4 yX4_beatAll yX4_beatAll, Cond.initialized RX4, Cond.code yX4_beatAll cX4_beatAll 5 none, Cond.fieldLink RX4 9 "RagVats$Vats" "pulp" "[I", Cond.fieldLink RX4 15 "RagVats$Vats" "beat" "[I", Cond.methodLink RX4 55 Lib.Math.min.name, Cond.static Lib.Math.min.name, Cond.initialized "java/lang/Math", Cond.code Lib.Math.min.name Lib.Math.min.code 2 (some .int)]
def wsX0_liveDays_r2 : List Cond := [Cond.methodLink RX4 51 yX4_numberWithPulp, Cond.instanceMethod yX4_numberWithPulp, Cond.selects RX4 yX4_numberWithPulp yX4_numberWithPulp, Cond.code yX4_numberWithPulp cX4_numberWithPulp 3 (some .int), Cond.methodLink RX0 161 yX0_makeSheets, Cond.instanceMethod yX0_makeSheets, Cond.selects RX0 yX0_makeSheets yX0_makeSheets, Cond.code yX0_makeSheets cX0_makeSheets 6 none, Cond.fieldLink RX0 58 "RagVats$Mill" "posts" "LRagVats$Posts;", Cond.fieldLink RX0 44 "RagVats$Mill" "moulds" "LRagVats$Moulds;", Cond.fieldLink RX0 21 "RagVats$Mill" "made" "I", Cond.fieldLink RX0 24 "RagVats$Mill" "worth" "I", Cond.methodLink RX0 135 yX0_sheetsOf, Cond.instanceMethod yX0_sheetsOf, Cond.selects RX0 yX0_sheetsOf yX0_sheetsOf, Cond.code yX0_sheetsOf cX0_sheetsOf 6 (some .int), Cond.methodLink RX0 141 Lib.Math.min.name, Cond.methodLink RX0 129 yX3_vatOf, Cond.instanceMethod yX3_vatOf, Cond.selects RX3 yX3_vatOf yX3_vatOf, Cond.initialized RX3, Cond.code yX3_vatOf cX3_vatOf 2 (some .int), Cond.fieldLink RX3 19 "RagVats$Teams" "vat" "[I", Cond.methodLink RX3 31 yX3_has]
def wsX0_liveDays_r3 : List Cond := [Cond.instanceMethod yX3_has, Cond.selects RX3 yX3_has yX3_has, Cond.code yX3_has cX3_has 2 (some .boolean), Cond.fieldLink RX3 9 "RagVats$Teams" "number" "I", Cond.methodLink RX0 132 yX3_pairOf, Cond.instanceMethod yX3_pairOf, Cond.selects RX3 yX3_pairOf yX3_pairOf, Cond.code yX3_pairOf cX3_pairOf 2 (some .int), Cond.fieldLink RX3 22 "RagVats$Teams" "pair" "[I", Cond.methodLink RX0 138 yX4_beatOf, Cond.instanceMethod yX4_beatOf, Cond.selects RX4 yX4_beatOf yX4_beatOf, Cond.code yX4_beatOf cX4_beatOf 2 (some .int), Cond.static yX5_isBelow, Cond.initialized RX5, Cond.code yX5_isBelow cX5_isBelow 2 (some .boolean), Cond.methodLink RX0 117 yX1_sizeOf, Cond.instanceMethod yX1_sizeOf, Cond.selects RX1 yX1_sizeOf yX1_sizeOf, Cond.initialized RX1, Cond.code yX1_sizeOf cX1_sizeOf 2 (some .int), Cond.fieldLink RX1 19 "RagVats$Moulds" "size" "[I", Cond.methodLink RX1 31 yX1_has, Cond.instanceMethod yX1_has]
def wsX0_liveDays_r4 : List Cond := [Cond.selects RX1 yX1_has yX1_has, Cond.code yX1_has cX1_has 2 (some .boolean), Cond.fieldLink RX1 9 "RagVats$Moulds" "number" "I", Cond.methodLink RX0 126 yX3_skillOf, Cond.instanceMethod yX3_skillOf, Cond.selects RX3 yX3_skillOf yX3_skillOf, Cond.code yX3_skillOf cX3_skillOf 2 (some .int), Cond.fieldLink RX3 15 "RagVats$Teams" "skill" "[I", Cond.methodLink RX0 97 yX0_freeFelts, Cond.instanceMethod yX0_freeFelts, Cond.selects RX0 yX0_freeFelts yX0_freeFelts, Cond.code yX0_freeFelts cX0_freeFelts 1 (some .int), Cond.fieldLink RX0 18 "RagVats$Mill" "felts" "I", Cond.methodLink RX0 147 yX4_pulpOf, Cond.instanceMethod yX4_pulpOf, Cond.selects RX4 yX4_pulpOf yX4_pulpOf, Cond.code yX4_pulpOf cX4_pulpOf 2 (some .int), Cond.methodLink RX0 167 yX0_gradeOf, Cond.instanceMethod yX0_gradeOf, Cond.selects RX0 yX0_gradeOf yX0_gradeOf, Cond.code yX0_gradeOf cX0_gradeOf 4 (some .int), Cond.methodLink RX0 184 yX4_sortOf, Cond.instanceMethod yX4_sortOf, Cond.selects RX4 yX4_sortOf yX4_sortOf]
def wsX0_liveDays_r5 : List Cond := [Cond.code yX4_sortOf cX4_sortOf 2 (some .int), Cond.fieldLink RX4 18 "RagVats$Vats" "sort" "[I", Cond.methodLink RX0 187 yX0_pointsOf, Cond.static yX0_pointsOf, Cond.code yX0_pointsOf cX0_pointsOf 1 (some .int), Cond.methodLink RX0 120 yX1_wornOf, Cond.instanceMethod yX1_wornOf, Cond.selects RX1 yX1_wornOf yX1_wornOf, Cond.code yX1_wornOf cX1_wornOf 2 (some .int), Cond.fieldLink RX1 22 "RagVats$Moulds" "worn" "[I", Cond.methodLink RX0 114 yX1_markOf, Cond.instanceMethod yX1_markOf, Cond.selects RX1 yX1_markOf yX1_markOf, Cond.code yX1_markOf cX1_markOf 2 (some .int), Cond.fieldLink RX1 15 "RagVats$Moulds" "mark" "[I", Cond.methodLink RX0 170 yX2_add, Cond.instanceMethod yX2_add, Cond.selects RX2 yX2_add yX2_add, Cond.initialized RX2, Cond.code yX2_add cX2_add 4 none, Cond.fieldLink RX2 9 "RagVats$Posts" "number" "I", Cond.fieldLink RX2 18 "RagVats$Posts" "mark" "[I", Cond.fieldLink RX2 22 "RagVats$Posts" "grade" "[I", Cond.fieldLink RX2 25 "RagVats$Posts" "sheets" "[I"]
def wsX0_liveDays_r6 : List Cond := [Cond.fieldLink RX2 15 "RagVats$Posts" "allSheets" "I", Cond.static yX5_worthOf, Cond.code yX5_worthOf cX5_worthOf 1 (some .int), Cond.fieldLink RX5 252 "RagVats" "SHEET_WORTH" "[I", Cond.methodLink RX5 19 yX5_isBelow, Cond.methodLink RX0 177 yX4_takeOut, Cond.instanceMethod yX4_takeOut, Cond.selects RX4 yX4_takeOut yX4_takeOut, Cond.code yX4_takeOut cX4_takeOut 3 none, Cond.methodLink RX4 47 yX4_charge, Cond.instanceMethod yX4_charge, Cond.selects RX4 yX4_charge yX4_charge, Cond.code yX4_charge cX4_charge 4 none, Cond.methodLink RX0 181 yX1_wearBySheets, Cond.instanceMethod yX1_wearBySheets, Cond.selects RX1 yX1_wearBySheets yX1_wearBySheets, Cond.code yX1_wearBySheets cX1_wearBySheets 3 none, Cond.methodLink RX1 35 Lib.Math.min.name, Cond.methodLink RX0 164 yX0_pressPosts, Cond.instanceMethod yX0_pressPosts, Cond.selects RX0 yX0_pressPosts yX0_pressPosts, Cond.code yX0_pressPosts cX0_pressPosts 4 none, Cond.methodLink RX0 193 yX2_sheetsOf, Cond.instanceMethod yX2_sheetsOf]
def wsX0_liveDays_r7 : List Cond := [Cond.selects RX2 yX2_sheetsOf yX2_sheetsOf, Cond.code yX2_sheetsOf cX2_sheetsOf 2 (some .int), Cond.methodLink RX2 44 yX2_has, Cond.instanceMethod yX2_has, Cond.selects RX2 yX2_has yX2_has, Cond.code yX2_has cX2_has 2 (some .boolean), Cond.methodLink RX0 194 yX2_markOf, Cond.instanceMethod yX2_markOf, Cond.selects RX2 yX2_markOf yX2_markOf, Cond.code yX2_markOf cX2_markOf 2 (some .int), Cond.methodLink RX0 195 yX2_gradeOf, Cond.instanceMethod yX2_gradeOf, Cond.selects RX2 yX2_gradeOf yX2_gradeOf, Cond.code yX2_gradeOf cX2_gradeOf 2 (some .int), Cond.methodLink RX0 197 yX0_hang, Cond.instanceMethod yX0_hang, Cond.selects RX0 yX0_hang yX0_hang, Cond.code yX0_hang cX0_hang 4 none, Cond.fieldLink RX0 62 "RagVats$Mill" "loft" "[I", Cond.methodLink RX0 200 yX2_takeOff, Cond.instanceMethod yX2_takeOff, Cond.selects RX2 yX2_takeOff yX2_takeOff, Cond.code yX2_takeOff cX2_takeOff 3 none, Cond.methodLink RX0 203 yX2_dropEmptyOnes]
def wsX0_liveDays_r8 : List Cond := [Cond.instanceMethod yX2_dropEmptyOnes, Cond.selects RX2 yX2_dropEmptyOnes yX2_dropEmptyOnes, Cond.code yX2_dropEmptyOnes cX2_dropEmptyOnes 3 none]
def wsX0_liveDays : List Cond := .code yX0_liveDays cX0_liveDays 3 none :: ((wsX0_liveDays_r1 ++ (wsX0_liveDays_r2 ++ (wsX0_liveDays_r3 ++ (wsX0_liveDays_r4 ++ (wsX0_liveDays_r5 ++ (wsX0_liveDays_r6 ++ (wsX0_liveDays_r7 ++ wsX0_liveDays_r8))))))) ++ wsX00 ++ wsX30 ++ wsX40 ++ wsX10 ++ wsX20)
def wsX1_add : List Cond := .code yX1_add cX1_add 3 (some .int) :: ([.fieldLink RX1 9 "RagVats$Moulds" "number" "I", .fieldLink RX1 15 "RagVats$Moulds" "mark" "[I", .fieldLink RX1 19 "RagVats$Moulds" "size" "[I", .fieldLink RX1 22 "RagVats$Moulds" "worn" "[I"] ++ wsX10)
def wsX1_makeNew : List Cond := .code yX1_makeNew cX1_makeNew 2 none :: ([.fieldLink RX1 22 "RagVats$Moulds" "worn" "[I", .methodLink RX1 31 yX1_has, .instanceMethod yX1_has, .selects RX1 yX1_has yX1_has, .initialized RX1, .code yX1_has cX1_has 2 (some .boolean), .fieldLink RX1 9 "RagVats$Moulds" "number" "I"] ++ wsX10)
def wsX2_tell : List Cond := .code yX2_tell cX2_tell 3 (some .int) :: ([.methodLink RX2 34 yX2_markOf, .instanceMethod yX2_markOf, .selects RX2 yX2_markOf yX2_markOf, .initialized RX2, .code yX2_markOf cX2_markOf 2 (some .int), .fieldLink RX2 18 "RagVats$Posts" "mark" "[I", .methodLink RX2 44 yX2_has, .instanceMethod yX2_has, .selects RX2 yX2_has yX2_has, .code yX2_has cX2_has 2 (some .boolean), .fieldLink RX2 9 "RagVats$Posts" "number" "I", .methodLink RX2 38 yX2_gradeOf, .instanceMethod yX2_gradeOf, .selects RX2 yX2_gradeOf yX2_gradeOf, .code yX2_gradeOf cX2_gradeOf 2 (some .int), .fieldLink RX2 22 "RagVats$Posts" "grade" "[I", .methodLink RX2 41 yX2_sheetsOf, .instanceMethod yX2_sheetsOf, .selects RX2 yX2_sheetsOf yX2_sheetsOf, .code yX2_sheetsOf cX2_sheetsOf 2 (some .int), .fieldLink RX2 25 "RagVats$Posts" "sheets" "[I"] ++ wsX20)
def wsX3_add : List Cond := .code yX3_add cX3_add 2 (some .int) :: ([.fieldLink RX3 9 "RagVats$Teams" "number" "I", .fieldLink RX3 15 "RagVats$Teams" "skill" "[I", .fieldLink RX3 19 "RagVats$Teams" "vat" "[I", .fieldLink RX3 22 "RagVats$Teams" "pair" "[I"] ++ wsX30)
def wsX3_send : List Cond := .code yX3_send cX3_send 4 none :: ([.fieldLink RX3 19 "RagVats$Teams" "vat" "[I", .fieldLink RX3 22 "RagVats$Teams" "pair" "[I", .methodLink RX3 31 yX3_has, .instanceMethod yX3_has, .selects RX3 yX3_has yX3_has, .initialized RX3, .code yX3_has cX3_has 2 (some .boolean), .fieldLink RX3 9 "RagVats$Teams" "number" "I"] ++ wsX30)
def wsX4_tell : List Cond := .code yX4_tell cX4_tell 3 (some .int) :: ([.methodLink RX4 37 yX4_pulpOf, .instanceMethod yX4_pulpOf, .selects RX4 yX4_pulpOf yX4_pulpOf, .initialized RX4, .code yX4_pulpOf cX4_pulpOf 2 (some .int), .fieldLink RX4 9 "RagVats$Vats" "pulp" "[I", .static yX5_isBelow, .initialized RX5, .code yX5_isBelow cX5_isBelow 2 (some .boolean), .methodLink RX4 41 yX4_beatOf, .instanceMethod yX4_beatOf, .selects RX4 yX4_beatOf yX4_beatOf, .code yX4_beatOf cX4_beatOf 2 (some .int), .fieldLink RX4 15 "RagVats$Vats" "beat" "[I", .methodLink RX4 44 yX4_sortOf, .instanceMethod yX4_sortOf, .selects RX4 yX4_sortOf yX4_sortOf, .code yX4_sortOf cX4_sortOf 2 (some .int), .fieldLink RX4 18 "RagVats$Vats" "sort" "[I"] ++ wsX40)
def wsX5_init_r1 : List Cond := [Cond.methodLink RX5 1 objectInit, Cond.instanceMethod objectInit, Cond.code objectInit ⟨#[0xb1]⟩ 1 none, Cond.classLink RX5 7 RX0, Cond.instantiable RX0 12, Cond.initialized RX0, Cond.fieldLink RX5 10 "RagVats" "mill" "LRagVats$Mill;", Cond.fieldLink RX5 16 "RagVats" "trial" "LRagVats$Mill;", Cond.methodLink RX5 9 yX0_init, Cond.instanceMethod yX0_init, Cond.code yX0_init cX0_init 1 none, Cond.methodLink RX0 3 objectInit, Cond.fieldLink RX0 9 "RagVats$Mill" "day" "I", Cond.fieldLink RX0 15 "RagVats$Mill" "coins" "I", Cond.fieldLink RX0 18 "RagVats$Mill" "felts" "I", Cond.fieldLink RX0 21 "RagVats$Mill" "made" "I", Cond.fieldLink RX0 24 "RagVats$Mill" "worth" "I", Cond.arrayClass .int, Cond.fieldLink RX0 27 "RagVats$Mill" "rags" "[I", Cond.fieldLink RX0 31 "RagVats$Mill" "water" "[I", Cond.classLink RX0 34 RX4, Cond.instantiable RX4 3, Cond.initialized RX4, Cond.fieldLink RX0 37 "RagVats$Mill" "vats" "LRagVats$Vats;"]
def wsX5_init_r2 : List Cond := [Cond.classLink RX0 41 RX1, Cond.instantiable RX1 4, Cond.initialized RX1, Cond.fieldLink RX0 44 "RagVats$Mill" "moulds" "LRagVats$Moulds;", Cond.classLink RX0 48 RX3, Cond.instantiable RX3 4, Cond.initialized RX3, Cond.fieldLink RX0 51 "RagVats$Mill" "teams" "LRagVats$Teams;", Cond.classLink RX0 55 RX2, Cond.instantiable RX2 5, Cond.initialized RX2, Cond.fieldLink RX0 58 "RagVats$Mill" "posts" "LRagVats$Posts;", Cond.fieldLink RX0 62 "RagVats$Mill" "loft" "[I", Cond.methodLink RX0 36 yX4_init, Cond.instanceMethod yX4_init, Cond.code yX4_init cX4_init 1 none, Cond.methodLink RX4 3 objectInit, Cond.fieldLink RX4 9 "RagVats$Vats" "pulp" "[I", Cond.fieldLink RX4 15 "RagVats$Vats" "beat" "[I", Cond.fieldLink RX4 18 "RagVats$Vats" "sort" "[I", Cond.methodLink RX4 21 yJ7_fill_53178, Cond.static yJ7_fill_53178, Cond.initialized RJ7, Cond.code yJ7_fill_53178 cJ7_fill_53178 4 none]
def wsX5_init_r3 : List Cond := [Cond.instanceMethod yX1_init, Cond.code yX1_init cX1_init 1 none, Cond.methodLink RX1 3 objectInit, Cond.fieldLink RX1 9 "RagVats$Moulds" "number" "I", Cond.fieldLink RX1 15 "RagVats$Moulds" "mark" "[I", Cond.fieldLink RX1 19 "RagVats$Moulds" "size" "[I", Cond.fieldLink RX1 22 "RagVats$Moulds" "worn" "[I", Cond.instanceMethod yX3_init, Cond.code yX3_init cX3_init 1 none, Cond.methodLink RX3 3 objectInit, Cond.fieldLink RX3 9 "RagVats$Teams" "number" "I", Cond.fieldLink RX3 15 "RagVats$Teams" "skill" "[I", Cond.fieldLink RX3 19 "RagVats$Teams" "vat" "[I", Cond.fieldLink RX3 22 "RagVats$Teams" "pair" "[I", Cond.instanceMethod yX2_init, Cond.code yX2_init cX2_init 1 none, Cond.methodLink RX2 3 objectInit, Cond.fieldLink RX2 9 "RagVats$Posts" "number" "I", Cond.fieldLink RX2 15 "RagVats$Posts" "allSheets" "I", Cond.fieldLink RX2 18 "RagVats$Posts" "mark" "[I", Cond.fieldLink RX2 22 "RagVats$Posts" "grade" "[I", Cond.fieldLink RX2 25 "RagVats$Posts" "sheets" "[I", Cond.methodLink RX0 65 yJ7_fill_53178]
def wsX5_init : List Cond := .code yX5_init cX5_init 1 none :: ((wsX5_init_r1 ++ (wsX5_init_r2 ++ wsX5_init_r3)) ++ wsX00 ++ wsX50 ++ wsX40 ++ wsX10 ++ wsX30 ++ wsX20)
def wsX5_isFrom1To : List Cond := .code yX5_isFrom1To cX5_isFrom1To 2 (some .boolean) :: ([])
def wsX5_buy : List Cond := .code yX5_buy cX5_buy 4 (some .int) :: ([.classLink RX5 23 "java/lang/IndexOutOfBoundsException", .initialized "java/lang/IndexOutOfBoundsException", .classLink RX5 33 "java/lang/IllegalArgumentException", .initialized "java/lang/IllegalArgumentException", .classLink RX5 46 "java/lang/IllegalStateException", .initialized "java/lang/IllegalStateException", .fieldLink RX5 38 "RagVats" "PRICES" "[I", .fieldLink RX5 10 "RagVats" "mill" "LRagVats$Mill;", .methodLink RX5 19 yX5_isBelow, .static yX5_isBelow, .initialized RX5, .code yX5_isBelow cX5_isBelow 2 (some .boolean), .methodLink RX5 30 yX5_isFrom1To, .static yX5_isFrom1To, .code yX5_isFrom1To cX5_isFrom1To 2 (some .boolean), .methodLink RX5 56 yX0_takeIn, .instanceMethod yX0_takeIn, .selects RX0 yX0_takeIn yX0_takeIn, .initialized RX0, .code yX0_takeIn cX0_takeIn 3 (some .int), .fieldLink RX0 18 "RagVats$Mill" "felts" "I", .fieldLink RX0 27 "RagVats$Mill" "rags" "[I"] ++ wsX50 ++ wsX00 ++ (vx_atS RX5 27 "java/lang/IndexOutOfBoundsException" ["java/lang/RuntimeException", "java/lang/Exception"]).filter goodWord ++ (vx_atS RX5 37 "java/lang/IllegalArgumentException" ["java/lang/RuntimeException", "java/lang/Exception"]).filter goodWord ++ (vx_atS RX5 50 "java/lang/IllegalStateException" ["java/lang/RuntimeException", "java/lang/Exception"]).filter goodWord)
def wsX5_sell_r1 : List Cond := [Cond.classLink RX5 23 "java/lang/IndexOutOfBoundsException", Cond.initialized "java/lang/IndexOutOfBoundsException", Cond.classLink RX5 33 "java/lang/IllegalArgumentException", Cond.initialized "java/lang/IllegalArgumentException", Cond.classLink RX5 46 "java/lang/IllegalStateException", Cond.initialized "java/lang/IllegalStateException", Cond.fieldLink RX5 10 "RagVats" "mill" "LRagVats$Mill;", Cond.methodLink RX5 19 yX5_isBelow, Cond.static yX5_isBelow, Cond.initialized RX5, Cond.code yX5_isBelow cX5_isBelow 2 (some .boolean), Cond.methodLink RX5 30 yX5_isFrom1To, Cond.static yX5_isFrom1To, Cond.code yX5_isFrom1To cX5_isFrom1To 2 (some .boolean), Cond.methodLink RX5 64 yX0_hanging, Cond.instanceMethod yX0_hanging, Cond.selects RX0 yX0_hanging yX0_hanging, Cond.initialized RX0, Cond.code yX0_hanging cX0_hanging 3 (some .int), Cond.fieldLink RX0 62 "RagVats$Mill" "loft" "[I", Cond.methodLink RX5 69 yX5_worthOf, Cond.static yX5_worthOf, Cond.code yX5_worthOf cX5_worthOf 1 (some .int), Cond.fieldLink RX5 252 "RagVats" "SHEET_WORTH" "[I"]
def wsX5_sell_r2 : List Cond := [Cond.methodLink RX5 73 yX0_hang, Cond.instanceMethod yX0_hang, Cond.selects RX0 yX0_hang yX0_hang, Cond.code yX0_hang cX0_hang 4 none]
def wsX5_sell : List Cond := .code yX5_sell cX5_sell 6 (some .int) :: ((wsX5_sell_r1 ++ wsX5_sell_r2) ++ wsX50 ++ wsX00 ++ (vx_atS RX5 27 "java/lang/IndexOutOfBoundsException" ["java/lang/RuntimeException", "java/lang/Exception"]).filter goodWord ++ (vx_atS RX5 37 "java/lang/IllegalArgumentException" ["java/lang/RuntimeException", "java/lang/Exception"]).filter goodWord ++ (vx_atS RX5 50 "java/lang/IllegalStateException" ["java/lang/RuntimeException", "java/lang/Exception"]).filter goodWord)
def wsX5_fill_r1 : List Cond := [Cond.classLink RX5 23 "java/lang/IndexOutOfBoundsException", Cond.initialized "java/lang/IndexOutOfBoundsException", Cond.classLink RX5 33 "java/lang/IllegalArgumentException", Cond.initialized "java/lang/IllegalArgumentException", Cond.classLink RX5 46 "java/lang/IllegalStateException", Cond.initialized "java/lang/IllegalStateException", Cond.fieldLink RX5 10 "RagVats" "mill" "LRagVats$Mill;", Cond.methodLink RX5 19 yX5_isBelow, Cond.static yX5_isBelow, Cond.initialized RX5, Cond.code yX5_isBelow cX5_isBelow 2 (some .boolean), Cond.methodLink RX5 30 yX5_isFrom1To, Cond.static yX5_isFrom1To, Cond.code yX5_isFrom1To cX5_isFrom1To 2 (some .boolean), Cond.methodLink RX5 85 yX4_pulpOf, Cond.instanceMethod yX4_pulpOf, Cond.selects RX4 yX4_pulpOf yX4_pulpOf, Cond.initialized RX4, Cond.code yX4_pulpOf cX4_pulpOf 2 (some .int), Cond.fieldLink RX4 9 "RagVats$Vats" "pulp" "[I", Cond.methodLink RX5 97 yX4_charge, Cond.instanceMethod yX4_charge, Cond.selects RX4 yX4_charge yX4_charge, Cond.code yX4_charge cX4_charge 4 none]
def wsX5_fill_r2 : List Cond := [Cond.fieldLink RX4 15 "RagVats$Vats" "beat" "[I", Cond.fieldLink RX4 18 "RagVats$Vats" "sort" "[I"]
def wsX5_fill : List Cond := .code yX5_fill cX5_fill 4 (some .int) :: ((wsX5_fill_r1 ++ wsX5_fill_r2) ++ wsX50 ++ wsX00 ++ wsX40 ++ (vx_atS RX5 27 "java/lang/IndexOutOfBoundsException" ["java/lang/RuntimeException", "java/lang/Exception"]).filter goodWord ++ (vx_atS RX5 37 "java/lang/IllegalArgumentException" ["java/lang/RuntimeException", "java/lang/Exception"]).filter goodWord ++ (vx_atS RX5 50 "java/lang/IllegalStateException" ["java/lang/RuntimeException", "java/lang/Exception"]).filter goodWord)
def wsX5_drain_r1 : List Cond := [Cond.classLink RX5 23 "java/lang/IndexOutOfBoundsException", Cond.initialized "java/lang/IndexOutOfBoundsException", Cond.classLink RX5 46 "java/lang/IllegalStateException", Cond.initialized "java/lang/IllegalStateException", Cond.fieldLink RX5 10 "RagVats" "mill" "LRagVats$Mill;", Cond.methodLink RX5 19 yX5_isBelow, Cond.static yX5_isBelow, Cond.initialized RX5, Cond.code yX5_isBelow cX5_isBelow 2 (some .boolean), Cond.methodLink RX5 85 yX4_pulpOf, Cond.instanceMethod yX4_pulpOf, Cond.selects RX4 yX4_pulpOf yX4_pulpOf, Cond.initialized RX4, Cond.code yX4_pulpOf cX4_pulpOf 2 (some .int), Cond.fieldLink RX4 9 "RagVats$Vats" "pulp" "[I", Cond.methodLink RX5 104 yX4_takeOut, Cond.instanceMethod yX4_takeOut, Cond.selects RX4 yX4_takeOut yX4_takeOut, Cond.code yX4_takeOut cX4_takeOut 3 none, Cond.methodLink RX4 47 yX4_charge, Cond.instanceMethod yX4_charge, Cond.selects RX4 yX4_charge yX4_charge, Cond.code yX4_charge cX4_charge 4 none, Cond.fieldLink RX4 15 "RagVats$Vats" "beat" "[I"]
def wsX5_drain_r2 : List Cond := [Cond.fieldLink RX4 18 "RagVats$Vats" "sort" "[I"]
def wsX5_drain : List Cond := .code yX5_drain cX5_drain 3 (some .int) :: ((wsX5_drain_r1 ++ wsX5_drain_r2) ++ wsX50 ++ wsX00 ++ wsX40 ++ (vx_atS RX5 27 "java/lang/IndexOutOfBoundsException" ["java/lang/RuntimeException", "java/lang/Exception"]).filter goodWord ++ (vx_atS RX5 50 "java/lang/IllegalStateException" ["java/lang/RuntimeException", "java/lang/Exception"]).filter goodWord)
def wsX5_pair : List Cond := .code yX5_pair cX5_pair 3 (some .int) :: ([.classLink RX5 23 "java/lang/IndexOutOfBoundsException", .initialized "java/lang/IndexOutOfBoundsException", .classLink RX5 33 "java/lang/IllegalArgumentException", .initialized "java/lang/IllegalArgumentException", .classLink RX5 46 "java/lang/IllegalStateException", .initialized "java/lang/IllegalStateException", .fieldLink RX5 10 "RagVats" "mill" "LRagVats$Mill;", .methodLink RX5 19 yX5_isBelow, .static yX5_isBelow, .initialized RX5, .code yX5_isBelow cX5_isBelow 2 (some .boolean), .methodLink RX5 30 yX5_isFrom1To, .static yX5_isFrom1To, .code yX5_isFrom1To cX5_isFrom1To 2 (some .boolean), .methodLink RX5 123 yX1_add, .instanceMethod yX1_add, .selects RX1 yX1_add yX1_add, .initialized RX1, .code yX1_add cX1_add 3 (some .int), .fieldLink RX1 9 "RagVats$Moulds" "number" "I", .fieldLink RX1 15 "RagVats$Moulds" "mark" "[I", .fieldLink RX1 19 "RagVats$Moulds" "size" "[I", .fieldLink RX1 22 "RagVats$Moulds" "worn" "[I"] ++ wsX50 ++ wsX00 ++ wsX10 ++ (vx_atS RX5 27 "java/lang/IndexOutOfBoundsException" ["java/lang/RuntimeException", "java/lang/Exception"]).filter goodWord ++ (vx_atS RX5 37 "java/lang/IllegalArgumentException" ["java/lang/RuntimeException", "java/lang/Exception"]).filter goodWord ++ (vx_atS RX5 50 "java/lang/IllegalStateException" ["java/lang/RuntimeException", "java/lang/Exception"]).filter goodWord)
def wsX5_wire : List Cond := .code yX5_wire cX5_wire 3 (some .int) :: ([.classLink RX5 23 "java/lang/IndexOutOfBoundsException", .initialized "java/lang/IndexOutOfBoundsException", .classLink RX5 46 "java/lang/IllegalStateException", .initialized "java/lang/IllegalStateException", .fieldLink RX5 10 "RagVats" "mill" "LRagVats$Mill;", .methodLink RX5 126 yX1_has, .instanceMethod yX1_has, .selects RX1 yX1_has yX1_has, .initialized RX1, .code yX1_has cX1_has 2 (some .boolean), .fieldLink RX1 9 "RagVats$Moulds" "number" "I", .methodLink RX5 132 yX1_wornOf, .instanceMethod yX1_wornOf, .selects RX1 yX1_wornOf yX1_wornOf, .code yX1_wornOf cX1_wornOf 2 (some .int), .fieldLink RX1 22 "RagVats$Moulds" "worn" "[I", .methodLink RX1 31 yX1_has, .methodLink RX5 137 yX1_makeNew, .instanceMethod yX1_makeNew, .selects RX1 yX1_makeNew yX1_makeNew, .code yX1_makeNew cX1_makeNew 2 none] ++ wsX50 ++ wsX00 ++ wsX10 ++ (vx_atS RX5 27 "java/lang/IndexOutOfBoundsException" ["java/lang/RuntimeException", "java/lang/Exception"]).filter goodWord ++ (vx_atS RX5 50 "java/lang/IllegalStateException" ["java/lang/RuntimeException", "java/lang/Exception"]).filter goodWord)
def wsX5_team : List Cond := .code yX5_team cX5_team 2 (some .int) :: ([.classLink RX5 33 "java/lang/IllegalArgumentException", .initialized "java/lang/IllegalArgumentException", .classLink RX5 46 "java/lang/IllegalStateException", .initialized "java/lang/IllegalStateException", .fieldLink RX5 10 "RagVats" "mill" "LRagVats$Mill;", .methodLink RX5 30 yX5_isFrom1To, .static yX5_isFrom1To, .initialized RX5, .code yX5_isFrom1To cX5_isFrom1To 2 (some .boolean), .methodLink RX5 152 yX3_add, .instanceMethod yX3_add, .selects RX3 yX3_add yX3_add, .initialized RX3, .code yX3_add cX3_add 2 (some .int), .fieldLink RX3 9 "RagVats$Teams" "number" "I", .fieldLink RX3 15 "RagVats$Teams" "skill" "[I", .fieldLink RX3 19 "RagVats$Teams" "vat" "[I", .fieldLink RX3 22 "RagVats$Teams" "pair" "[I"] ++ wsX50 ++ wsX00 ++ wsX30 ++ (vx_atS RX5 37 "java/lang/IllegalArgumentException" ["java/lang/RuntimeException", "java/lang/Exception"]).filter goodWord ++ (vx_atS RX5 50 "java/lang/IllegalStateException" ["java/lang/RuntimeException", "java/lang/Exception"]).filter goodWord)
def wsX5_place_r1 : List Cond := [Cond.classLink RX5 23 "java/lang/IndexOutOfBoundsException", Cond.initialized "java/lang/IndexOutOfBoundsException", Cond.classLink RX5 46 "java/lang/IllegalStateException", Cond.initialized "java/lang/IllegalStateException", Cond.fieldLink RX5 10 "RagVats" "mill" "LRagVats$Mill;", Cond.methodLink RX5 154 yX3_has, Cond.instanceMethod yX3_has, Cond.selects RX3 yX3_has yX3_has, Cond.initialized RX3, Cond.code yX3_has cX3_has 2 (some .boolean), Cond.fieldLink RX3 9 "RagVats$Teams" "number" "I", Cond.methodLink RX5 19 yX5_isBelow, Cond.static yX5_isBelow, Cond.initialized RX5, Cond.code yX5_isBelow cX5_isBelow 2 (some .boolean), Cond.methodLink RX5 126 yX1_has, Cond.instanceMethod yX1_has, Cond.selects RX1 yX1_has yX1_has, Cond.initialized RX1, Cond.code yX1_has cX1_has 2 (some .boolean), Cond.fieldLink RX1 9 "RagVats$Moulds" "number" "I", Cond.methodLink RX5 157 yX3_holderOf, Cond.instanceMethod yX3_holderOf, Cond.selects RX3 yX3_holderOf yX3_holderOf]
def wsX5_place_r2 : List Cond := [Cond.code yX3_holderOf cX3_holderOf 3 (some .int), Cond.methodLink RX3 35 yX3_pairOf, Cond.instanceMethod yX3_pairOf, Cond.selects RX3 yX3_pairOf yX3_pairOf, Cond.code yX3_pairOf cX3_pairOf 2 (some .int), Cond.fieldLink RX3 22 "RagVats$Teams" "pair" "[I", Cond.methodLink RX3 31 yX3_has, Cond.methodLink RX5 162 yX3_send, Cond.instanceMethod yX3_send, Cond.selects RX3 yX3_send yX3_send, Cond.code yX3_send cX3_send 4 none, Cond.fieldLink RX3 19 "RagVats$Teams" "vat" "[I", Cond.methodLink RX5 165 yX0_sheetsOf, Cond.instanceMethod yX0_sheetsOf, Cond.selects RX0 yX0_sheetsOf yX0_sheetsOf, Cond.initialized RX0, Cond.code yX0_sheetsOf cX0_sheetsOf 6 (some .int), Cond.fieldLink RX0 51 "RagVats$Mill" "teams" "LRagVats$Teams;", Cond.fieldLink RX0 37 "RagVats$Mill" "vats" "LRagVats$Vats;", Cond.fieldLink RX0 44 "RagVats$Mill" "moulds" "LRagVats$Moulds;", Cond.methodLink RX0 141 Lib.Math.min.name, Cond.static Lib.Math.min.name, Cond.initialized "java/lang/Math", Cond.code Lib.Math.min.name Lib.Math.min.code 2 (some .int)]
def wsX5_place_r3 : List Cond := [Cond.methodLink RX0 129 yX3_vatOf, Cond.instanceMethod yX3_vatOf, Cond.selects RX3 yX3_vatOf yX3_vatOf, Cond.code yX3_vatOf cX3_vatOf 2 (some .int), Cond.methodLink RX0 132 yX3_pairOf, Cond.methodLink RX0 138 yX4_beatOf, Cond.instanceMethod yX4_beatOf, Cond.selects RX4 yX4_beatOf yX4_beatOf, Cond.initialized RX4, Cond.code yX4_beatOf cX4_beatOf 2 (some .int), Cond.fieldLink RX4 15 "RagVats$Vats" "beat" "[I", Cond.methodLink RX0 117 yX1_sizeOf, Cond.instanceMethod yX1_sizeOf, Cond.selects RX1 yX1_sizeOf yX1_sizeOf, Cond.code yX1_sizeOf cX1_sizeOf 2 (some .int), Cond.fieldLink RX1 19 "RagVats$Moulds" "size" "[I", Cond.methodLink RX1 31 yX1_has, Cond.methodLink RX0 126 yX3_skillOf, Cond.instanceMethod yX3_skillOf, Cond.selects RX3 yX3_skillOf yX3_skillOf, Cond.code yX3_skillOf cX3_skillOf 2 (some .int), Cond.fieldLink RX3 15 "RagVats$Teams" "skill" "[I", Cond.methodLink RX0 97 yX0_freeFelts, Cond.instanceMethod yX0_freeFelts]
def wsX5_place_r4 : List Cond := [Cond.selects RX0 yX0_freeFelts yX0_freeFelts, Cond.code yX0_freeFelts cX0_freeFelts 1 (some .int), Cond.fieldLink RX0 18 "RagVats$Mill" "felts" "I", Cond.fieldLink RX0 58 "RagVats$Mill" "posts" "LRagVats$Posts;", Cond.methodLink RX0 147 yX4_pulpOf, Cond.instanceMethod yX4_pulpOf, Cond.selects RX4 yX4_pulpOf yX4_pulpOf, Cond.code yX4_pulpOf cX4_pulpOf 2 (some .int), Cond.fieldLink RX4 9 "RagVats$Vats" "pulp" "[I"]
def wsX5_place : List Cond := .code yX5_place cX5_place 5 (some .int) :: ((wsX5_place_r1 ++ (wsX5_place_r2 ++ (wsX5_place_r3 ++ wsX5_place_r4))) ++ wsX50 ++ wsX00 ++ wsX30 ++ wsX10 ++ wsX40 ++ wsX20 ++ (vx_atS RX5 27 "java/lang/IndexOutOfBoundsException" ["java/lang/RuntimeException", "java/lang/Exception"]).filter goodWord ++ (vx_atS RX5 50 "java/lang/IllegalStateException" ["java/lang/RuntimeException", "java/lang/Exception"]).filter goodWord)
def wsX5_setWater : List Cond := .code yX5_setWater cX5_setWater 4 (some .int) :: ([.classLink RX5 23 "java/lang/IndexOutOfBoundsException", .initialized "java/lang/IndexOutOfBoundsException", .classLink RX5 33 "java/lang/IllegalArgumentException", .initialized "java/lang/IllegalArgumentException", .fieldLink RX5 10 "RagVats" "mill" "LRagVats$Mill;", .methodLink RX5 19 yX5_isBelow, .static yX5_isBelow, .initialized RX5, .code yX5_isBelow cX5_isBelow 2 (some .boolean)] ++ wsX50 ++ wsX00 ++ (vx_atS RX5 27 "java/lang/IndexOutOfBoundsException" ["java/lang/RuntimeException", "java/lang/Exception"]).filter goodWord ++ (vx_atS RX5 37 "java/lang/IllegalArgumentException" ["java/lang/RuntimeException", "java/lang/Exception"]).filter goodWord)
def wsX5_about_r1 : List Cond := [Cond.classLink RX5 23 "java/lang/IndexOutOfBoundsException", Cond.initialized "java/lang/IndexOutOfBoundsException", Cond.fieldLink RX5 10 "RagVats" "mill" "LRagVats$Mill;", Cond.methodLink RX5 19 yX5_isBelow, Cond.static yX5_isBelow, Cond.initialized RX5, Cond.code yX5_isBelow cX5_isBelow 2 (some .boolean), Cond.methodLink RX5 177 yX4_tell, Cond.instanceMethod yX4_tell, Cond.selects RX4 yX4_tell yX4_tell, Cond.initialized RX4, Cond.code yX4_tell cX4_tell 3 (some .int), Cond.methodLink RX4 37 yX4_pulpOf, Cond.instanceMethod yX4_pulpOf, Cond.selects RX4 yX4_pulpOf yX4_pulpOf, Cond.code yX4_pulpOf cX4_pulpOf 2 (some .int), Cond.fieldLink RX4 9 "RagVats$Vats" "pulp" "[I", Cond.methodLink RX4 41 yX4_beatOf, Cond.instanceMethod yX4_beatOf, Cond.selects RX4 yX4_beatOf yX4_beatOf, Cond.code yX4_beatOf cX4_beatOf 2 (some .int), Cond.fieldLink RX4 15 "RagVats$Vats" "beat" "[I", Cond.methodLink RX4 44 yX4_sortOf, Cond.instanceMethod yX4_sortOf]
def wsX5_about_r2 : List Cond := [Cond.selects RX4 yX4_sortOf yX4_sortOf, Cond.code yX4_sortOf cX4_sortOf 2 (some .int), Cond.fieldLink RX4 18 "RagVats$Vats" "sort" "[I"]
def wsX5_about : List Cond := .code yX5_about cX5_about 3 (some .int) :: ((wsX5_about_r1 ++ wsX5_about_r2) ++ wsX50 ++ wsX00 ++ wsX40 ++ (vx_atS RX5 27 "java/lang/IndexOutOfBoundsException" ["java/lang/RuntimeException", "java/lang/Exception"]).filter goodWord)
def wsX5_mould_r1 : List Cond := [Cond.classLink RX5 23 "java/lang/IndexOutOfBoundsException", Cond.initialized "java/lang/IndexOutOfBoundsException", Cond.fieldLink RX5 10 "RagVats" "mill" "LRagVats$Mill;", Cond.methodLink RX5 126 yX1_has, Cond.instanceMethod yX1_has, Cond.selects RX1 yX1_has yX1_has, Cond.initialized RX1, Cond.code yX1_has cX1_has 2 (some .boolean), Cond.fieldLink RX1 9 "RagVats$Moulds" "number" "I", Cond.methodLink RX5 19 yX5_isBelow, Cond.static yX5_isBelow, Cond.initialized RX5, Cond.code yX5_isBelow cX5_isBelow 2 (some .boolean), Cond.methodLink RX5 182 yX0_tellPair, Cond.instanceMethod yX0_tellPair, Cond.selects RX0 yX0_tellPair yX0_tellPair, Cond.initialized RX0, Cond.code yX0_tellPair cX0_tellPair 3 (some .int), Cond.fieldLink RX0 44 "RagVats$Mill" "moulds" "LRagVats$Moulds;", Cond.fieldLink RX0 51 "RagVats$Mill" "teams" "LRagVats$Teams;", Cond.methodLink RX0 114 yX1_markOf, Cond.instanceMethod yX1_markOf, Cond.selects RX1 yX1_markOf yX1_markOf, Cond.code yX1_markOf cX1_markOf 2 (some .int)]
def wsX5_mould_r2 : List Cond := [Cond.fieldLink RX1 15 "RagVats$Moulds" "mark" "[I", Cond.methodLink RX1 31 yX1_has, Cond.methodLink RX0 117 yX1_sizeOf, Cond.instanceMethod yX1_sizeOf, Cond.selects RX1 yX1_sizeOf yX1_sizeOf, Cond.code yX1_sizeOf cX1_sizeOf 2 (some .int), Cond.fieldLink RX1 19 "RagVats$Moulds" "size" "[I", Cond.methodLink RX0 120 yX1_wornOf, Cond.instanceMethod yX1_wornOf, Cond.selects RX1 yX1_wornOf yX1_wornOf, Cond.code yX1_wornOf cX1_wornOf 2 (some .int), Cond.fieldLink RX1 22 "RagVats$Moulds" "worn" "[I", Cond.methodLink RX0 123 yX3_holderOf, Cond.instanceMethod yX3_holderOf, Cond.selects RX3 yX3_holderOf yX3_holderOf, Cond.initialized RX3, Cond.code yX3_holderOf cX3_holderOf 3 (some .int), Cond.fieldLink RX3 9 "RagVats$Teams" "number" "I", Cond.methodLink RX3 35 yX3_pairOf, Cond.instanceMethod yX3_pairOf, Cond.selects RX3 yX3_pairOf yX3_pairOf, Cond.code yX3_pairOf cX3_pairOf 2 (some .int), Cond.fieldLink RX3 22 "RagVats$Teams" "pair" "[I", Cond.methodLink RX3 31 yX3_has]
def wsX5_mould_r3 : List Cond := [Cond.instanceMethod yX3_has, Cond.selects RX3 yX3_has yX3_has, Cond.code yX3_has cX3_has 2 (some .boolean)]
def wsX5_mould : List Cond := .code yX5_mould cX5_mould 3 (some .int) :: ((wsX5_mould_r1 ++ (wsX5_mould_r2 ++ wsX5_mould_r3)) ++ wsX50 ++ wsX00 ++ wsX10 ++ wsX30 ++ (vx_atS RX5 27 "java/lang/IndexOutOfBoundsException" ["java/lang/RuntimeException", "java/lang/Exception"]).filter goodWord)
def wsX5_told_r1 : List Cond := [Cond.classLink RX5 23 "java/lang/IndexOutOfBoundsException", Cond.initialized "java/lang/IndexOutOfBoundsException", Cond.fieldLink RX5 10 "RagVats" "mill" "LRagVats$Mill;", Cond.methodLink RX5 154 yX3_has, Cond.instanceMethod yX3_has, Cond.selects RX3 yX3_has yX3_has, Cond.initialized RX3, Cond.code yX3_has cX3_has 2 (some .boolean), Cond.fieldLink RX3 9 "RagVats$Teams" "number" "I", Cond.methodLink RX5 19 yX5_isBelow, Cond.static yX5_isBelow, Cond.initialized RX5, Cond.code yX5_isBelow cX5_isBelow 2 (some .boolean), Cond.methodLink RX5 187 yX0_tellTeam, Cond.instanceMethod yX0_tellTeam, Cond.selects RX0 yX0_tellTeam yX0_tellTeam, Cond.initialized RX0, Cond.code yX0_tellTeam cX0_tellTeam 3 (some .int), Cond.fieldLink RX0 51 "RagVats$Mill" "teams" "LRagVats$Teams;", Cond.methodLink RX0 126 yX3_skillOf, Cond.instanceMethod yX3_skillOf, Cond.selects RX3 yX3_skillOf yX3_skillOf, Cond.code yX3_skillOf cX3_skillOf 2 (some .int), Cond.fieldLink RX3 15 "RagVats$Teams" "skill" "[I"]
def wsX5_told_r2 : List Cond := [Cond.methodLink RX3 31 yX3_has, Cond.methodLink RX0 129 yX3_vatOf, Cond.instanceMethod yX3_vatOf, Cond.selects RX3 yX3_vatOf yX3_vatOf, Cond.code yX3_vatOf cX3_vatOf 2 (some .int), Cond.fieldLink RX3 19 "RagVats$Teams" "vat" "[I", Cond.methodLink RX0 132 yX3_pairOf, Cond.instanceMethod yX3_pairOf, Cond.selects RX3 yX3_pairOf yX3_pairOf, Cond.code yX3_pairOf cX3_pairOf 2 (some .int), Cond.fieldLink RX3 22 "RagVats$Teams" "pair" "[I", Cond.methodLink RX0 135 yX0_sheetsOf, Cond.instanceMethod yX0_sheetsOf, Cond.selects RX0 yX0_sheetsOf yX0_sheetsOf, Cond.code yX0_sheetsOf cX0_sheetsOf 6 (some .int), Cond.fieldLink RX0 37 "RagVats$Mill" "vats" "LRagVats$Vats;", Cond.fieldLink RX0 44 "RagVats$Mill" "moulds" "LRagVats$Moulds;", Cond.methodLink RX0 141 Lib.Math.min.name, Cond.static Lib.Math.min.name, Cond.initialized "java/lang/Math", Cond.code Lib.Math.min.name Lib.Math.min.code 2 (some .int), Cond.methodLink RX0 138 yX4_beatOf, Cond.instanceMethod yX4_beatOf, Cond.selects RX4 yX4_beatOf yX4_beatOf]
def wsX5_told_r3 : List Cond := [Cond.initialized RX4, Cond.code yX4_beatOf cX4_beatOf 2 (some .int), Cond.fieldLink RX4 15 "RagVats$Vats" "beat" "[I", Cond.methodLink RX0 117 yX1_sizeOf, Cond.instanceMethod yX1_sizeOf, Cond.selects RX1 yX1_sizeOf yX1_sizeOf, Cond.initialized RX1, Cond.code yX1_sizeOf cX1_sizeOf 2 (some .int), Cond.fieldLink RX1 19 "RagVats$Moulds" "size" "[I", Cond.methodLink RX1 31 yX1_has, Cond.instanceMethod yX1_has, Cond.selects RX1 yX1_has yX1_has, Cond.code yX1_has cX1_has 2 (some .boolean), Cond.fieldLink RX1 9 "RagVats$Moulds" "number" "I", Cond.methodLink RX0 97 yX0_freeFelts, Cond.instanceMethod yX0_freeFelts, Cond.selects RX0 yX0_freeFelts yX0_freeFelts, Cond.code yX0_freeFelts cX0_freeFelts 1 (some .int), Cond.fieldLink RX0 18 "RagVats$Mill" "felts" "I", Cond.fieldLink RX0 58 "RagVats$Mill" "posts" "LRagVats$Posts;", Cond.methodLink RX0 147 yX4_pulpOf, Cond.instanceMethod yX4_pulpOf, Cond.selects RX4 yX4_pulpOf yX4_pulpOf, Cond.code yX4_pulpOf cX4_pulpOf 2 (some .int)]
def wsX5_told_r4 : List Cond := [Cond.fieldLink RX4 9 "RagVats$Vats" "pulp" "[I"]
def wsX5_told : List Cond := .code yX5_told cX5_told 3 (some .int) :: ((wsX5_told_r1 ++ (wsX5_told_r2 ++ (wsX5_told_r3 ++ wsX5_told_r4))) ++ wsX50 ++ wsX00 ++ wsX30 ++ wsX40 ++ wsX10 ++ wsX20 ++ (vx_atS RX5 27 "java/lang/IndexOutOfBoundsException" ["java/lang/RuntimeException", "java/lang/Exception"]).filter goodWord)
def wsX5_post_r1 : List Cond := [Cond.classLink RX5 23 "java/lang/IndexOutOfBoundsException", Cond.initialized "java/lang/IndexOutOfBoundsException", Cond.fieldLink RX5 10 "RagVats" "mill" "LRagVats$Mill;", Cond.methodLink RX5 194 yX2_has, Cond.instanceMethod yX2_has, Cond.selects RX2 yX2_has yX2_has, Cond.initialized RX2, Cond.code yX2_has cX2_has 2 (some .boolean), Cond.fieldLink RX2 9 "RagVats$Posts" "number" "I", Cond.methodLink RX5 19 yX5_isBelow, Cond.static yX5_isBelow, Cond.initialized RX5, Cond.code yX5_isBelow cX5_isBelow 2 (some .boolean), Cond.methodLink RX5 199 yX2_tell, Cond.instanceMethod yX2_tell, Cond.selects RX2 yX2_tell yX2_tell, Cond.code yX2_tell cX2_tell 3 (some .int), Cond.methodLink RX2 34 yX2_markOf, Cond.instanceMethod yX2_markOf, Cond.selects RX2 yX2_markOf yX2_markOf, Cond.code yX2_markOf cX2_markOf 2 (some .int), Cond.fieldLink RX2 18 "RagVats$Posts" "mark" "[I", Cond.methodLink RX2 44 yX2_has, Cond.methodLink RX2 38 yX2_gradeOf]
def wsX5_post_r2 : List Cond := [Cond.instanceMethod yX2_gradeOf, Cond.selects RX2 yX2_gradeOf yX2_gradeOf, Cond.code yX2_gradeOf cX2_gradeOf 2 (some .int), Cond.fieldLink RX2 22 "RagVats$Posts" "grade" "[I", Cond.methodLink RX2 41 yX2_sheetsOf, Cond.instanceMethod yX2_sheetsOf, Cond.selects RX2 yX2_sheetsOf yX2_sheetsOf, Cond.code yX2_sheetsOf cX2_sheetsOf 2 (some .int), Cond.fieldLink RX2 25 "RagVats$Posts" "sheets" "[I"]
def wsX5_post : List Cond := .code yX5_post cX5_post 3 (some .int) :: ((wsX5_post_r1 ++ wsX5_post_r2) ++ wsX50 ++ wsX00 ++ wsX20 ++ (vx_atS RX5 27 "java/lang/IndexOutOfBoundsException" ["java/lang/RuntimeException", "java/lang/Exception"]).filter goodWord)
def wsX5_loft : List Cond := .code yX5_loft cX5_loft 3 (some .int) :: ([.classLink RX5 23 "java/lang/IndexOutOfBoundsException", .initialized "java/lang/IndexOutOfBoundsException", .fieldLink RX5 10 "RagVats" "mill" "LRagVats$Mill;", .methodLink RX5 19 yX5_isBelow, .static yX5_isBelow, .initialized RX5, .code yX5_isBelow cX5_isBelow 2 (some .boolean), .methodLink RX5 64 yX0_hanging, .instanceMethod yX0_hanging, .selects RX0 yX0_hanging yX0_hanging, .initialized RX0, .code yX0_hanging cX0_hanging 3 (some .int), .fieldLink RX0 62 "RagVats$Mill" "loft" "[I"] ++ wsX50 ++ wsX00 ++ (vx_atS RX5 27 "java/lang/IndexOutOfBoundsException" ["java/lang/RuntimeException", "java/lang/Exception"]).filter goodWord)
def wsX5_count_r1 : List Cond := [Cond.classLink RX5 23 "java/lang/IndexOutOfBoundsException", Cond.initialized "java/lang/IndexOutOfBoundsException", Cond.fieldLink RX5 10 "RagVats" "mill" "LRagVats$Mill;", Cond.methodLink RX5 19 yX5_isBelow, Cond.static yX5_isBelow, Cond.initialized RX5, Cond.code yX5_isBelow cX5_isBelow 2 (some .boolean), Cond.methodLink RX5 202 yX0_tell, Cond.instanceMethod yX0_tell, Cond.selects RX0 yX0_tell yX0_tell, Cond.initialized RX0, Cond.code yX0_tell cX0_tell 2 (some .int), Cond.fieldLink RX0 9 "RagVats$Mill" "day" "I", Cond.fieldLink RX0 15 "RagVats$Mill" "coins" "I", Cond.fieldLink RX0 18 "RagVats$Mill" "felts" "I", Cond.fieldLink RX0 21 "RagVats$Mill" "made" "I", Cond.fieldLink RX0 24 "RagVats$Mill" "worth" "I", Cond.fieldLink RX0 58 "RagVats$Mill" "posts" "LRagVats$Posts;", Cond.fieldLink RX0 37 "RagVats$Mill" "vats" "LRagVats$Vats;", Cond.methodLink RX0 97 yX0_freeFelts, Cond.instanceMethod yX0_freeFelts, Cond.selects RX0 yX0_freeFelts yX0_freeFelts, Cond.code yX0_freeFelts cX0_freeFelts 1 (some .int), Cond.methodLink RX0 104 yX0_allHanging]
def wsX5_count_r2 : List Cond := [Cond.instanceMethod yX0_allHanging, Cond.selects RX0 yX0_allHanging yX0_allHanging, Cond.code yX0_allHanging cX0_allHanging 3 (some .int), Cond.fieldLink RX0 62 "RagVats$Mill" "loft" "[I", Cond.methodLink RX0 107 yX4_allPulp, Cond.instanceMethod yX4_allPulp, Cond.selects RX4 yX4_allPulp yX4_allPulp, Cond.initialized RX4, Cond.code yX4_allPulp cX4_allPulp 3 (some .int), Cond.fieldLink RX4 9 "RagVats$Vats" "pulp" "[I", Cond.methodLink RX0 110 yX0_poundsOf, Cond.instanceMethod yX0_poundsOf, Cond.selects RX0 yX0_poundsOf yX0_poundsOf, Cond.code yX0_poundsOf cX0_poundsOf 2 (some .int), Cond.fieldLink RX0 27 "RagVats$Mill" "rags" "[I"]
def wsX5_count : List Cond := .code yX5_count cX5_count 2 (some .int) :: ((wsX5_count_r1 ++ wsX5_count_r2) ++ wsX50 ++ wsX00 ++ wsX20 ++ wsX40 ++ (vx_atS RX5 27 "java/lang/IndexOutOfBoundsException" ["java/lang/RuntimeException", "java/lang/Exception"]).filter goodWord)
def wsX5_pass_r1 : List Cond := [Cond.classLink RX5 33 "java/lang/IllegalArgumentException", Cond.initialized "java/lang/IllegalArgumentException", Cond.fieldLink RX5 10 "RagVats" "mill" "LRagVats$Mill;", Cond.methodLink RX5 30 yX5_isFrom1To, Cond.static yX5_isFrom1To, Cond.initialized RX5, Cond.code yX5_isFrom1To cX5_isFrom1To 2 (some .boolean), Cond.methodLink RX5 209 yX0_liveDays, Cond.instanceMethod yX0_liveDays, Cond.selects RX0 yX0_liveDays yX0_liveDays, Cond.initialized RX0, Cond.code yX0_liveDays cX0_liveDays 3 none, Cond.methodLink RX0 150 yX0_liveDay, Cond.instanceMethod yX0_liveDay, Cond.selects RX0 yX0_liveDay yX0_liveDay, Cond.code yX0_liveDay cX0_liveDay 2 none, Cond.fieldLink RX0 37 "RagVats$Mill" "vats" "LRagVats$Vats;", Cond.fieldLink RX0 31 "RagVats$Mill" "water" "[I", Cond.fieldLink RX0 9 "RagVats$Mill" "day" "I", Cond.fieldLink RX0 51 "RagVats$Mill" "teams" "LRagVats$Teams;", Cond.methodLink RX0 153 yJ9_floorMod_7cf53, Cond.static yJ9_floorMod_7cf53, Cond.initialized RJ9, Cond.code yJ9_floorMod_7cf53 cJ9_floorMod_7cf53 3 (some .int)]
def wsX5_pass_r2 : List Cond := [Cond.methodLink RX0 156 yX4_beatAll, Cond.instanceMethod yX4_beatAll, Cond.selects RX4 yX4_beatAll yX4_beatAll, Cond.initialized RX4, Cond.code yX4_beatAll cX4_beatAll 5 none, Cond.fieldLink RX4 9 "RagVats$Vats" "pulp" "[I", Cond.fieldLink RX4 15 "RagVats$Vats" "beat" "[I", Cond.methodLink RX4 55 Lib.Math.min.name, Cond.static Lib.Math.min.name, Cond.initialized "java/lang/Math", Cond.code Lib.Math.min.name Lib.Math.min.code 2 (some .int), Cond.methodLink RX4 51 yX4_numberWithPulp, Cond.instanceMethod yX4_numberWithPulp, Cond.selects RX4 yX4_numberWithPulp yX4_numberWithPulp, Cond.code yX4_numberWithPulp cX4_numberWithPulp 3 (some .int), Cond.methodLink RX0 161 yX0_makeSheets, Cond.instanceMethod yX0_makeSheets, Cond.selects RX0 yX0_makeSheets yX0_makeSheets, Cond.code yX0_makeSheets cX0_makeSheets 6 none, Cond.fieldLink RX0 58 "RagVats$Mill" "posts" "LRagVats$Posts;", Cond.fieldLink RX0 44 "RagVats$Mill" "moulds" "LRagVats$Moulds;", Cond.fieldLink RX0 21 "RagVats$Mill" "made" "I", Cond.fieldLink RX0 24 "RagVats$Mill" "worth" "I", Cond.methodLink RX0 135 yX0_sheetsOf]
def wsX5_pass_r3 : List Cond := [Cond.instanceMethod yX0_sheetsOf, Cond.selects RX0 yX0_sheetsOf yX0_sheetsOf, Cond.code yX0_sheetsOf cX0_sheetsOf 6 (some .int), Cond.methodLink RX0 141 Lib.Math.min.name, Cond.methodLink RX0 129 yX3_vatOf, Cond.instanceMethod yX3_vatOf, Cond.selects RX3 yX3_vatOf yX3_vatOf, Cond.initialized RX3, Cond.code yX3_vatOf cX3_vatOf 2 (some .int), Cond.fieldLink RX3 19 "RagVats$Teams" "vat" "[I", Cond.methodLink RX3 31 yX3_has, Cond.instanceMethod yX3_has, Cond.selects RX3 yX3_has yX3_has, Cond.code yX3_has cX3_has 2 (some .boolean), Cond.fieldLink RX3 9 "RagVats$Teams" "number" "I", Cond.methodLink RX0 132 yX3_pairOf, Cond.instanceMethod yX3_pairOf, Cond.selects RX3 yX3_pairOf yX3_pairOf, Cond.code yX3_pairOf cX3_pairOf 2 (some .int), Cond.fieldLink RX3 22 "RagVats$Teams" "pair" "[I", Cond.methodLink RX0 138 yX4_beatOf, Cond.instanceMethod yX4_beatOf, Cond.selects RX4 yX4_beatOf yX4_beatOf, Cond.code yX4_beatOf cX4_beatOf 2 (some .int)]
def wsX5_pass_r4 : List Cond := [Cond.static yX5_isBelow, Cond.code yX5_isBelow cX5_isBelow 2 (some .boolean), Cond.methodLink RX0 117 yX1_sizeOf, Cond.instanceMethod yX1_sizeOf, Cond.selects RX1 yX1_sizeOf yX1_sizeOf, Cond.initialized RX1, Cond.code yX1_sizeOf cX1_sizeOf 2 (some .int), Cond.fieldLink RX1 19 "RagVats$Moulds" "size" "[I", Cond.methodLink RX1 31 yX1_has, Cond.instanceMethod yX1_has, Cond.selects RX1 yX1_has yX1_has, Cond.code yX1_has cX1_has 2 (some .boolean), Cond.fieldLink RX1 9 "RagVats$Moulds" "number" "I", Cond.methodLink RX0 126 yX3_skillOf, Cond.instanceMethod yX3_skillOf, Cond.selects RX3 yX3_skillOf yX3_skillOf, Cond.code yX3_skillOf cX3_skillOf 2 (some .int), Cond.fieldLink RX3 15 "RagVats$Teams" "skill" "[I", Cond.methodLink RX0 97 yX0_freeFelts, Cond.instanceMethod yX0_freeFelts, Cond.selects RX0 yX0_freeFelts yX0_freeFelts, Cond.code yX0_freeFelts cX0_freeFelts 1 (some .int), Cond.fieldLink RX0 18 "RagVats$Mill" "felts" "I", Cond.methodLink RX0 147 yX4_pulpOf]
def wsX5_pass_r5 : List Cond := [Cond.instanceMethod yX4_pulpOf, Cond.selects RX4 yX4_pulpOf yX4_pulpOf, Cond.code yX4_pulpOf cX4_pulpOf 2 (some .int), Cond.methodLink RX0 167 yX0_gradeOf, Cond.instanceMethod yX0_gradeOf, Cond.selects RX0 yX0_gradeOf yX0_gradeOf, Cond.code yX0_gradeOf cX0_gradeOf 4 (some .int), Cond.methodLink RX0 184 yX4_sortOf, Cond.instanceMethod yX4_sortOf, Cond.selects RX4 yX4_sortOf yX4_sortOf, Cond.code yX4_sortOf cX4_sortOf 2 (some .int), Cond.fieldLink RX4 18 "RagVats$Vats" "sort" "[I", Cond.methodLink RX0 187 yX0_pointsOf, Cond.static yX0_pointsOf, Cond.code yX0_pointsOf cX0_pointsOf 1 (some .int), Cond.methodLink RX0 120 yX1_wornOf, Cond.instanceMethod yX1_wornOf, Cond.selects RX1 yX1_wornOf yX1_wornOf, Cond.code yX1_wornOf cX1_wornOf 2 (some .int), Cond.fieldLink RX1 22 "RagVats$Moulds" "worn" "[I", Cond.methodLink RX0 114 yX1_markOf, Cond.instanceMethod yX1_markOf, Cond.selects RX1 yX1_markOf yX1_markOf, Cond.code yX1_markOf cX1_markOf 2 (some .int)]
def wsX5_pass_r6 : List Cond := [Cond.fieldLink RX1 15 "RagVats$Moulds" "mark" "[I", Cond.methodLink RX0 170 yX2_add, Cond.instanceMethod yX2_add, Cond.selects RX2 yX2_add yX2_add, Cond.initialized RX2, Cond.code yX2_add cX2_add 4 none, Cond.fieldLink RX2 9 "RagVats$Posts" "number" "I", Cond.fieldLink RX2 18 "RagVats$Posts" "mark" "[I", Cond.fieldLink RX2 22 "RagVats$Posts" "grade" "[I", Cond.fieldLink RX2 25 "RagVats$Posts" "sheets" "[I", Cond.fieldLink RX2 15 "RagVats$Posts" "allSheets" "I", Cond.static yX5_worthOf, Cond.code yX5_worthOf cX5_worthOf 1 (some .int), Cond.fieldLink RX5 252 "RagVats" "SHEET_WORTH" "[I", Cond.methodLink RX5 19 yX5_isBelow, Cond.methodLink RX0 177 yX4_takeOut, Cond.instanceMethod yX4_takeOut, Cond.selects RX4 yX4_takeOut yX4_takeOut, Cond.code yX4_takeOut cX4_takeOut 3 none, Cond.methodLink RX4 47 yX4_charge, Cond.instanceMethod yX4_charge, Cond.selects RX4 yX4_charge yX4_charge, Cond.code yX4_charge cX4_charge 4 none, Cond.methodLink RX0 181 yX1_wearBySheets]
def wsX5_pass_r7 : List Cond := [Cond.instanceMethod yX1_wearBySheets, Cond.selects RX1 yX1_wearBySheets yX1_wearBySheets, Cond.code yX1_wearBySheets cX1_wearBySheets 3 none, Cond.methodLink RX1 35 Lib.Math.min.name, Cond.methodLink RX0 164 yX0_pressPosts, Cond.instanceMethod yX0_pressPosts, Cond.selects RX0 yX0_pressPosts yX0_pressPosts, Cond.code yX0_pressPosts cX0_pressPosts 4 none, Cond.methodLink RX0 193 yX2_sheetsOf, Cond.instanceMethod yX2_sheetsOf, Cond.selects RX2 yX2_sheetsOf yX2_sheetsOf, Cond.code yX2_sheetsOf cX2_sheetsOf 2 (some .int), Cond.methodLink RX2 44 yX2_has, Cond.instanceMethod yX2_has, Cond.selects RX2 yX2_has yX2_has, Cond.code yX2_has cX2_has 2 (some .boolean), Cond.methodLink RX0 194 yX2_markOf, Cond.instanceMethod yX2_markOf, Cond.selects RX2 yX2_markOf yX2_markOf, Cond.code yX2_markOf cX2_markOf 2 (some .int), Cond.methodLink RX0 195 yX2_gradeOf, Cond.instanceMethod yX2_gradeOf, Cond.selects RX2 yX2_gradeOf yX2_gradeOf, Cond.code yX2_gradeOf cX2_gradeOf 2 (some .int)]
def wsX5_pass_r8 : List Cond := [Cond.methodLink RX0 197 yX0_hang, Cond.instanceMethod yX0_hang, Cond.selects RX0 yX0_hang yX0_hang, Cond.code yX0_hang cX0_hang 4 none, Cond.fieldLink RX0 62 "RagVats$Mill" "loft" "[I", Cond.methodLink RX0 200 yX2_takeOff, Cond.instanceMethod yX2_takeOff, Cond.selects RX2 yX2_takeOff yX2_takeOff, Cond.code yX2_takeOff cX2_takeOff 3 none, Cond.methodLink RX0 203 yX2_dropEmptyOnes, Cond.instanceMethod yX2_dropEmptyOnes, Cond.selects RX2 yX2_dropEmptyOnes yX2_dropEmptyOnes, Cond.code yX2_dropEmptyOnes cX2_dropEmptyOnes 3 none]
def wsX5_pass : List Cond := .code yX5_pass cX5_pass 3 (some .int) :: ((wsX5_pass_r1 ++ (wsX5_pass_r2 ++ (wsX5_pass_r3 ++ (wsX5_pass_r4 ++ (wsX5_pass_r5 ++ (wsX5_pass_r6 ++ (wsX5_pass_r7 ++ wsX5_pass_r8))))))) ++ wsX50 ++ wsX00 ++ wsX30 ++ wsX40 ++ wsX10 ++ wsX20 ++ (vx_atS RX5 37 "java/lang/IllegalArgumentException" ["java/lang/RuntimeException", "java/lang/Exception"]).filter goodWord)
def wsX5_ripe_r1 : List Cond := [Cond.classLink RX5 23 "java/lang/IndexOutOfBoundsException", Cond.initialized "java/lang/IndexOutOfBoundsException", Cond.classLink RX5 33 "java/lang/IllegalArgumentException", Cond.initialized "java/lang/IllegalArgumentException", Cond.fieldLink RX5 16 "RagVats" "trial" "LRagVats$Mill;", Cond.fieldLink RX5 10 "RagVats" "mill" "LRagVats$Mill;", Cond.methodLink RX5 19 yX5_isBelow, Cond.static yX5_isBelow, Cond.initialized RX5, Cond.code yX5_isBelow cX5_isBelow 2 (some .boolean), Cond.methodLink RX5 30 yX5_isFrom1To, Cond.static yX5_isFrom1To, Cond.code yX5_isFrom1To cX5_isFrom1To 2 (some .boolean), Cond.methodLink RX5 214 yX0_becomeLike, Cond.instanceMethod yX0_becomeLike, Cond.selects RX0 yX0_becomeLike yX0_becomeLike, Cond.initialized RX0, Cond.code yX0_becomeLike cX0_becomeLike 2 none, Cond.fieldLink RX0 9 "RagVats$Mill" "day" "I", Cond.fieldLink RX0 15 "RagVats$Mill" "coins" "I", Cond.fieldLink RX0 18 "RagVats$Mill" "felts" "I", Cond.fieldLink RX0 21 "RagVats$Mill" "made" "I", Cond.fieldLink RX0 24 "RagVats$Mill" "worth" "I", Cond.fieldLink RX0 27 "RagVats$Mill" "rags" "[I"]
def wsX5_ripe_r2 : List Cond := [Cond.methodLink RX0 71 arraycopyName, Cond.native arraycopyName, Cond.static arraycopyName, Cond.initialized "java/lang/System", Cond.fieldLink RX0 31 "RagVats$Mill" "water" "[I", Cond.fieldLink RX0 37 "RagVats$Mill" "vats" "LRagVats$Vats;", Cond.fieldLink RX0 44 "RagVats$Mill" "moulds" "LRagVats$Moulds;", Cond.fieldLink RX0 51 "RagVats$Mill" "teams" "LRagVats$Teams;", Cond.fieldLink RX0 58 "RagVats$Mill" "posts" "LRagVats$Posts;", Cond.fieldLink RX0 62 "RagVats$Mill" "loft" "[I", Cond.methodLink RX0 77 yX4_becomeLike, Cond.instanceMethod yX4_becomeLike, Cond.selects RX4 yX4_becomeLike yX4_becomeLike, Cond.initialized RX4, Cond.code yX4_becomeLike cX4_becomeLike 2 none, Cond.fieldLink RX4 9 "RagVats$Vats" "pulp" "[I", Cond.methodLink RX4 27 arraycopyName, Cond.fieldLink RX4 15 "RagVats$Vats" "beat" "[I", Cond.fieldLink RX4 18 "RagVats$Vats" "sort" "[I", Cond.methodLink RX0 81 yX1_becomeLike, Cond.instanceMethod yX1_becomeLike, Cond.selects RX1 yX1_becomeLike yX1_becomeLike, Cond.initialized RX1, Cond.code yX1_becomeLike cX1_becomeLike 2 none]
def wsX5_ripe_r3 : List Cond := [Cond.fieldLink RX1 9 "RagVats$Moulds" "number" "I", Cond.fieldLink RX1 15 "RagVats$Moulds" "mark" "[I", Cond.methodLink RX1 25 arraycopyName, Cond.fieldLink RX1 19 "RagVats$Moulds" "size" "[I", Cond.fieldLink RX1 22 "RagVats$Moulds" "worn" "[I", Cond.methodLink RX0 84 yX3_becomeLike, Cond.instanceMethod yX3_becomeLike, Cond.selects RX3 yX3_becomeLike yX3_becomeLike, Cond.initialized RX3, Cond.code yX3_becomeLike cX3_becomeLike 2 none, Cond.fieldLink RX3 9 "RagVats$Teams" "number" "I", Cond.fieldLink RX3 15 "RagVats$Teams" "skill" "[I", Cond.methodLink RX3 25 arraycopyName, Cond.fieldLink RX3 19 "RagVats$Teams" "vat" "[I", Cond.fieldLink RX3 22 "RagVats$Teams" "pair" "[I", Cond.methodLink RX0 87 yX2_becomeLike, Cond.instanceMethod yX2_becomeLike, Cond.selects RX2 yX2_becomeLike yX2_becomeLike, Cond.initialized RX2, Cond.code yX2_becomeLike cX2_becomeLike 2 none, Cond.fieldLink RX2 9 "RagVats$Posts" "number" "I", Cond.fieldLink RX2 15 "RagVats$Posts" "allSheets" "I", Cond.fieldLink RX2 18 "RagVats$Posts" "mark" "[I", Cond.methodLink RX2 28 arraycopyName]
def wsX5_ripe_r4 : List Cond := [Cond.fieldLink RX2 22 "RagVats$Posts" "grade" "[I", Cond.fieldLink RX2 25 "RagVats$Posts" "sheets" "[I", Cond.methodLink RX5 218 yX4_beatOf, Cond.instanceMethod yX4_beatOf, Cond.selects RX4 yX4_beatOf yX4_beatOf, Cond.code yX4_beatOf cX4_beatOf 2 (some .int), Cond.methodLink RX5 221 yX0_liveDay, Cond.instanceMethod yX0_liveDay, Cond.selects RX0 yX0_liveDay yX0_liveDay, Cond.code yX0_liveDay cX0_liveDay 2 none, Cond.methodLink RX0 153 yJ9_floorMod_7cf53, Cond.static yJ9_floorMod_7cf53, Cond.initialized RJ9, Cond.code yJ9_floorMod_7cf53 cJ9_floorMod_7cf53 3 (some .int), Cond.methodLink RX0 156 yX4_beatAll, Cond.instanceMethod yX4_beatAll, Cond.selects RX4 yX4_beatAll yX4_beatAll, Cond.code yX4_beatAll cX4_beatAll 5 none, Cond.methodLink RX4 55 Lib.Math.min.name, Cond.static Lib.Math.min.name, Cond.initialized "java/lang/Math", Cond.code Lib.Math.min.name Lib.Math.min.code 2 (some .int), Cond.methodLink RX4 51 yX4_numberWithPulp, Cond.instanceMethod yX4_numberWithPulp]
def wsX5_ripe_r5 : List Cond := [Cond.selects RX4 yX4_numberWithPulp yX4_numberWithPulp, Cond.code yX4_numberWithPulp cX4_numberWithPulp 3 (some .int), Cond.methodLink RX0 161 yX0_makeSheets, Cond.instanceMethod yX0_makeSheets, Cond.selects RX0 yX0_makeSheets yX0_makeSheets, Cond.code yX0_makeSheets cX0_makeSheets 6 none, Cond.methodLink RX0 135 yX0_sheetsOf, Cond.instanceMethod yX0_sheetsOf, Cond.selects RX0 yX0_sheetsOf yX0_sheetsOf, Cond.code yX0_sheetsOf cX0_sheetsOf 6 (some .int), Cond.methodLink RX0 141 Lib.Math.min.name, Cond.methodLink RX0 129 yX3_vatOf, Cond.instanceMethod yX3_vatOf, Cond.selects RX3 yX3_vatOf yX3_vatOf, Cond.code yX3_vatOf cX3_vatOf 2 (some .int), Cond.methodLink RX3 31 yX3_has, Cond.instanceMethod yX3_has, Cond.selects RX3 yX3_has yX3_has, Cond.code yX3_has cX3_has 2 (some .boolean), Cond.methodLink RX0 132 yX3_pairOf, Cond.instanceMethod yX3_pairOf, Cond.selects RX3 yX3_pairOf yX3_pairOf, Cond.code yX3_pairOf cX3_pairOf 2 (some .int), Cond.methodLink RX0 138 yX4_beatOf]
def wsX5_ripe_r6 : List Cond := [Cond.methodLink RX0 117 yX1_sizeOf, Cond.instanceMethod yX1_sizeOf, Cond.selects RX1 yX1_sizeOf yX1_sizeOf, Cond.code yX1_sizeOf cX1_sizeOf 2 (some .int), Cond.methodLink RX1 31 yX1_has, Cond.instanceMethod yX1_has, Cond.selects RX1 yX1_has yX1_has, Cond.code yX1_has cX1_has 2 (some .boolean), Cond.methodLink RX0 126 yX3_skillOf, Cond.instanceMethod yX3_skillOf, Cond.selects RX3 yX3_skillOf yX3_skillOf, Cond.code yX3_skillOf cX3_skillOf 2 (some .int), Cond.methodLink RX0 97 yX0_freeFelts, Cond.instanceMethod yX0_freeFelts, Cond.selects RX0 yX0_freeFelts yX0_freeFelts, Cond.code yX0_freeFelts cX0_freeFelts 1 (some .int), Cond.methodLink RX0 147 yX4_pulpOf, Cond.instanceMethod yX4_pulpOf, Cond.selects RX4 yX4_pulpOf yX4_pulpOf, Cond.code yX4_pulpOf cX4_pulpOf 2 (some .int), Cond.methodLink RX0 167 yX0_gradeOf, Cond.instanceMethod yX0_gradeOf, Cond.selects RX0 yX0_gradeOf yX0_gradeOf, Cond.code yX0_gradeOf cX0_gradeOf 4 (some .int)]
def wsX5_ripe_r7 : List Cond := [Cond.methodLink RX0 184 yX4_sortOf, Cond.instanceMethod yX4_sortOf, Cond.selects RX4 yX4_sortOf yX4_sortOf, Cond.code yX4_sortOf cX4_sortOf 2 (some .int), Cond.methodLink RX0 187 yX0_pointsOf, Cond.static yX0_pointsOf, Cond.code yX0_pointsOf cX0_pointsOf 1 (some .int), Cond.methodLink RX0 120 yX1_wornOf, Cond.instanceMethod yX1_wornOf, Cond.selects RX1 yX1_wornOf yX1_wornOf, Cond.code yX1_wornOf cX1_wornOf 2 (some .int), Cond.methodLink RX0 114 yX1_markOf, Cond.instanceMethod yX1_markOf, Cond.selects RX1 yX1_markOf yX1_markOf, Cond.code yX1_markOf cX1_markOf 2 (some .int), Cond.methodLink RX0 170 yX2_add, Cond.instanceMethod yX2_add, Cond.selects RX2 yX2_add yX2_add, Cond.code yX2_add cX2_add 4 none, Cond.static yX5_worthOf, Cond.code yX5_worthOf cX5_worthOf 1 (some .int), Cond.fieldLink RX5 252 "RagVats" "SHEET_WORTH" "[I", Cond.methodLink RX0 177 yX4_takeOut, Cond.instanceMethod yX4_takeOut]
def wsX5_ripe_r8 : List Cond := [Cond.selects RX4 yX4_takeOut yX4_takeOut, Cond.code yX4_takeOut cX4_takeOut 3 none, Cond.methodLink RX4 47 yX4_charge, Cond.instanceMethod yX4_charge, Cond.selects RX4 yX4_charge yX4_charge, Cond.code yX4_charge cX4_charge 4 none, Cond.methodLink RX0 181 yX1_wearBySheets, Cond.instanceMethod yX1_wearBySheets, Cond.selects RX1 yX1_wearBySheets yX1_wearBySheets, Cond.code yX1_wearBySheets cX1_wearBySheets 3 none, Cond.methodLink RX1 35 Lib.Math.min.name, Cond.methodLink RX0 164 yX0_pressPosts, Cond.instanceMethod yX0_pressPosts, Cond.selects RX0 yX0_pressPosts yX0_pressPosts, Cond.code yX0_pressPosts cX0_pressPosts 4 none, Cond.methodLink RX0 193 yX2_sheetsOf, Cond.instanceMethod yX2_sheetsOf, Cond.selects RX2 yX2_sheetsOf yX2_sheetsOf, Cond.code yX2_sheetsOf cX2_sheetsOf 2 (some .int), Cond.methodLink RX2 44 yX2_has, Cond.instanceMethod yX2_has, Cond.selects RX2 yX2_has yX2_has, Cond.code yX2_has cX2_has 2 (some .boolean), Cond.methodLink RX0 194 yX2_markOf]
def wsX5_ripe_r9 : List Cond := [Cond.instanceMethod yX2_markOf, Cond.selects RX2 yX2_markOf yX2_markOf, Cond.code yX2_markOf cX2_markOf 2 (some .int), Cond.methodLink RX0 195 yX2_gradeOf, Cond.instanceMethod yX2_gradeOf, Cond.selects RX2 yX2_gradeOf yX2_gradeOf, Cond.code yX2_gradeOf cX2_gradeOf 2 (some .int), Cond.methodLink RX0 197 yX0_hang, Cond.instanceMethod yX0_hang, Cond.selects RX0 yX0_hang yX0_hang, Cond.code yX0_hang cX0_hang 4 none, Cond.methodLink RX0 200 yX2_takeOff, Cond.instanceMethod yX2_takeOff, Cond.selects RX2 yX2_takeOff yX2_takeOff, Cond.code yX2_takeOff cX2_takeOff 3 none, Cond.methodLink RX0 203 yX2_dropEmptyOnes, Cond.instanceMethod yX2_dropEmptyOnes, Cond.selects RX2 yX2_dropEmptyOnes yX2_dropEmptyOnes, Cond.code yX2_dropEmptyOnes cX2_dropEmptyOnes 3 none]
def wsX5_ripe : List Cond := .code yX5_ripe cX5_ripe 4 (some .int) :: ((wsX5_ripe_r1 ++ (wsX5_ripe_r2 ++ (wsX5_ripe_r3 ++ (wsX5_ripe_r4 ++ (wsX5_ripe_r5 ++ (wsX5_ripe_r6 ++ (wsX5_ripe_r7 ++ (wsX5_ripe_r8 ++ wsX5_ripe_r9)))))))) ++ wsX50 ++ wsX00 ++ wsX40 ++ wsX10 ++ wsX30 ++ wsX20 ++ (vx_atS RX5 27 "java/lang/IndexOutOfBoundsException" ["java/lang/RuntimeException", "java/lang/Exception"]).filter goodWord ++ (vx_atS RX5 37 "java/lang/IllegalArgumentException" ["java/lang/RuntimeException", "java/lang/Exception"]).filter goodWord)
def wsX5_foresee_r1 : List Cond := [Cond.classLink RX5 33 "java/lang/IllegalArgumentException", Cond.initialized "java/lang/IllegalArgumentException", Cond.classLink RX5 23 "java/lang/IndexOutOfBoundsException", Cond.initialized "java/lang/IndexOutOfBoundsException", Cond.fieldLink RX5 16 "RagVats" "trial" "LRagVats$Mill;", Cond.fieldLink RX5 10 "RagVats" "mill" "LRagVats$Mill;", Cond.methodLink RX5 30 yX5_isFrom1To, Cond.static yX5_isFrom1To, Cond.initialized RX5, Cond.code yX5_isFrom1To cX5_isFrom1To 2 (some .boolean), Cond.methodLink RX5 19 yX5_isBelow, Cond.static yX5_isBelow, Cond.code yX5_isBelow cX5_isBelow 2 (some .boolean), Cond.methodLink RX5 214 yX0_becomeLike, Cond.instanceMethod yX0_becomeLike, Cond.selects RX0 yX0_becomeLike yX0_becomeLike, Cond.initialized RX0, Cond.code yX0_becomeLike cX0_becomeLike 2 none, Cond.fieldLink RX0 9 "RagVats$Mill" "day" "I", Cond.fieldLink RX0 15 "RagVats$Mill" "coins" "I", Cond.fieldLink RX0 18 "RagVats$Mill" "felts" "I", Cond.fieldLink RX0 21 "RagVats$Mill" "made" "I", Cond.fieldLink RX0 24 "RagVats$Mill" "worth" "I", Cond.fieldLink RX0 27 "RagVats$Mill" "rags" "[I"]
def wsX5_foresee_r2 : List Cond := [Cond.methodLink RX0 71 arraycopyName, Cond.native arraycopyName, Cond.static arraycopyName, Cond.initialized "java/lang/System", Cond.fieldLink RX0 31 "RagVats$Mill" "water" "[I", Cond.fieldLink RX0 37 "RagVats$Mill" "vats" "LRagVats$Vats;", Cond.fieldLink RX0 44 "RagVats$Mill" "moulds" "LRagVats$Moulds;", Cond.fieldLink RX0 51 "RagVats$Mill" "teams" "LRagVats$Teams;", Cond.fieldLink RX0 58 "RagVats$Mill" "posts" "LRagVats$Posts;", Cond.fieldLink RX0 62 "RagVats$Mill" "loft" "[I", Cond.methodLink RX0 77 yX4_becomeLike, Cond.instanceMethod yX4_becomeLike, Cond.selects RX4 yX4_becomeLike yX4_becomeLike, Cond.initialized RX4, Cond.code yX4_becomeLike cX4_becomeLike 2 none, Cond.fieldLink RX4 9 "RagVats$Vats" "pulp" "[I", Cond.methodLink RX4 27 arraycopyName, Cond.fieldLink RX4 15 "RagVats$Vats" "beat" "[I", Cond.fieldLink RX4 18 "RagVats$Vats" "sort" "[I", Cond.methodLink RX0 81 yX1_becomeLike, Cond.instanceMethod yX1_becomeLike, Cond.selects RX1 yX1_becomeLike yX1_becomeLike, Cond.initialized RX1, Cond.code yX1_becomeLike cX1_becomeLike 2 none]
def wsX5_foresee_r3 : List Cond := [Cond.fieldLink RX1 9 "RagVats$Moulds" "number" "I", Cond.fieldLink RX1 15 "RagVats$Moulds" "mark" "[I", Cond.methodLink RX1 25 arraycopyName, Cond.fieldLink RX1 19 "RagVats$Moulds" "size" "[I", Cond.fieldLink RX1 22 "RagVats$Moulds" "worn" "[I", Cond.methodLink RX0 84 yX3_becomeLike, Cond.instanceMethod yX3_becomeLike, Cond.selects RX3 yX3_becomeLike yX3_becomeLike, Cond.initialized RX3, Cond.code yX3_becomeLike cX3_becomeLike 2 none, Cond.fieldLink RX3 9 "RagVats$Teams" "number" "I", Cond.fieldLink RX3 15 "RagVats$Teams" "skill" "[I", Cond.methodLink RX3 25 arraycopyName, Cond.fieldLink RX3 19 "RagVats$Teams" "vat" "[I", Cond.fieldLink RX3 22 "RagVats$Teams" "pair" "[I", Cond.methodLink RX0 87 yX2_becomeLike, Cond.instanceMethod yX2_becomeLike, Cond.selects RX2 yX2_becomeLike yX2_becomeLike, Cond.initialized RX2, Cond.code yX2_becomeLike cX2_becomeLike 2 none, Cond.fieldLink RX2 9 "RagVats$Posts" "number" "I", Cond.fieldLink RX2 15 "RagVats$Posts" "allSheets" "I", Cond.fieldLink RX2 18 "RagVats$Posts" "mark" "[I", Cond.methodLink RX2 28 arraycopyName]
def wsX5_foresee_r4 : List Cond := [Cond.fieldLink RX2 22 "RagVats$Posts" "grade" "[I", Cond.fieldLink RX2 25 "RagVats$Posts" "sheets" "[I", Cond.methodLink RX5 209 yX0_liveDays, Cond.instanceMethod yX0_liveDays, Cond.selects RX0 yX0_liveDays yX0_liveDays, Cond.code yX0_liveDays cX0_liveDays 3 none, Cond.methodLink RX0 150 yX0_liveDay, Cond.instanceMethod yX0_liveDay, Cond.selects RX0 yX0_liveDay yX0_liveDay, Cond.code yX0_liveDay cX0_liveDay 2 none, Cond.methodLink RX0 153 yJ9_floorMod_7cf53, Cond.static yJ9_floorMod_7cf53, Cond.initialized RJ9, Cond.code yJ9_floorMod_7cf53 cJ9_floorMod_7cf53 3 (some .int), Cond.methodLink RX0 156 yX4_beatAll, Cond.instanceMethod yX4_beatAll, Cond.selects RX4 yX4_beatAll yX4_beatAll, Cond.code yX4_beatAll cX4_beatAll 5 none, Cond.methodLink RX4 55 Lib.Math.min.name, Cond.static Lib.Math.min.name, Cond.initialized "java/lang/Math", Cond.code Lib.Math.min.name Lib.Math.min.code 2 (some .int), Cond.methodLink RX4 51 yX4_numberWithPulp, Cond.instanceMethod yX4_numberWithPulp]
def wsX5_foresee_r5 : List Cond := [Cond.selects RX4 yX4_numberWithPulp yX4_numberWithPulp, Cond.code yX4_numberWithPulp cX4_numberWithPulp 3 (some .int), Cond.methodLink RX0 161 yX0_makeSheets, Cond.instanceMethod yX0_makeSheets, Cond.selects RX0 yX0_makeSheets yX0_makeSheets, Cond.code yX0_makeSheets cX0_makeSheets 6 none, Cond.methodLink RX0 135 yX0_sheetsOf, Cond.instanceMethod yX0_sheetsOf, Cond.selects RX0 yX0_sheetsOf yX0_sheetsOf, Cond.code yX0_sheetsOf cX0_sheetsOf 6 (some .int), Cond.methodLink RX0 141 Lib.Math.min.name, Cond.methodLink RX0 129 yX3_vatOf, Cond.instanceMethod yX3_vatOf, Cond.selects RX3 yX3_vatOf yX3_vatOf, Cond.code yX3_vatOf cX3_vatOf 2 (some .int), Cond.methodLink RX3 31 yX3_has, Cond.instanceMethod yX3_has, Cond.selects RX3 yX3_has yX3_has, Cond.code yX3_has cX3_has 2 (some .boolean), Cond.methodLink RX0 132 yX3_pairOf, Cond.instanceMethod yX3_pairOf, Cond.selects RX3 yX3_pairOf yX3_pairOf, Cond.code yX3_pairOf cX3_pairOf 2 (some .int), Cond.methodLink RX0 138 yX4_beatOf]
def wsX5_foresee_r6 : List Cond := [Cond.instanceMethod yX4_beatOf, Cond.selects RX4 yX4_beatOf yX4_beatOf, Cond.code yX4_beatOf cX4_beatOf 2 (some .int), Cond.methodLink RX0 117 yX1_sizeOf, Cond.instanceMethod yX1_sizeOf, Cond.selects RX1 yX1_sizeOf yX1_sizeOf, Cond.code yX1_sizeOf cX1_sizeOf 2 (some .int), Cond.methodLink RX1 31 yX1_has, Cond.instanceMethod yX1_has, Cond.selects RX1 yX1_has yX1_has, Cond.code yX1_has cX1_has 2 (some .boolean), Cond.methodLink RX0 126 yX3_skillOf, Cond.instanceMethod yX3_skillOf, Cond.selects RX3 yX3_skillOf yX3_skillOf, Cond.code yX3_skillOf cX3_skillOf 2 (some .int), Cond.methodLink RX0 97 yX0_freeFelts, Cond.instanceMethod yX0_freeFelts, Cond.selects RX0 yX0_freeFelts yX0_freeFelts, Cond.code yX0_freeFelts cX0_freeFelts 1 (some .int), Cond.methodLink RX0 147 yX4_pulpOf, Cond.instanceMethod yX4_pulpOf, Cond.selects RX4 yX4_pulpOf yX4_pulpOf, Cond.code yX4_pulpOf cX4_pulpOf 2 (some .int), Cond.methodLink RX0 167 yX0_gradeOf]
def wsX5_foresee_r7 : List Cond := [Cond.instanceMethod yX0_gradeOf, Cond.selects RX0 yX0_gradeOf yX0_gradeOf, Cond.code yX0_gradeOf cX0_gradeOf 4 (some .int), Cond.methodLink RX0 184 yX4_sortOf, Cond.instanceMethod yX4_sortOf, Cond.selects RX4 yX4_sortOf yX4_sortOf, Cond.code yX4_sortOf cX4_sortOf 2 (some .int), Cond.methodLink RX0 187 yX0_pointsOf, Cond.static yX0_pointsOf, Cond.code yX0_pointsOf cX0_pointsOf 1 (some .int), Cond.methodLink RX0 120 yX1_wornOf, Cond.instanceMethod yX1_wornOf, Cond.selects RX1 yX1_wornOf yX1_wornOf, Cond.code yX1_wornOf cX1_wornOf 2 (some .int), Cond.methodLink RX0 114 yX1_markOf, Cond.instanceMethod yX1_markOf, Cond.selects RX1 yX1_markOf yX1_markOf, Cond.code yX1_markOf cX1_markOf 2 (some .int), Cond.methodLink RX0 170 yX2_add, Cond.instanceMethod yX2_add, Cond.selects RX2 yX2_add yX2_add, Cond.code yX2_add cX2_add 4 none, Cond.static yX5_worthOf, Cond.code yX5_worthOf cX5_worthOf 1 (some .int)]
def wsX5_foresee_r8 : List Cond := [Cond.fieldLink RX5 252 "RagVats" "SHEET_WORTH" "[I", Cond.methodLink RX0 177 yX4_takeOut, Cond.instanceMethod yX4_takeOut, Cond.selects RX4 yX4_takeOut yX4_takeOut, Cond.code yX4_takeOut cX4_takeOut 3 none, Cond.methodLink RX4 47 yX4_charge, Cond.instanceMethod yX4_charge, Cond.selects RX4 yX4_charge yX4_charge, Cond.code yX4_charge cX4_charge 4 none, Cond.methodLink RX0 181 yX1_wearBySheets, Cond.instanceMethod yX1_wearBySheets, Cond.selects RX1 yX1_wearBySheets yX1_wearBySheets, Cond.code yX1_wearBySheets cX1_wearBySheets 3 none, Cond.methodLink RX1 35 Lib.Math.min.name, Cond.methodLink RX0 164 yX0_pressPosts, Cond.instanceMethod yX0_pressPosts, Cond.selects RX0 yX0_pressPosts yX0_pressPosts, Cond.code yX0_pressPosts cX0_pressPosts 4 none, Cond.methodLink RX0 193 yX2_sheetsOf, Cond.instanceMethod yX2_sheetsOf, Cond.selects RX2 yX2_sheetsOf yX2_sheetsOf, Cond.code yX2_sheetsOf cX2_sheetsOf 2 (some .int), Cond.methodLink RX2 44 yX2_has, Cond.instanceMethod yX2_has]
def wsX5_foresee_r9 : List Cond := [Cond.selects RX2 yX2_has yX2_has, Cond.code yX2_has cX2_has 2 (some .boolean), Cond.methodLink RX0 194 yX2_markOf, Cond.instanceMethod yX2_markOf, Cond.selects RX2 yX2_markOf yX2_markOf, Cond.code yX2_markOf cX2_markOf 2 (some .int), Cond.methodLink RX0 195 yX2_gradeOf, Cond.instanceMethod yX2_gradeOf, Cond.selects RX2 yX2_gradeOf yX2_gradeOf, Cond.code yX2_gradeOf cX2_gradeOf 2 (some .int), Cond.methodLink RX0 197 yX0_hang, Cond.instanceMethod yX0_hang, Cond.selects RX0 yX0_hang yX0_hang, Cond.code yX0_hang cX0_hang 4 none, Cond.methodLink RX0 200 yX2_takeOff, Cond.instanceMethod yX2_takeOff, Cond.selects RX2 yX2_takeOff yX2_takeOff, Cond.code yX2_takeOff cX2_takeOff 3 none, Cond.methodLink RX0 203 yX2_dropEmptyOnes, Cond.instanceMethod yX2_dropEmptyOnes, Cond.selects RX2 yX2_dropEmptyOnes yX2_dropEmptyOnes, Cond.code yX2_dropEmptyOnes cX2_dropEmptyOnes 3 none, Cond.methodLink RX5 202 yX0_tell, Cond.instanceMethod yX0_tell]
def wsX5_foresee_r10 : List Cond := [Cond.selects RX0 yX0_tell yX0_tell, Cond.code yX0_tell cX0_tell 2 (some .int), Cond.methodLink RX0 104 yX0_allHanging, Cond.instanceMethod yX0_allHanging, Cond.selects RX0 yX0_allHanging yX0_allHanging, Cond.code yX0_allHanging cX0_allHanging 3 (some .int), Cond.methodLink RX0 107 yX4_allPulp, Cond.instanceMethod yX4_allPulp, Cond.selects RX4 yX4_allPulp yX4_allPulp, Cond.code yX4_allPulp cX4_allPulp 3 (some .int), Cond.methodLink RX0 110 yX0_poundsOf, Cond.instanceMethod yX0_poundsOf, Cond.selects RX0 yX0_poundsOf yX0_poundsOf, Cond.code yX0_poundsOf cX0_poundsOf 2 (some .int)]
def wsX5_foresee : List Cond := .code yX5_foresee cX5_foresee 3 (some .int) :: ((wsX5_foresee_r1 ++ (wsX5_foresee_r2 ++ (wsX5_foresee_r3 ++ (wsX5_foresee_r4 ++ (wsX5_foresee_r5 ++ (wsX5_foresee_r6 ++ (wsX5_foresee_r7 ++ (wsX5_foresee_r8 ++ (wsX5_foresee_r9 ++ wsX5_foresee_r10))))))))) ++ wsX50 ++ wsX00 ++ wsX40 ++ wsX10 ++ wsX30 ++ wsX20 ++ (vx_atS RX5 37 "java/lang/IllegalArgumentException" ["java/lang/RuntimeException", "java/lang/Exception"]).filter goodWord ++ (vx_atS RX5 27 "java/lang/IndexOutOfBoundsException" ["java/lang/RuntimeException", "java/lang/Exception"]).filter goodWord)
def wsX5_mean : List Cond := .code yX5_mean cX5_mean 4 (some .double) :: ([.fieldLink RX5 10 "RagVats" "mill" "LRagVats$Mill;", .methodLink RX5 132 yX1_wornOf, .instanceMethod yX1_wornOf, .selects RX1 yX1_wornOf yX1_wornOf, .initialized RX1, .code yX1_wornOf cX1_wornOf 2 (some .int), .fieldLink RX1 22 "RagVats$Moulds" "worn" "[I", .methodLink RX1 31 yX1_has, .instanceMethod yX1_has, .selects RX1 yX1_has yX1_has, .code yX1_has cX1_has 2 (some .boolean), .fieldLink RX1 9 "RagVats$Moulds" "number" "I"] ++ wsX50 ++ wsX00 ++ wsX10)
def wsX6_init : List Cond := .code yX6_init cX6_init 1 none :: ([.methodLink RX6 1 objectInit, .instanceMethod objectInit, .code objectInit ⟨#[0xb1]⟩ 1 none, .fieldLink RX6 7 "RagVatsLaw$Sim" "coins" "I", .fieldLink RX6 13 "RagVatsLaw$Sim" "felts" "I", .arrayClass .int, .fieldLink RX6 16 "RagVatsLaw$Sim" "water" "[I", .fieldLink RX6 20 "RagVatsLaw$Sim" "rags" "[I", .classLink RX6 23 "[I", .fieldLink RX6 24 "RagVatsLaw$Sim" "vats" "[[I", .fieldLink RX6 28 "RagVatsLaw$Sim" "pairs" "[[I", .fieldLink RX6 31 "RagVatsLaw$Sim" "teams" "[[I", .fieldLink RX6 34 "RagVatsLaw$Sim" "posts" "[[I", .classLink RX6 37 "[[I", .fieldLink RX6 38 "RagVatsLaw$Sim" "loft" "[[I"] ++ wsX60)
def wsX6_more : List Cond := .code yX6_more cX6_more 4 (some (.array (.array .int))) :: ([.classLink RX6 23 "[I"])
def wsX6_free : List Cond := .code yX6_free cX6_free 6 (some .int) :: ([.fieldLink RX6 13 "RagVatsLaw$Sim" "felts" "I", .fieldLink RX6 34 "RagVatsLaw$Sim" "posts" "[[I"] ++ wsX60)
def wsX6_makes : List Cond := .code yX6_makes cX6_makes 3 (some .int) :: ([.fieldLink RX6 24 "RagVatsLaw$Sim" "vats" "[[I", .fieldLink RX6 28 "RagVatsLaw$Sim" "pairs" "[[I", .methodLink RX6 59 yX6_free, .instanceMethod yX6_free, .selects RX6 yX6_free yX6_free, .initialized RX6, .code yX6_free cX6_free 6 (some .int), .fieldLink RX6 13 "RagVatsLaw$Sim" "felts" "I", .fieldLink RX6 34 "RagVatsLaw$Sim" "posts" "[[I"] ++ wsX60)
def wsX6_worth : List Cond := .code yX6_worth cX6_worth 1 (some .int) :: ([])
def wsX6_pass_r1 : List Cond := [Cond.fieldLink RX6 24 "RagVatsLaw$Sim" "vats" "[[I", Cond.fieldLink RX6 16 "RagVatsLaw$Sim" "water" "[I", Cond.fieldLink RX6 46 "RagVatsLaw$Sim" "day" "I", Cond.methodLink RX6 63 Lib.Math.min.name, Cond.static Lib.Math.min.name, Cond.initialized "java/lang/Math", Cond.code Lib.Math.min.name Lib.Math.min.code 2 (some .int), Cond.fieldLink RX6 31 "RagVatsLaw$Sim" "teams" "[[I", Cond.fieldLink RX6 28 "RagVatsLaw$Sim" "pairs" "[[I", Cond.fieldLink RX6 34 "RagVatsLaw$Sim" "posts" "[[I", Cond.arrayClass .int, Cond.fieldLink RX6 52 "RagVatsLaw$Sim" "worth" "I", Cond.fieldLink RX6 49 "RagVatsLaw$Sim" "made" "I", Cond.fieldLink RX6 38 "RagVatsLaw$Sim" "loft" "[[I", Cond.classLink RX6 23 "[I", Cond.methodLink RX6 69 yX6_makes, Cond.instanceMethod yX6_makes, Cond.selects RX6 yX6_makes yX6_makes, Cond.initialized RX6, Cond.code yX6_makes cX6_makes 3 (some .int), Cond.methodLink RX6 59 yX6_free, Cond.instanceMethod yX6_free, Cond.selects RX6 yX6_free yX6_free, Cond.code yX6_free cX6_free 6 (some .int)]
def wsX6_pass_r2 : List Cond := [Cond.fieldLink RX6 13 "RagVatsLaw$Sim" "felts" "I", Cond.methodLink RX6 73 yX6_more, Cond.static yX6_more, Cond.code yX6_more cX6_more 4 (some (.array (.array .int))), Cond.methodLink RX6 77 yX6_worth, Cond.static yX6_worth, Cond.code yX6_worth cX6_worth 1 (some .int)]
def wsX6_pass : List Cond := .code yX6_pass cX6_pass 12 (some .int) :: ((wsX6_pass_r1 ++ wsX6_pass_r2) ++ wsX60)
def wsX6_told : List Cond := .code yX6_told cX6_told 8 (some .int) :: ([.fieldLink RX6 38 "RagVatsLaw$Sim" "loft" "[[I", .fieldLink RX6 24 "RagVatsLaw$Sim" "vats" "[[I", .arrayClass .int, .fieldLink RX6 46 "RagVatsLaw$Sim" "day" "I", .fieldLink RX6 7 "RagVatsLaw$Sim" "coins" "I", .fieldLink RX6 13 "RagVatsLaw$Sim" "felts" "I", .fieldLink RX6 49 "RagVatsLaw$Sim" "made" "I", .fieldLink RX6 52 "RagVatsLaw$Sim" "worth" "I", .fieldLink RX6 34 "RagVatsLaw$Sim" "posts" "[[I", .fieldLink RX6 20 "RagVatsLaw$Sim" "rags" "[I", .methodLink RX6 59 yX6_free, .instanceMethod yX6_free, .selects RX6 yX6_free yX6_free, .initialized RX6, .code yX6_free cX6_free 6 (some .int)] ++ wsX60)
def wsX6_isSame_r1 : List Cond := [Cond.fieldLink RX6 24 "RagVatsLaw$Sim" "vats" "[[I", Cond.fieldLink RX6 28 "RagVatsLaw$Sim" "pairs" "[[I", Cond.fieldLink RX6 31 "RagVatsLaw$Sim" "teams" "[[I", Cond.fieldLink RX6 34 "RagVatsLaw$Sim" "posts" "[[I", Cond.fieldLink RX6 38 "RagVatsLaw$Sim" "loft" "[[I", Cond.methodLink RX6 80 yX5_about, Cond.instanceMethod yX5_about, Cond.selects RX5 yX5_about yX5_about, Cond.initialized RX5, Cond.code yX5_about cX5_about 3 (some .int), Cond.classLink RX5 23 "java/lang/IndexOutOfBoundsException", Cond.initialized "java/lang/IndexOutOfBoundsException", Cond.fieldLink RX5 10 "RagVats" "mill" "LRagVats$Mill;", Cond.methodLink RX5 19 yX5_isBelow, Cond.static yX5_isBelow, Cond.code yX5_isBelow cX5_isBelow 2 (some .boolean), Cond.methodLink RX5 177 yX4_tell, Cond.instanceMethod yX4_tell, Cond.selects RX4 yX4_tell yX4_tell, Cond.initialized RX4, Cond.code yX4_tell cX4_tell 3 (some .int), Cond.methodLink RX4 37 yX4_pulpOf, Cond.instanceMethod yX4_pulpOf, Cond.selects RX4 yX4_pulpOf yX4_pulpOf]
def wsX6_isSame_r2 : List Cond := [Cond.code yX4_pulpOf cX4_pulpOf 2 (some .int), Cond.fieldLink RX4 9 "RagVats$Vats" "pulp" "[I", Cond.methodLink RX4 41 yX4_beatOf, Cond.instanceMethod yX4_beatOf, Cond.selects RX4 yX4_beatOf yX4_beatOf, Cond.code yX4_beatOf cX4_beatOf 2 (some .int), Cond.fieldLink RX4 15 "RagVats$Vats" "beat" "[I", Cond.methodLink RX4 44 yX4_sortOf, Cond.instanceMethod yX4_sortOf, Cond.selects RX4 yX4_sortOf yX4_sortOf, Cond.code yX4_sortOf cX4_sortOf 2 (some .int), Cond.fieldLink RX4 18 "RagVats$Vats" "sort" "[I", Cond.methodLink RX6 85 yX5_mould, Cond.instanceMethod yX5_mould, Cond.selects RX5 yX5_mould yX5_mould, Cond.code yX5_mould cX5_mould 3 (some .int), Cond.methodLink RX5 126 yX1_has, Cond.instanceMethod yX1_has, Cond.selects RX1 yX1_has yX1_has, Cond.initialized RX1, Cond.code yX1_has cX1_has 2 (some .boolean), Cond.fieldLink RX1 9 "RagVats$Moulds" "number" "I", Cond.methodLink RX5 182 yX0_tellPair, Cond.instanceMethod yX0_tellPair]
def wsX6_isSame_r3 : List Cond := [Cond.selects RX0 yX0_tellPair yX0_tellPair, Cond.initialized RX0, Cond.code yX0_tellPair cX0_tellPair 3 (some .int), Cond.fieldLink RX0 44 "RagVats$Mill" "moulds" "LRagVats$Moulds;", Cond.fieldLink RX0 51 "RagVats$Mill" "teams" "LRagVats$Teams;", Cond.methodLink RX0 114 yX1_markOf, Cond.instanceMethod yX1_markOf, Cond.selects RX1 yX1_markOf yX1_markOf, Cond.code yX1_markOf cX1_markOf 2 (some .int), Cond.fieldLink RX1 15 "RagVats$Moulds" "mark" "[I", Cond.methodLink RX1 31 yX1_has, Cond.methodLink RX0 117 yX1_sizeOf, Cond.instanceMethod yX1_sizeOf, Cond.selects RX1 yX1_sizeOf yX1_sizeOf, Cond.code yX1_sizeOf cX1_sizeOf 2 (some .int), Cond.fieldLink RX1 19 "RagVats$Moulds" "size" "[I", Cond.methodLink RX0 120 yX1_wornOf, Cond.instanceMethod yX1_wornOf, Cond.selects RX1 yX1_wornOf yX1_wornOf, Cond.code yX1_wornOf cX1_wornOf 2 (some .int), Cond.fieldLink RX1 22 "RagVats$Moulds" "worn" "[I", Cond.methodLink RX0 123 yX3_holderOf, Cond.instanceMethod yX3_holderOf, Cond.selects RX3 yX3_holderOf yX3_holderOf]
def wsX6_isSame_r4 : List Cond := [Cond.initialized RX3, Cond.code yX3_holderOf cX3_holderOf 3 (some .int), Cond.fieldLink RX3 9 "RagVats$Teams" "number" "I", Cond.methodLink RX3 35 yX3_pairOf, Cond.instanceMethod yX3_pairOf, Cond.selects RX3 yX3_pairOf yX3_pairOf, Cond.code yX3_pairOf cX3_pairOf 2 (some .int), Cond.fieldLink RX3 22 "RagVats$Teams" "pair" "[I", Cond.methodLink RX3 31 yX3_has, Cond.instanceMethod yX3_has, Cond.selects RX3 yX3_has yX3_has, Cond.code yX3_has cX3_has 2 (some .boolean), Cond.methodLink RX6 88 yX5_told, Cond.instanceMethod yX5_told, Cond.selects RX5 yX5_told yX5_told, Cond.code yX5_told cX5_told 3 (some .int), Cond.methodLink RX5 154 yX3_has, Cond.methodLink RX5 187 yX0_tellTeam, Cond.instanceMethod yX0_tellTeam, Cond.selects RX0 yX0_tellTeam yX0_tellTeam, Cond.code yX0_tellTeam cX0_tellTeam 3 (some .int), Cond.methodLink RX0 126 yX3_skillOf, Cond.instanceMethod yX3_skillOf, Cond.selects RX3 yX3_skillOf yX3_skillOf]
def wsX6_isSame_r5 : List Cond := [Cond.code yX3_skillOf cX3_skillOf 2 (some .int), Cond.fieldLink RX3 15 "RagVats$Teams" "skill" "[I", Cond.methodLink RX0 129 yX3_vatOf, Cond.instanceMethod yX3_vatOf, Cond.selects RX3 yX3_vatOf yX3_vatOf, Cond.code yX3_vatOf cX3_vatOf 2 (some .int), Cond.fieldLink RX3 19 "RagVats$Teams" "vat" "[I", Cond.methodLink RX0 132 yX3_pairOf, Cond.methodLink RX0 135 yX0_sheetsOf, Cond.instanceMethod yX0_sheetsOf, Cond.selects RX0 yX0_sheetsOf yX0_sheetsOf, Cond.code yX0_sheetsOf cX0_sheetsOf 6 (some .int), Cond.fieldLink RX0 37 "RagVats$Mill" "vats" "LRagVats$Vats;", Cond.methodLink RX0 141 Lib.Math.min.name, Cond.static Lib.Math.min.name, Cond.initialized "java/lang/Math", Cond.code Lib.Math.min.name Lib.Math.min.code 2 (some .int), Cond.methodLink RX0 138 yX4_beatOf, Cond.methodLink RX0 97 yX0_freeFelts, Cond.instanceMethod yX0_freeFelts, Cond.selects RX0 yX0_freeFelts yX0_freeFelts, Cond.code yX0_freeFelts cX0_freeFelts 1 (some .int), Cond.fieldLink RX0 18 "RagVats$Mill" "felts" "I", Cond.fieldLink RX0 58 "RagVats$Mill" "posts" "LRagVats$Posts;"]
def wsX6_isSame_r6 : List Cond := [Cond.methodLink RX0 147 yX4_pulpOf, Cond.methodLink RX6 69 yX6_makes, Cond.instanceMethod yX6_makes, Cond.selects RX6 yX6_makes yX6_makes, Cond.initialized RX6, Cond.code yX6_makes cX6_makes 3 (some .int), Cond.methodLink RX6 59 yX6_free, Cond.instanceMethod yX6_free, Cond.selects RX6 yX6_free yX6_free, Cond.code yX6_free cX6_free 6 (some .int), Cond.fieldLink RX6 13 "RagVatsLaw$Sim" "felts" "I", Cond.methodLink RX6 91 yX5_post, Cond.instanceMethod yX5_post, Cond.selects RX5 yX5_post yX5_post, Cond.code yX5_post cX5_post 3 (some .int), Cond.methodLink RX5 194 yX2_has, Cond.instanceMethod yX2_has, Cond.selects RX2 yX2_has yX2_has, Cond.initialized RX2, Cond.code yX2_has cX2_has 2 (some .boolean), Cond.fieldLink RX2 9 "RagVats$Posts" "number" "I", Cond.methodLink RX5 199 yX2_tell, Cond.instanceMethod yX2_tell, Cond.selects RX2 yX2_tell yX2_tell]
def wsX6_isSame_r7 : List Cond := [Cond.code yX2_tell cX2_tell 3 (some .int), Cond.methodLink RX2 34 yX2_markOf, Cond.instanceMethod yX2_markOf, Cond.selects RX2 yX2_markOf yX2_markOf, Cond.code yX2_markOf cX2_markOf 2 (some .int), Cond.fieldLink RX2 18 "RagVats$Posts" "mark" "[I", Cond.methodLink RX2 44 yX2_has, Cond.methodLink RX2 38 yX2_gradeOf, Cond.instanceMethod yX2_gradeOf, Cond.selects RX2 yX2_gradeOf yX2_gradeOf, Cond.code yX2_gradeOf cX2_gradeOf 2 (some .int), Cond.fieldLink RX2 22 "RagVats$Posts" "grade" "[I", Cond.methodLink RX2 41 yX2_sheetsOf, Cond.instanceMethod yX2_sheetsOf, Cond.selects RX2 yX2_sheetsOf yX2_sheetsOf, Cond.code yX2_sheetsOf cX2_sheetsOf 2 (some .int), Cond.fieldLink RX2 25 "RagVats$Posts" "sheets" "[I", Cond.methodLink RX6 94 yX5_loft, Cond.instanceMethod yX5_loft, Cond.selects RX5 yX5_loft yX5_loft, Cond.code yX5_loft cX5_loft 3 (some .int), Cond.methodLink RX5 64 yX0_hanging, Cond.instanceMethod yX0_hanging, Cond.selects RX0 yX0_hanging yX0_hanging]
def wsX6_isSame_r8 : List Cond := [Cond.code yX0_hanging cX0_hanging 3 (some .int), Cond.fieldLink RX0 62 "RagVats$Mill" "loft" "[I", Cond.methodLink RX6 96 yX5_count, Cond.instanceMethod yX5_count, Cond.selects RX5 yX5_count yX5_count, Cond.code yX5_count cX5_count 2 (some .int), Cond.methodLink RX5 202 yX0_tell, Cond.instanceMethod yX0_tell, Cond.selects RX0 yX0_tell yX0_tell, Cond.code yX0_tell cX0_tell 2 (some .int), Cond.fieldLink RX0 9 "RagVats$Mill" "day" "I", Cond.fieldLink RX0 15 "RagVats$Mill" "coins" "I", Cond.fieldLink RX0 21 "RagVats$Mill" "made" "I", Cond.fieldLink RX0 24 "RagVats$Mill" "worth" "I", Cond.methodLink RX0 104 yX0_allHanging, Cond.instanceMethod yX0_allHanging, Cond.selects RX0 yX0_allHanging yX0_allHanging, Cond.code yX0_allHanging cX0_allHanging 3 (some .int), Cond.methodLink RX0 107 yX4_allPulp, Cond.instanceMethod yX4_allPulp, Cond.selects RX4 yX4_allPulp yX4_allPulp, Cond.code yX4_allPulp cX4_allPulp 3 (some .int), Cond.methodLink RX0 110 yX0_poundsOf, Cond.instanceMethod yX0_poundsOf]
def wsX6_isSame_r9 : List Cond := [Cond.selects RX0 yX0_poundsOf yX0_poundsOf, Cond.code yX0_poundsOf cX0_poundsOf 2 (some .int), Cond.fieldLink RX0 27 "RagVats$Mill" "rags" "[I", Cond.methodLink RX6 99 yX6_told, Cond.instanceMethod yX6_told, Cond.selects RX6 yX6_told yX6_told, Cond.code yX6_told cX6_told 8 (some .int), Cond.arrayClass .int, Cond.fieldLink RX6 46 "RagVatsLaw$Sim" "day" "I", Cond.fieldLink RX6 7 "RagVatsLaw$Sim" "coins" "I", Cond.fieldLink RX6 49 "RagVatsLaw$Sim" "made" "I", Cond.fieldLink RX6 52 "RagVatsLaw$Sim" "worth" "I", Cond.fieldLink RX6 20 "RagVatsLaw$Sim" "rags" "[I", Cond.methodLink RX6 101 yX5_mean, Cond.instanceMethod yX5_mean, Cond.selects RX5 yX5_mean yX5_mean, Cond.code yX5_mean cX5_mean 4 (some .double), Cond.methodLink RX5 132 yX1_wornOf]
def wsX6_isSame : List Cond := .code yX6_isSame cX6_isSame 6 (some .boolean) :: ((wsX6_isSame_r1 ++ (wsX6_isSame_r2 ++ (wsX6_isSame_r3 ++ (wsX6_isSame_r4 ++ (wsX6_isSame_r5 ++ (wsX6_isSame_r6 ++ (wsX6_isSame_r7 ++ (wsX6_isSame_r8 ++ wsX6_isSame_r9)))))))) ++ wsX60 ++ wsX50 ++ wsX00 ++ wsX40 ++ wsX10 ++ wsX30 ++ wsX20 ++ (vx_atS RX5 27 "java/lang/IndexOutOfBoundsException" ["java/lang/RuntimeException", "java/lang/Exception"]).filter goodWord)
def wsJ9_min_7cf53 : List Cond := .code yJ9_min_7cf53 cJ9_min_7cf53 2 (some .int) :: ([])
def wsL_below : List Cond := .code yL_below cL_below 2 (some .int) :: ([.constant RL 7 (2147483647)])
def wsL_cell : List Cond := .code yL_cell cL_cell 2 (some .int) :: ([.constant RL 8 (790386105)])
def wsL_act_r1 : List Cond := [Cond.fieldLink RL 9 "RagVatsLaw$Sim" "pairs" "[[I", Cond.fieldLink RL 15 "RagVatsLaw$Sim" "teams" "[[I", Cond.fieldLink RL 24 "RagVatsLaw$Sim" "coins" "I", Cond.fieldLink RL 28 "RagVatsLaw$Sim" "felts" "I", Cond.fieldLink RL 31 "RagVatsLaw$Sim" "rags" "[I", Cond.fieldLink RL 40 "RagVatsLaw$Sim" "loft" "[[I", Cond.fieldLink RL 51 "RagVatsLaw$Sim" "vats" "[[I", Cond.arrayClass .int, Cond.fieldLink RL 73 "RagVatsLaw$Sim" "water" "[I", Cond.methodLink RL 76 ⟨"[I", "clone", "()Ljava/lang/Object;"⟩, Cond.sameMethod "[I" "java/lang/Object" "clone" "()Ljava/lang/Object;", Cond.native ⟨"java/lang/Object", "clone", "()Ljava/lang/Object;"⟩, Cond.instanceMethod ⟨"java/lang/Object", "clone", "()Ljava/lang/Object;"⟩, Cond.selects "[I" ⟨"[I", "clone", "()Ljava/lang/Object;"⟩ ⟨"java/lang/Object", "clone", "()Ljava/lang/Object;"⟩, Cond.classLink RL 77 "[I", Cond.methodLink RL 18 yL_below, Cond.static yL_below, Cond.initialized RL, Cond.code yL_below cL_below 2 (some .int), Cond.constant RL 7 (2147483647), Cond.methodLink RL 35 yX5_buy, Cond.instanceMethod yX5_buy, Cond.selects RX5 yX5_buy yX5_buy, Cond.initialized RX5]
def wsL_act_r2 : List Cond := [Cond.code yX5_buy cX5_buy 4 (some .int), Cond.classLink RX5 23 "java/lang/IndexOutOfBoundsException", Cond.initialized "java/lang/IndexOutOfBoundsException", Cond.classLink RX5 33 "java/lang/IllegalArgumentException", Cond.initialized "java/lang/IllegalArgumentException", Cond.classLink RX5 46 "java/lang/IllegalStateException", Cond.initialized "java/lang/IllegalStateException", Cond.fieldLink RX5 38 "RagVats" "PRICES" "[I", Cond.fieldLink RX5 10 "RagVats" "mill" "LRagVats$Mill;", Cond.methodLink RX5 19 yX5_isBelow, Cond.static yX5_isBelow, Cond.code yX5_isBelow cX5_isBelow 2 (some .boolean), Cond.methodLink RX5 30 yX5_isFrom1To, Cond.static yX5_isFrom1To, Cond.code yX5_isFrom1To cX5_isFrom1To 2 (some .boolean), Cond.methodLink RX5 56 yX0_takeIn, Cond.instanceMethod yX0_takeIn, Cond.selects RX0 yX0_takeIn yX0_takeIn, Cond.initialized RX0, Cond.code yX0_takeIn cX0_takeIn 3 (some .int), Cond.fieldLink RX0 18 "RagVats$Mill" "felts" "I", Cond.fieldLink RX0 27 "RagVats$Mill" "rags" "[I", Cond.methodLink RL 43 yX6_worth, Cond.static yX6_worth]
def wsL_act_r3 : List Cond := [Cond.initialized RX6, Cond.code yX6_worth cX6_worth 1 (some .int), Cond.methodLink RL 47 yX5_sell, Cond.instanceMethod yX5_sell, Cond.selects RX5 yX5_sell yX5_sell, Cond.code yX5_sell cX5_sell 6 (some .int), Cond.methodLink RX5 64 yX0_hanging, Cond.instanceMethod yX0_hanging, Cond.selects RX0 yX0_hanging yX0_hanging, Cond.code yX0_hanging cX0_hanging 3 (some .int), Cond.fieldLink RX0 62 "RagVats$Mill" "loft" "[I", Cond.methodLink RX5 69 yX5_worthOf, Cond.static yX5_worthOf, Cond.code yX5_worthOf cX5_worthOf 1 (some .int), Cond.fieldLink RX5 252 "RagVats" "SHEET_WORTH" "[I", Cond.methodLink RX5 73 yX0_hang, Cond.instanceMethod yX0_hang, Cond.selects RX0 yX0_hang yX0_hang, Cond.code yX0_hang cX0_hang 4 none, Cond.methodLink RL 54 yX5_fill, Cond.instanceMethod yX5_fill, Cond.selects RX5 yX5_fill yX5_fill, Cond.code yX5_fill cX5_fill 4 (some .int), Cond.methodLink RX5 85 yX4_pulpOf]
def wsL_act_r4 : List Cond := [Cond.instanceMethod yX4_pulpOf, Cond.selects RX4 yX4_pulpOf yX4_pulpOf, Cond.initialized RX4, Cond.code yX4_pulpOf cX4_pulpOf 2 (some .int), Cond.fieldLink RX4 9 "RagVats$Vats" "pulp" "[I", Cond.methodLink RX5 97 yX4_charge, Cond.instanceMethod yX4_charge, Cond.selects RX4 yX4_charge yX4_charge, Cond.code yX4_charge cX4_charge 4 none, Cond.fieldLink RX4 15 "RagVats$Vats" "beat" "[I", Cond.fieldLink RX4 18 "RagVats$Vats" "sort" "[I", Cond.methodLink RL 57 yX5_drain, Cond.instanceMethod yX5_drain, Cond.selects RX5 yX5_drain yX5_drain, Cond.code yX5_drain cX5_drain 3 (some .int), Cond.methodLink RX5 104 yX4_takeOut, Cond.instanceMethod yX4_takeOut, Cond.selects RX4 yX4_takeOut yX4_takeOut, Cond.code yX4_takeOut cX4_takeOut 3 none, Cond.methodLink RX4 47 yX4_charge, Cond.methodLink RL 60 yX6_more, Cond.static yX6_more, Cond.code yX6_more cX6_more 4 (some (.array (.array .int))), Cond.classLink RX6 23 "[I"]
def wsL_act_r5 : List Cond := [Cond.methodLink RL 64 yX5_pair, Cond.instanceMethod yX5_pair, Cond.selects RX5 yX5_pair yX5_pair, Cond.code yX5_pair cX5_pair 3 (some .int), Cond.methodLink RX5 123 yX1_add, Cond.instanceMethod yX1_add, Cond.selects RX1 yX1_add yX1_add, Cond.initialized RX1, Cond.code yX1_add cX1_add 3 (some .int), Cond.fieldLink RX1 9 "RagVats$Moulds" "number" "I", Cond.fieldLink RX1 15 "RagVats$Moulds" "mark" "[I", Cond.fieldLink RX1 19 "RagVats$Moulds" "size" "[I", Cond.fieldLink RX1 22 "RagVats$Moulds" "worn" "[I", Cond.methodLink RL 67 yX5_wire, Cond.instanceMethod yX5_wire, Cond.selects RX5 yX5_wire yX5_wire, Cond.code yX5_wire cX5_wire 3 (some .int), Cond.methodLink RX5 126 yX1_has, Cond.instanceMethod yX1_has, Cond.selects RX1 yX1_has yX1_has, Cond.code yX1_has cX1_has 2 (some .boolean), Cond.methodLink RX5 132 yX1_wornOf, Cond.instanceMethod yX1_wornOf, Cond.selects RX1 yX1_wornOf yX1_wornOf]
def wsL_act_r6 : List Cond := [Cond.code yX1_wornOf cX1_wornOf 2 (some .int), Cond.methodLink RX1 31 yX1_has, Cond.methodLink RX5 137 yX1_makeNew, Cond.instanceMethod yX1_makeNew, Cond.selects RX1 yX1_makeNew yX1_makeNew, Cond.code yX1_makeNew cX1_makeNew 2 none, Cond.methodLink RL 70 yX5_team, Cond.instanceMethod yX5_team, Cond.selects RX5 yX5_team yX5_team, Cond.code yX5_team cX5_team 2 (some .int), Cond.methodLink RX5 152 yX3_add, Cond.instanceMethod yX3_add, Cond.selects RX3 yX3_add yX3_add, Cond.initialized RX3, Cond.code yX3_add cX3_add 2 (some .int), Cond.fieldLink RX3 9 "RagVats$Teams" "number" "I", Cond.fieldLink RX3 15 "RagVats$Teams" "skill" "[I", Cond.fieldLink RX3 19 "RagVats$Teams" "vat" "[I", Cond.fieldLink RX3 22 "RagVats$Teams" "pair" "[I", Cond.methodLink RL 81 yX5_setWater, Cond.instanceMethod yX5_setWater, Cond.selects RX5 yX5_setWater yX5_setWater, Cond.code yX5_setWater cX5_setWater 4 (some .int), Cond.methodLink RL 84 yX5_place]
def wsL_act_r7 : List Cond := [Cond.instanceMethod yX5_place, Cond.selects RX5 yX5_place yX5_place, Cond.code yX5_place cX5_place 5 (some .int), Cond.methodLink RX5 154 yX3_has, Cond.instanceMethod yX3_has, Cond.selects RX3 yX3_has yX3_has, Cond.code yX3_has cX3_has 2 (some .boolean), Cond.methodLink RX5 157 yX3_holderOf, Cond.instanceMethod yX3_holderOf, Cond.selects RX3 yX3_holderOf yX3_holderOf, Cond.code yX3_holderOf cX3_holderOf 3 (some .int), Cond.methodLink RX3 35 yX3_pairOf, Cond.instanceMethod yX3_pairOf, Cond.selects RX3 yX3_pairOf yX3_pairOf, Cond.code yX3_pairOf cX3_pairOf 2 (some .int), Cond.methodLink RX3 31 yX3_has, Cond.methodLink RX5 162 yX3_send, Cond.instanceMethod yX3_send, Cond.selects RX3 yX3_send yX3_send, Cond.code yX3_send cX3_send 4 none, Cond.methodLink RX5 165 yX0_sheetsOf, Cond.instanceMethod yX0_sheetsOf, Cond.selects RX0 yX0_sheetsOf yX0_sheetsOf, Cond.code yX0_sheetsOf cX0_sheetsOf 6 (some .int)]
def wsL_act_r8 : List Cond := [Cond.fieldLink RX0 51 "RagVats$Mill" "teams" "LRagVats$Teams;", Cond.fieldLink RX0 37 "RagVats$Mill" "vats" "LRagVats$Vats;", Cond.fieldLink RX0 44 "RagVats$Mill" "moulds" "LRagVats$Moulds;", Cond.methodLink RX0 141 Lib.Math.min.name, Cond.static Lib.Math.min.name, Cond.initialized "java/lang/Math", Cond.code Lib.Math.min.name Lib.Math.min.code 2 (some .int), Cond.methodLink RX0 129 yX3_vatOf, Cond.instanceMethod yX3_vatOf, Cond.selects RX3 yX3_vatOf yX3_vatOf, Cond.code yX3_vatOf cX3_vatOf 2 (some .int), Cond.methodLink RX0 132 yX3_pairOf, Cond.methodLink RX0 138 yX4_beatOf, Cond.instanceMethod yX4_beatOf, Cond.selects RX4 yX4_beatOf yX4_beatOf, Cond.code yX4_beatOf cX4_beatOf 2 (some .int), Cond.methodLink RX0 117 yX1_sizeOf, Cond.instanceMethod yX1_sizeOf, Cond.selects RX1 yX1_sizeOf yX1_sizeOf, Cond.code yX1_sizeOf cX1_sizeOf 2 (some .int), Cond.methodLink RX0 126 yX3_skillOf, Cond.instanceMethod yX3_skillOf, Cond.selects RX3 yX3_skillOf yX3_skillOf, Cond.code yX3_skillOf cX3_skillOf 2 (some .int)]
def wsL_act_r9 : List Cond := [Cond.methodLink RX0 97 yX0_freeFelts, Cond.instanceMethod yX0_freeFelts, Cond.selects RX0 yX0_freeFelts yX0_freeFelts, Cond.code yX0_freeFelts cX0_freeFelts 1 (some .int), Cond.fieldLink RX0 58 "RagVats$Mill" "posts" "LRagVats$Posts;", Cond.methodLink RX0 147 yX4_pulpOf, Cond.methodLink RL 87 yX6_makes, Cond.instanceMethod yX6_makes, Cond.selects RX6 yX6_makes yX6_makes, Cond.code yX6_makes cX6_makes 3 (some .int), Cond.fieldLink RX6 24 "RagVatsLaw$Sim" "vats" "[[I", Cond.fieldLink RX6 28 "RagVatsLaw$Sim" "pairs" "[[I", Cond.methodLink RX6 59 yX6_free, Cond.instanceMethod yX6_free, Cond.selects RX6 yX6_free yX6_free, Cond.code yX6_free cX6_free 6 (some .int), Cond.fieldLink RX6 13 "RagVatsLaw$Sim" "felts" "I", Cond.fieldLink RX6 34 "RagVatsLaw$Sim" "posts" "[[I"]
def wsL_act : List Cond := .code yL_act cL_act 22 (some .boolean) :: ((wsL_act_r1 ++ (wsL_act_r2 ++ (wsL_act_r3 ++ (wsL_act_r4 ++ (wsL_act_r5 ++ (wsL_act_r6 ++ (wsL_act_r7 ++ (wsL_act_r8 ++ wsL_act_r9)))))))) ++ wsX60 ++ wsX50 ++ wsX00 ++ wsX40 ++ wsX10 ++ wsX30 ++ wsX20 ++ (vx_atS RX5 27 "java/lang/IndexOutOfBoundsException" ["java/lang/RuntimeException", "java/lang/Exception"]).filter goodWord ++ (vx_atS RX5 37 "java/lang/IllegalArgumentException" ["java/lang/RuntimeException", "java/lang/Exception"]).filter goodWord ++ (vx_atS RX5 50 "java/lang/IllegalStateException" ["java/lang/RuntimeException", "java/lang/Exception"]).filter goodWord)
def wsL_build_r1 : List Cond := [Cond.classLink RL 10 RX6, Cond.instantiable RX6 12, Cond.initialized RX6, Cond.instanceMethod yX6_init, Cond.code yX6_init cX6_init 1 none, Cond.methodLink RX6 1 objectInit, Cond.instanceMethod objectInit, Cond.code objectInit ⟨#[0xb1]⟩ 1 none, Cond.fieldLink RX6 7 "RagVatsLaw$Sim" "coins" "I", Cond.fieldLink RX6 13 "RagVatsLaw$Sim" "felts" "I", Cond.arrayClass .int, Cond.fieldLink RX6 16 "RagVatsLaw$Sim" "water" "[I", Cond.fieldLink RX6 20 "RagVatsLaw$Sim" "rags" "[I", Cond.classLink RX6 23 "[I", Cond.fieldLink RX6 24 "RagVatsLaw$Sim" "vats" "[[I", Cond.fieldLink RX6 28 "RagVatsLaw$Sim" "pairs" "[[I", Cond.fieldLink RX6 31 "RagVatsLaw$Sim" "teams" "[[I", Cond.fieldLink RX6 34 "RagVatsLaw$Sim" "posts" "[[I", Cond.classLink RX6 37 "[[I", Cond.fieldLink RX6 38 "RagVatsLaw$Sim" "loft" "[[I", Cond.methodLink RL 92 yL_cell, Cond.static yL_cell, Cond.initialized RL, Cond.code yL_cell cL_cell 2 (some .int)]
def wsL_build_r2 : List Cond := [Cond.constant RL 8 (790386105), Cond.methodLink RL 96 yL_act, Cond.static yL_act, Cond.code yL_act cL_act 22 (some .boolean), Cond.fieldLink RL 9 "RagVatsLaw$Sim" "pairs" "[[I", Cond.fieldLink RL 15 "RagVatsLaw$Sim" "teams" "[[I", Cond.fieldLink RL 24 "RagVatsLaw$Sim" "coins" "I", Cond.fieldLink RL 28 "RagVatsLaw$Sim" "felts" "I", Cond.fieldLink RL 31 "RagVatsLaw$Sim" "rags" "[I", Cond.fieldLink RL 40 "RagVatsLaw$Sim" "loft" "[[I", Cond.fieldLink RL 51 "RagVatsLaw$Sim" "vats" "[[I", Cond.fieldLink RL 73 "RagVatsLaw$Sim" "water" "[I", Cond.methodLink RL 76 ⟨"[I", "clone", "()Ljava/lang/Object;"⟩, Cond.sameMethod "[I" "java/lang/Object" "clone" "()Ljava/lang/Object;", Cond.native ⟨"java/lang/Object", "clone", "()Ljava/lang/Object;"⟩, Cond.instanceMethod ⟨"java/lang/Object", "clone", "()Ljava/lang/Object;"⟩, Cond.selects "[I" ⟨"[I", "clone", "()Ljava/lang/Object;"⟩ ⟨"java/lang/Object", "clone", "()Ljava/lang/Object;"⟩, Cond.classLink RL 77 "[I", Cond.methodLink RL 18 yL_below, Cond.static yL_below, Cond.code yL_below cL_below 2 (some .int), Cond.constant RL 7 (2147483647), Cond.methodLink RL 35 yX5_buy, Cond.instanceMethod yX5_buy]
def wsL_build_r3 : List Cond := [Cond.selects RX5 yX5_buy yX5_buy, Cond.initialized RX5, Cond.code yX5_buy cX5_buy 4 (some .int), Cond.classLink RX5 23 "java/lang/IndexOutOfBoundsException", Cond.initialized "java/lang/IndexOutOfBoundsException", Cond.classLink RX5 33 "java/lang/IllegalArgumentException", Cond.initialized "java/lang/IllegalArgumentException", Cond.classLink RX5 46 "java/lang/IllegalStateException", Cond.initialized "java/lang/IllegalStateException", Cond.fieldLink RX5 38 "RagVats" "PRICES" "[I", Cond.fieldLink RX5 10 "RagVats" "mill" "LRagVats$Mill;", Cond.methodLink RX5 19 yX5_isBelow, Cond.static yX5_isBelow, Cond.code yX5_isBelow cX5_isBelow 2 (some .boolean), Cond.methodLink RX5 30 yX5_isFrom1To, Cond.static yX5_isFrom1To, Cond.code yX5_isFrom1To cX5_isFrom1To 2 (some .boolean), Cond.methodLink RX5 56 yX0_takeIn, Cond.instanceMethod yX0_takeIn, Cond.selects RX0 yX0_takeIn yX0_takeIn, Cond.initialized RX0, Cond.code yX0_takeIn cX0_takeIn 3 (some .int), Cond.fieldLink RX0 18 "RagVats$Mill" "felts" "I", Cond.fieldLink RX0 27 "RagVats$Mill" "rags" "[I"]
def wsL_build_r4 : List Cond := [Cond.methodLink RL 43 yX6_worth, Cond.static yX6_worth, Cond.code yX6_worth cX6_worth 1 (some .int), Cond.methodLink RL 47 yX5_sell, Cond.instanceMethod yX5_sell, Cond.selects RX5 yX5_sell yX5_sell, Cond.code yX5_sell cX5_sell 6 (some .int), Cond.methodLink RX5 64 yX0_hanging, Cond.instanceMethod yX0_hanging, Cond.selects RX0 yX0_hanging yX0_hanging, Cond.code yX0_hanging cX0_hanging 3 (some .int), Cond.fieldLink RX0 62 "RagVats$Mill" "loft" "[I", Cond.methodLink RX5 69 yX5_worthOf, Cond.static yX5_worthOf, Cond.code yX5_worthOf cX5_worthOf 1 (some .int), Cond.fieldLink RX5 252 "RagVats" "SHEET_WORTH" "[I", Cond.methodLink RX5 73 yX0_hang, Cond.instanceMethod yX0_hang, Cond.selects RX0 yX0_hang yX0_hang, Cond.code yX0_hang cX0_hang 4 none, Cond.methodLink RL 54 yX5_fill, Cond.instanceMethod yX5_fill, Cond.selects RX5 yX5_fill yX5_fill, Cond.code yX5_fill cX5_fill 4 (some .int)]
def wsL_build_r5 : List Cond := [Cond.methodLink RX5 85 yX4_pulpOf, Cond.instanceMethod yX4_pulpOf, Cond.selects RX4 yX4_pulpOf yX4_pulpOf, Cond.initialized RX4, Cond.code yX4_pulpOf cX4_pulpOf 2 (some .int), Cond.fieldLink RX4 9 "RagVats$Vats" "pulp" "[I", Cond.methodLink RX5 97 yX4_charge, Cond.instanceMethod yX4_charge, Cond.selects RX4 yX4_charge yX4_charge, Cond.code yX4_charge cX4_charge 4 none, Cond.fieldLink RX4 15 "RagVats$Vats" "beat" "[I", Cond.fieldLink RX4 18 "RagVats$Vats" "sort" "[I", Cond.methodLink RL 57 yX5_drain, Cond.instanceMethod yX5_drain, Cond.selects RX5 yX5_drain yX5_drain, Cond.code yX5_drain cX5_drain 3 (some .int), Cond.methodLink RX5 104 yX4_takeOut, Cond.instanceMethod yX4_takeOut, Cond.selects RX4 yX4_takeOut yX4_takeOut, Cond.code yX4_takeOut cX4_takeOut 3 none, Cond.methodLink RX4 47 yX4_charge, Cond.methodLink RL 60 yX6_more, Cond.static yX6_more, Cond.code yX6_more cX6_more 4 (some (.array (.array .int)))]
def wsL_build_r6 : List Cond := [Cond.methodLink RL 64 yX5_pair, Cond.instanceMethod yX5_pair, Cond.selects RX5 yX5_pair yX5_pair, Cond.code yX5_pair cX5_pair 3 (some .int), Cond.methodLink RX5 123 yX1_add, Cond.instanceMethod yX1_add, Cond.selects RX1 yX1_add yX1_add, Cond.initialized RX1, Cond.code yX1_add cX1_add 3 (some .int), Cond.fieldLink RX1 9 "RagVats$Moulds" "number" "I", Cond.fieldLink RX1 15 "RagVats$Moulds" "mark" "[I", Cond.fieldLink RX1 19 "RagVats$Moulds" "size" "[I", Cond.fieldLink RX1 22 "RagVats$Moulds" "worn" "[I", Cond.methodLink RL 67 yX5_wire, Cond.instanceMethod yX5_wire, Cond.selects RX5 yX5_wire yX5_wire, Cond.code yX5_wire cX5_wire 3 (some .int), Cond.methodLink RX5 126 yX1_has, Cond.instanceMethod yX1_has, Cond.selects RX1 yX1_has yX1_has, Cond.code yX1_has cX1_has 2 (some .boolean), Cond.methodLink RX5 132 yX1_wornOf, Cond.instanceMethod yX1_wornOf, Cond.selects RX1 yX1_wornOf yX1_wornOf]
def wsL_build_r7 : List Cond := [Cond.code yX1_wornOf cX1_wornOf 2 (some .int), Cond.methodLink RX1 31 yX1_has, Cond.methodLink RX5 137 yX1_makeNew, Cond.instanceMethod yX1_makeNew, Cond.selects RX1 yX1_makeNew yX1_makeNew, Cond.code yX1_makeNew cX1_makeNew 2 none, Cond.methodLink RL 70 yX5_team, Cond.instanceMethod yX5_team, Cond.selects RX5 yX5_team yX5_team, Cond.code yX5_team cX5_team 2 (some .int), Cond.methodLink RX5 152 yX3_add, Cond.instanceMethod yX3_add, Cond.selects RX3 yX3_add yX3_add, Cond.initialized RX3, Cond.code yX3_add cX3_add 2 (some .int), Cond.fieldLink RX3 9 "RagVats$Teams" "number" "I", Cond.fieldLink RX3 15 "RagVats$Teams" "skill" "[I", Cond.fieldLink RX3 19 "RagVats$Teams" "vat" "[I", Cond.fieldLink RX3 22 "RagVats$Teams" "pair" "[I", Cond.methodLink RL 81 yX5_setWater, Cond.instanceMethod yX5_setWater, Cond.selects RX5 yX5_setWater yX5_setWater, Cond.code yX5_setWater cX5_setWater 4 (some .int), Cond.methodLink RL 84 yX5_place]
def wsL_build_r8 : List Cond := [Cond.instanceMethod yX5_place, Cond.selects RX5 yX5_place yX5_place, Cond.code yX5_place cX5_place 5 (some .int), Cond.methodLink RX5 154 yX3_has, Cond.instanceMethod yX3_has, Cond.selects RX3 yX3_has yX3_has, Cond.code yX3_has cX3_has 2 (some .boolean), Cond.methodLink RX5 157 yX3_holderOf, Cond.instanceMethod yX3_holderOf, Cond.selects RX3 yX3_holderOf yX3_holderOf, Cond.code yX3_holderOf cX3_holderOf 3 (some .int), Cond.methodLink RX3 35 yX3_pairOf, Cond.instanceMethod yX3_pairOf, Cond.selects RX3 yX3_pairOf yX3_pairOf, Cond.code yX3_pairOf cX3_pairOf 2 (some .int), Cond.methodLink RX3 31 yX3_has, Cond.methodLink RX5 162 yX3_send, Cond.instanceMethod yX3_send, Cond.selects RX3 yX3_send yX3_send, Cond.code yX3_send cX3_send 4 none, Cond.methodLink RX5 165 yX0_sheetsOf, Cond.instanceMethod yX0_sheetsOf, Cond.selects RX0 yX0_sheetsOf yX0_sheetsOf, Cond.code yX0_sheetsOf cX0_sheetsOf 6 (some .int)]
def wsL_build_r9 : List Cond := [Cond.fieldLink RX0 51 "RagVats$Mill" "teams" "LRagVats$Teams;", Cond.fieldLink RX0 37 "RagVats$Mill" "vats" "LRagVats$Vats;", Cond.fieldLink RX0 44 "RagVats$Mill" "moulds" "LRagVats$Moulds;", Cond.methodLink RX0 141 Lib.Math.min.name, Cond.static Lib.Math.min.name, Cond.initialized "java/lang/Math", Cond.code Lib.Math.min.name Lib.Math.min.code 2 (some .int), Cond.methodLink RX0 129 yX3_vatOf, Cond.instanceMethod yX3_vatOf, Cond.selects RX3 yX3_vatOf yX3_vatOf, Cond.code yX3_vatOf cX3_vatOf 2 (some .int), Cond.methodLink RX0 132 yX3_pairOf, Cond.methodLink RX0 138 yX4_beatOf, Cond.instanceMethod yX4_beatOf, Cond.selects RX4 yX4_beatOf yX4_beatOf, Cond.code yX4_beatOf cX4_beatOf 2 (some .int), Cond.methodLink RX0 117 yX1_sizeOf, Cond.instanceMethod yX1_sizeOf, Cond.selects RX1 yX1_sizeOf yX1_sizeOf, Cond.code yX1_sizeOf cX1_sizeOf 2 (some .int), Cond.methodLink RX0 126 yX3_skillOf, Cond.instanceMethod yX3_skillOf, Cond.selects RX3 yX3_skillOf yX3_skillOf, Cond.code yX3_skillOf cX3_skillOf 2 (some .int)]
def wsL_build_r10 : List Cond := [Cond.methodLink RX0 97 yX0_freeFelts, Cond.instanceMethod yX0_freeFelts, Cond.selects RX0 yX0_freeFelts yX0_freeFelts, Cond.code yX0_freeFelts cX0_freeFelts 1 (some .int), Cond.fieldLink RX0 58 "RagVats$Mill" "posts" "LRagVats$Posts;", Cond.methodLink RX0 147 yX4_pulpOf, Cond.methodLink RL 87 yX6_makes, Cond.instanceMethod yX6_makes, Cond.selects RX6 yX6_makes yX6_makes, Cond.code yX6_makes cX6_makes 3 (some .int), Cond.methodLink RX6 59 yX6_free, Cond.instanceMethod yX6_free, Cond.selects RX6 yX6_free yX6_free, Cond.code yX6_free cX6_free 6 (some .int), Cond.methodLink RL 100 yX5_pass, Cond.instanceMethod yX5_pass, Cond.selects RX5 yX5_pass yX5_pass, Cond.code yX5_pass cX5_pass 3 (some .int), Cond.methodLink RX5 209 yX0_liveDays, Cond.instanceMethod yX0_liveDays, Cond.selects RX0 yX0_liveDays yX0_liveDays, Cond.code yX0_liveDays cX0_liveDays 3 none, Cond.methodLink RX0 150 yX0_liveDay, Cond.instanceMethod yX0_liveDay]
def wsL_build_r11 : List Cond := [Cond.selects RX0 yX0_liveDay yX0_liveDay, Cond.code yX0_liveDay cX0_liveDay 2 none, Cond.fieldLink RX0 31 "RagVats$Mill" "water" "[I", Cond.fieldLink RX0 9 "RagVats$Mill" "day" "I", Cond.methodLink RX0 153 yJ9_floorMod_7cf53, Cond.static yJ9_floorMod_7cf53, Cond.initialized RJ9, Cond.code yJ9_floorMod_7cf53 cJ9_floorMod_7cf53 3 (some .int), Cond.methodLink RX0 156 yX4_beatAll, Cond.instanceMethod yX4_beatAll, Cond.selects RX4 yX4_beatAll yX4_beatAll, Cond.code yX4_beatAll cX4_beatAll 5 none, Cond.methodLink RX4 55 Lib.Math.min.name, Cond.methodLink RX4 51 yX4_numberWithPulp, Cond.instanceMethod yX4_numberWithPulp, Cond.selects RX4 yX4_numberWithPulp yX4_numberWithPulp, Cond.code yX4_numberWithPulp cX4_numberWithPulp 3 (some .int), Cond.methodLink RX0 161 yX0_makeSheets, Cond.instanceMethod yX0_makeSheets, Cond.selects RX0 yX0_makeSheets yX0_makeSheets, Cond.code yX0_makeSheets cX0_makeSheets 6 none, Cond.fieldLink RX0 21 "RagVats$Mill" "made" "I", Cond.fieldLink RX0 24 "RagVats$Mill" "worth" "I", Cond.methodLink RX0 135 yX0_sheetsOf]
def wsL_build_r12 : List Cond := [Cond.methodLink RX0 167 yX0_gradeOf, Cond.instanceMethod yX0_gradeOf, Cond.selects RX0 yX0_gradeOf yX0_gradeOf, Cond.code yX0_gradeOf cX0_gradeOf 4 (some .int), Cond.methodLink RX0 184 yX4_sortOf, Cond.instanceMethod yX4_sortOf, Cond.selects RX4 yX4_sortOf yX4_sortOf, Cond.code yX4_sortOf cX4_sortOf 2 (some .int), Cond.methodLink RX0 187 yX0_pointsOf, Cond.static yX0_pointsOf, Cond.code yX0_pointsOf cX0_pointsOf 1 (some .int), Cond.methodLink RX0 120 yX1_wornOf, Cond.methodLink RX0 114 yX1_markOf, Cond.instanceMethod yX1_markOf, Cond.selects RX1 yX1_markOf yX1_markOf, Cond.code yX1_markOf cX1_markOf 2 (some .int), Cond.methodLink RX0 170 yX2_add, Cond.instanceMethod yX2_add, Cond.selects RX2 yX2_add yX2_add, Cond.initialized RX2, Cond.code yX2_add cX2_add 4 none, Cond.fieldLink RX2 9 "RagVats$Posts" "number" "I", Cond.fieldLink RX2 18 "RagVats$Posts" "mark" "[I", Cond.fieldLink RX2 22 "RagVats$Posts" "grade" "[I"]
def wsL_build_r13 : List Cond := [Cond.fieldLink RX2 25 "RagVats$Posts" "sheets" "[I", Cond.fieldLink RX2 15 "RagVats$Posts" "allSheets" "I", Cond.methodLink RX0 177 yX4_takeOut, Cond.methodLink RX0 181 yX1_wearBySheets, Cond.instanceMethod yX1_wearBySheets, Cond.selects RX1 yX1_wearBySheets yX1_wearBySheets, Cond.code yX1_wearBySheets cX1_wearBySheets 3 none, Cond.methodLink RX1 35 Lib.Math.min.name, Cond.methodLink RX0 164 yX0_pressPosts, Cond.instanceMethod yX0_pressPosts, Cond.selects RX0 yX0_pressPosts yX0_pressPosts, Cond.code yX0_pressPosts cX0_pressPosts 4 none, Cond.methodLink RX0 193 yX2_sheetsOf, Cond.instanceMethod yX2_sheetsOf, Cond.selects RX2 yX2_sheetsOf yX2_sheetsOf, Cond.code yX2_sheetsOf cX2_sheetsOf 2 (some .int), Cond.methodLink RX2 44 yX2_has, Cond.instanceMethod yX2_has, Cond.selects RX2 yX2_has yX2_has, Cond.code yX2_has cX2_has 2 (some .boolean), Cond.methodLink RX0 194 yX2_markOf, Cond.instanceMethod yX2_markOf, Cond.selects RX2 yX2_markOf yX2_markOf, Cond.code yX2_markOf cX2_markOf 2 (some .int)]
def wsL_build_r14 : List Cond := [Cond.methodLink RX0 195 yX2_gradeOf, Cond.instanceMethod yX2_gradeOf, Cond.selects RX2 yX2_gradeOf yX2_gradeOf, Cond.code yX2_gradeOf cX2_gradeOf 2 (some .int), Cond.methodLink RX0 197 yX0_hang, Cond.methodLink RX0 200 yX2_takeOff, Cond.instanceMethod yX2_takeOff, Cond.selects RX2 yX2_takeOff yX2_takeOff, Cond.code yX2_takeOff cX2_takeOff 3 none, Cond.methodLink RX0 203 yX2_dropEmptyOnes, Cond.instanceMethod yX2_dropEmptyOnes, Cond.selects RX2 yX2_dropEmptyOnes yX2_dropEmptyOnes, Cond.code yX2_dropEmptyOnes cX2_dropEmptyOnes 3 none, Cond.methodLink RL 103 yX6_pass, Cond.instanceMethod yX6_pass, Cond.selects RX6 yX6_pass yX6_pass, Cond.code yX6_pass cX6_pass 12 (some .int), Cond.fieldLink RX6 46 "RagVatsLaw$Sim" "day" "I", Cond.methodLink RX6 63 Lib.Math.min.name, Cond.fieldLink RX6 52 "RagVatsLaw$Sim" "worth" "I", Cond.fieldLink RX6 49 "RagVatsLaw$Sim" "made" "I", Cond.methodLink RX6 69 yX6_makes, Cond.methodLink RX6 73 yX6_more, Cond.methodLink RX6 77 yX6_worth]
def wsL_build : List Cond := .code yL_build cL_build 4 (some (.object "RagVatsLaw$Sim")) :: ((wsL_build_r1 ++ (wsL_build_r2 ++ (wsL_build_r3 ++ (wsL_build_r4 ++ (wsL_build_r5 ++ (wsL_build_r6 ++ (wsL_build_r7 ++ (wsL_build_r8 ++ (wsL_build_r9 ++ (wsL_build_r10 ++ (wsL_build_r11 ++ (wsL_build_r12 ++ (wsL_build_r13 ++ wsL_build_r14))))))))))))) ++ wsX60 ++ wsX50 ++ wsX00 ++ wsX40 ++ wsX10 ++ wsX30 ++ wsX20 ++ (vx_atS RX5 27 "java/lang/IndexOutOfBoundsException" ["java/lang/RuntimeException", "java/lang/Exception"]).filter goodWord ++ (vx_atS RX5 37 "java/lang/IllegalArgumentException" ["java/lang/RuntimeException", "java/lang/Exception"]).filter goodWord ++ (vx_atS RX5 50 "java/lang/IllegalStateException" ["java/lang/RuntimeException", "java/lang/Exception"]).filter goodWord)
def wsL_law0_r1 : List Cond := [Cond.classLink RL 36 RX5, Cond.instantiable RX5 2, Cond.initialized RX5, Cond.classLink RL 114 "[[I", Cond.arrayClass .int, Cond.fieldLink RL 73 "RagVatsLaw$Sim" "water" "[I", Cond.methodLink RL 124 Lib.Math.min.name, Cond.static Lib.Math.min.name, Cond.initialized "java/lang/Math", Cond.code Lib.Math.min.name Lib.Math.min.code 2 (some .int), Cond.fieldLink RL 9 "RagVatsLaw$Sim" "pairs" "[[I", Cond.fieldLink RL 15 "RagVatsLaw$Sim" "teams" "[[I", Cond.methodLink RL 106 yX5_init, Cond.instanceMethod yX5_init, Cond.code yX5_init cX5_init 1 none, Cond.methodLink RX5 1 objectInit, Cond.instanceMethod objectInit, Cond.code objectInit ⟨#[0xb1]⟩ 1 none, Cond.classLink RX5 7 RX0, Cond.instantiable RX0 12, Cond.initialized RX0, Cond.fieldLink RX5 10 "RagVats" "mill" "LRagVats$Mill;", Cond.fieldLink RX5 16 "RagVats" "trial" "LRagVats$Mill;", Cond.methodLink RX5 9 yX0_init]
def wsL_law0_r2 : List Cond := [Cond.instanceMethod yX0_init, Cond.code yX0_init cX0_init 1 none, Cond.methodLink RX0 3 objectInit, Cond.fieldLink RX0 9 "RagVats$Mill" "day" "I", Cond.fieldLink RX0 15 "RagVats$Mill" "coins" "I", Cond.fieldLink RX0 18 "RagVats$Mill" "felts" "I", Cond.fieldLink RX0 21 "RagVats$Mill" "made" "I", Cond.fieldLink RX0 24 "RagVats$Mill" "worth" "I", Cond.fieldLink RX0 27 "RagVats$Mill" "rags" "[I", Cond.fieldLink RX0 31 "RagVats$Mill" "water" "[I", Cond.classLink RX0 34 RX4, Cond.instantiable RX4 3, Cond.initialized RX4, Cond.fieldLink RX0 37 "RagVats$Mill" "vats" "LRagVats$Vats;", Cond.classLink RX0 41 RX1, Cond.instantiable RX1 4, Cond.initialized RX1, Cond.fieldLink RX0 44 "RagVats$Mill" "moulds" "LRagVats$Moulds;", Cond.classLink RX0 48 RX3, Cond.instantiable RX3 4, Cond.initialized RX3, Cond.fieldLink RX0 51 "RagVats$Mill" "teams" "LRagVats$Teams;", Cond.classLink RX0 55 RX2, Cond.instantiable RX2 5]
def wsL_law0_r3 : List Cond := [Cond.initialized RX2, Cond.fieldLink RX0 58 "RagVats$Mill" "posts" "LRagVats$Posts;", Cond.fieldLink RX0 62 "RagVats$Mill" "loft" "[I", Cond.methodLink RX0 36 yX4_init, Cond.instanceMethod yX4_init, Cond.code yX4_init cX4_init 1 none, Cond.methodLink RX4 3 objectInit, Cond.fieldLink RX4 9 "RagVats$Vats" "pulp" "[I", Cond.fieldLink RX4 15 "RagVats$Vats" "beat" "[I", Cond.fieldLink RX4 18 "RagVats$Vats" "sort" "[I", Cond.methodLink RX4 21 yJ7_fill_53178, Cond.static yJ7_fill_53178, Cond.initialized RJ7, Cond.code yJ7_fill_53178 cJ7_fill_53178 4 none, Cond.instanceMethod yX1_init, Cond.code yX1_init cX1_init 1 none, Cond.methodLink RX1 3 objectInit, Cond.fieldLink RX1 9 "RagVats$Moulds" "number" "I", Cond.fieldLink RX1 15 "RagVats$Moulds" "mark" "[I", Cond.fieldLink RX1 19 "RagVats$Moulds" "size" "[I", Cond.fieldLink RX1 22 "RagVats$Moulds" "worn" "[I", Cond.instanceMethod yX3_init, Cond.code yX3_init cX3_init 1 none, Cond.methodLink RX3 3 objectInit]
def wsL_law0_r4 : List Cond := [Cond.fieldLink RX3 9 "RagVats$Teams" "number" "I", Cond.fieldLink RX3 15 "RagVats$Teams" "skill" "[I", Cond.fieldLink RX3 19 "RagVats$Teams" "vat" "[I", Cond.fieldLink RX3 22 "RagVats$Teams" "pair" "[I", Cond.instanceMethod yX2_init, Cond.code yX2_init cX2_init 1 none, Cond.methodLink RX2 3 objectInit, Cond.fieldLink RX2 9 "RagVats$Posts" "number" "I", Cond.fieldLink RX2 15 "RagVats$Posts" "allSheets" "I", Cond.fieldLink RX2 18 "RagVats$Posts" "mark" "[I", Cond.fieldLink RX2 22 "RagVats$Posts" "grade" "[I", Cond.fieldLink RX2 25 "RagVats$Posts" "sheets" "[I", Cond.methodLink RX0 65 yJ7_fill_53178, Cond.methodLink RL 107 yL_build, Cond.static yL_build, Cond.initialized RL, Cond.code yL_build cL_build 4 (some (.object "RagVatsLaw$Sim")), Cond.classLink RL 10 RX6, Cond.instantiable RX6 12, Cond.initialized RX6, Cond.instanceMethod yX6_init, Cond.code yX6_init cX6_init 1 none, Cond.methodLink RX6 1 objectInit, Cond.fieldLink RX6 7 "RagVatsLaw$Sim" "coins" "I"]
def wsL_law0_r5 : List Cond := [Cond.fieldLink RX6 13 "RagVatsLaw$Sim" "felts" "I", Cond.fieldLink RX6 16 "RagVatsLaw$Sim" "water" "[I", Cond.fieldLink RX6 20 "RagVatsLaw$Sim" "rags" "[I", Cond.classLink RX6 23 "[I", Cond.fieldLink RX6 24 "RagVatsLaw$Sim" "vats" "[[I", Cond.fieldLink RX6 28 "RagVatsLaw$Sim" "pairs" "[[I", Cond.fieldLink RX6 31 "RagVatsLaw$Sim" "teams" "[[I", Cond.fieldLink RX6 34 "RagVatsLaw$Sim" "posts" "[[I", Cond.classLink RX6 37 "[[I", Cond.fieldLink RX6 38 "RagVatsLaw$Sim" "loft" "[[I", Cond.methodLink RL 92 yL_cell, Cond.static yL_cell, Cond.code yL_cell cL_cell 2 (some .int), Cond.constant RL 8 (790386105), Cond.methodLink RL 96 yL_act, Cond.static yL_act, Cond.code yL_act cL_act 22 (some .boolean), Cond.fieldLink RL 24 "RagVatsLaw$Sim" "coins" "I", Cond.fieldLink RL 28 "RagVatsLaw$Sim" "felts" "I", Cond.fieldLink RL 31 "RagVatsLaw$Sim" "rags" "[I", Cond.fieldLink RL 40 "RagVatsLaw$Sim" "loft" "[[I", Cond.fieldLink RL 51 "RagVatsLaw$Sim" "vats" "[[I", Cond.methodLink RL 76 ⟨"[I", "clone", "()Ljava/lang/Object;"⟩, Cond.sameMethod "[I" "java/lang/Object" "clone" "()Ljava/lang/Object;"]
def wsL_law0_r6 : List Cond := [Cond.native ⟨"java/lang/Object", "clone", "()Ljava/lang/Object;"⟩, Cond.instanceMethod ⟨"java/lang/Object", "clone", "()Ljava/lang/Object;"⟩, Cond.selects "[I" ⟨"[I", "clone", "()Ljava/lang/Object;"⟩ ⟨"java/lang/Object", "clone", "()Ljava/lang/Object;"⟩, Cond.classLink RL 77 "[I", Cond.methodLink RL 18 yL_below, Cond.static yL_below, Cond.code yL_below cL_below 2 (some .int), Cond.constant RL 7 (2147483647), Cond.methodLink RL 35 yX5_buy, Cond.instanceMethod yX5_buy, Cond.selects RX5 yX5_buy yX5_buy, Cond.code yX5_buy cX5_buy 4 (some .int), Cond.classLink RX5 23 "java/lang/IndexOutOfBoundsException", Cond.initialized "java/lang/IndexOutOfBoundsException", Cond.classLink RX5 33 "java/lang/IllegalArgumentException", Cond.initialized "java/lang/IllegalArgumentException", Cond.classLink RX5 46 "java/lang/IllegalStateException", Cond.initialized "java/lang/IllegalStateException", Cond.fieldLink RX5 38 "RagVats" "PRICES" "[I", Cond.methodLink RX5 19 yX5_isBelow, Cond.static yX5_isBelow, Cond.code yX5_isBelow cX5_isBelow 2 (some .boolean), Cond.methodLink RX5 30 yX5_isFrom1To, Cond.static yX5_isFrom1To]
def wsL_law0_r7 : List Cond := [Cond.code yX5_isFrom1To cX5_isFrom1To 2 (some .boolean), Cond.methodLink RX5 56 yX0_takeIn, Cond.instanceMethod yX0_takeIn, Cond.selects RX0 yX0_takeIn yX0_takeIn, Cond.code yX0_takeIn cX0_takeIn 3 (some .int), Cond.methodLink RL 43 yX6_worth, Cond.static yX6_worth, Cond.code yX6_worth cX6_worth 1 (some .int), Cond.methodLink RL 47 yX5_sell, Cond.instanceMethod yX5_sell, Cond.selects RX5 yX5_sell yX5_sell, Cond.code yX5_sell cX5_sell 6 (some .int), Cond.methodLink RX5 64 yX0_hanging, Cond.instanceMethod yX0_hanging, Cond.selects RX0 yX0_hanging yX0_hanging, Cond.code yX0_hanging cX0_hanging 3 (some .int), Cond.methodLink RX5 69 yX5_worthOf, Cond.static yX5_worthOf, Cond.code yX5_worthOf cX5_worthOf 1 (some .int), Cond.fieldLink RX5 252 "RagVats" "SHEET_WORTH" "[I", Cond.methodLink RX5 73 yX0_hang, Cond.instanceMethod yX0_hang, Cond.selects RX0 yX0_hang yX0_hang, Cond.code yX0_hang cX0_hang 4 none]
def wsL_law0_r8 : List Cond := [Cond.methodLink RL 54 yX5_fill, Cond.instanceMethod yX5_fill, Cond.selects RX5 yX5_fill yX5_fill, Cond.code yX5_fill cX5_fill 4 (some .int), Cond.methodLink RX5 85 yX4_pulpOf, Cond.instanceMethod yX4_pulpOf, Cond.selects RX4 yX4_pulpOf yX4_pulpOf, Cond.code yX4_pulpOf cX4_pulpOf 2 (some .int), Cond.methodLink RX5 97 yX4_charge, Cond.instanceMethod yX4_charge, Cond.selects RX4 yX4_charge yX4_charge, Cond.code yX4_charge cX4_charge 4 none, Cond.methodLink RL 57 yX5_drain, Cond.instanceMethod yX5_drain, Cond.selects RX5 yX5_drain yX5_drain, Cond.code yX5_drain cX5_drain 3 (some .int), Cond.methodLink RX5 104 yX4_takeOut, Cond.instanceMethod yX4_takeOut, Cond.selects RX4 yX4_takeOut yX4_takeOut, Cond.code yX4_takeOut cX4_takeOut 3 none, Cond.methodLink RX4 47 yX4_charge, Cond.methodLink RL 60 yX6_more, Cond.static yX6_more, Cond.code yX6_more cX6_more 4 (some (.array (.array .int)))]
def wsL_law0_r9 : List Cond := [Cond.methodLink RL 64 yX5_pair, Cond.instanceMethod yX5_pair, Cond.selects RX5 yX5_pair yX5_pair, Cond.code yX5_pair cX5_pair 3 (some .int), Cond.methodLink RX5 123 yX1_add, Cond.instanceMethod yX1_add, Cond.selects RX1 yX1_add yX1_add, Cond.code yX1_add cX1_add 3 (some .int), Cond.methodLink RL 67 yX5_wire, Cond.instanceMethod yX5_wire, Cond.selects RX5 yX5_wire yX5_wire, Cond.code yX5_wire cX5_wire 3 (some .int), Cond.methodLink RX5 126 yX1_has, Cond.instanceMethod yX1_has, Cond.selects RX1 yX1_has yX1_has, Cond.code yX1_has cX1_has 2 (some .boolean), Cond.methodLink RX5 132 yX1_wornOf, Cond.instanceMethod yX1_wornOf, Cond.selects RX1 yX1_wornOf yX1_wornOf, Cond.code yX1_wornOf cX1_wornOf 2 (some .int), Cond.methodLink RX1 31 yX1_has, Cond.methodLink RX5 137 yX1_makeNew, Cond.instanceMethod yX1_makeNew, Cond.selects RX1 yX1_makeNew yX1_makeNew]
def wsL_law0_r10 : List Cond := [Cond.code yX1_makeNew cX1_makeNew 2 none, Cond.methodLink RL 70 yX5_team, Cond.instanceMethod yX5_team, Cond.selects RX5 yX5_team yX5_team, Cond.code yX5_team cX5_team 2 (some .int), Cond.methodLink RX5 152 yX3_add, Cond.instanceMethod yX3_add, Cond.selects RX3 yX3_add yX3_add, Cond.code yX3_add cX3_add 2 (some .int), Cond.methodLink RL 81 yX5_setWater, Cond.instanceMethod yX5_setWater, Cond.selects RX5 yX5_setWater yX5_setWater, Cond.code yX5_setWater cX5_setWater 4 (some .int), Cond.methodLink RL 84 yX5_place, Cond.instanceMethod yX5_place, Cond.selects RX5 yX5_place yX5_place, Cond.code yX5_place cX5_place 5 (some .int), Cond.methodLink RX5 154 yX3_has, Cond.instanceMethod yX3_has, Cond.selects RX3 yX3_has yX3_has, Cond.code yX3_has cX3_has 2 (some .boolean), Cond.methodLink RX5 157 yX3_holderOf, Cond.instanceMethod yX3_holderOf, Cond.selects RX3 yX3_holderOf yX3_holderOf]
def wsL_law0_r11 : List Cond := [Cond.code yX3_holderOf cX3_holderOf 3 (some .int), Cond.methodLink RX3 35 yX3_pairOf, Cond.instanceMethod yX3_pairOf, Cond.selects RX3 yX3_pairOf yX3_pairOf, Cond.code yX3_pairOf cX3_pairOf 2 (some .int), Cond.methodLink RX3 31 yX3_has, Cond.methodLink RX5 162 yX3_send, Cond.instanceMethod yX3_send, Cond.selects RX3 yX3_send yX3_send, Cond.code yX3_send cX3_send 4 none, Cond.methodLink RX5 165 yX0_sheetsOf, Cond.instanceMethod yX0_sheetsOf, Cond.selects RX0 yX0_sheetsOf yX0_sheetsOf, Cond.code yX0_sheetsOf cX0_sheetsOf 6 (some .int), Cond.methodLink RX0 141 Lib.Math.min.name, Cond.methodLink RX0 129 yX3_vatOf, Cond.instanceMethod yX3_vatOf, Cond.selects RX3 yX3_vatOf yX3_vatOf, Cond.code yX3_vatOf cX3_vatOf 2 (some .int), Cond.methodLink RX0 132 yX3_pairOf, Cond.methodLink RX0 138 yX4_beatOf, Cond.instanceMethod yX4_beatOf, Cond.selects RX4 yX4_beatOf yX4_beatOf, Cond.code yX4_beatOf cX4_beatOf 2 (some .int)]
def wsL_law0_r12 : List Cond := [Cond.methodLink RX0 117 yX1_sizeOf, Cond.instanceMethod yX1_sizeOf, Cond.selects RX1 yX1_sizeOf yX1_sizeOf, Cond.code yX1_sizeOf cX1_sizeOf 2 (some .int), Cond.methodLink RX0 126 yX3_skillOf, Cond.instanceMethod yX3_skillOf, Cond.selects RX3 yX3_skillOf yX3_skillOf, Cond.code yX3_skillOf cX3_skillOf 2 (some .int), Cond.methodLink RX0 97 yX0_freeFelts, Cond.instanceMethod yX0_freeFelts, Cond.selects RX0 yX0_freeFelts yX0_freeFelts, Cond.code yX0_freeFelts cX0_freeFelts 1 (some .int), Cond.methodLink RX0 147 yX4_pulpOf, Cond.methodLink RL 87 yX6_makes, Cond.instanceMethod yX6_makes, Cond.selects RX6 yX6_makes yX6_makes, Cond.code yX6_makes cX6_makes 3 (some .int), Cond.methodLink RX6 59 yX6_free, Cond.instanceMethod yX6_free, Cond.selects RX6 yX6_free yX6_free, Cond.code yX6_free cX6_free 6 (some .int), Cond.methodLink RL 100 yX5_pass, Cond.instanceMethod yX5_pass, Cond.selects RX5 yX5_pass yX5_pass]
def wsL_law0_r13 : List Cond := [Cond.code yX5_pass cX5_pass 3 (some .int), Cond.methodLink RX5 209 yX0_liveDays, Cond.instanceMethod yX0_liveDays, Cond.selects RX0 yX0_liveDays yX0_liveDays, Cond.code yX0_liveDays cX0_liveDays 3 none, Cond.methodLink RX0 150 yX0_liveDay, Cond.instanceMethod yX0_liveDay, Cond.selects RX0 yX0_liveDay yX0_liveDay, Cond.code yX0_liveDay cX0_liveDay 2 none, Cond.methodLink RX0 153 yJ9_floorMod_7cf53, Cond.static yJ9_floorMod_7cf53, Cond.initialized RJ9, Cond.code yJ9_floorMod_7cf53 cJ9_floorMod_7cf53 3 (some .int), Cond.methodLink RX0 156 yX4_beatAll, Cond.instanceMethod yX4_beatAll, Cond.selects RX4 yX4_beatAll yX4_beatAll, Cond.code yX4_beatAll cX4_beatAll 5 none, Cond.methodLink RX4 55 Lib.Math.min.name, Cond.methodLink RX4 51 yX4_numberWithPulp, Cond.instanceMethod yX4_numberWithPulp, Cond.selects RX4 yX4_numberWithPulp yX4_numberWithPulp, Cond.code yX4_numberWithPulp cX4_numberWithPulp 3 (some .int), Cond.methodLink RX0 161 yX0_makeSheets, Cond.instanceMethod yX0_makeSheets]
def wsL_law0_r14 : List Cond := [Cond.selects RX0 yX0_makeSheets yX0_makeSheets, Cond.code yX0_makeSheets cX0_makeSheets 6 none, Cond.methodLink RX0 135 yX0_sheetsOf, Cond.methodLink RX0 167 yX0_gradeOf, Cond.instanceMethod yX0_gradeOf, Cond.selects RX0 yX0_gradeOf yX0_gradeOf, Cond.code yX0_gradeOf cX0_gradeOf 4 (some .int), Cond.methodLink RX0 184 yX4_sortOf, Cond.instanceMethod yX4_sortOf, Cond.selects RX4 yX4_sortOf yX4_sortOf, Cond.code yX4_sortOf cX4_sortOf 2 (some .int), Cond.methodLink RX0 187 yX0_pointsOf, Cond.static yX0_pointsOf, Cond.code yX0_pointsOf cX0_pointsOf 1 (some .int), Cond.methodLink RX0 120 yX1_wornOf, Cond.methodLink RX0 114 yX1_markOf, Cond.instanceMethod yX1_markOf, Cond.selects RX1 yX1_markOf yX1_markOf, Cond.code yX1_markOf cX1_markOf 2 (some .int), Cond.methodLink RX0 170 yX2_add, Cond.instanceMethod yX2_add, Cond.selects RX2 yX2_add yX2_add, Cond.code yX2_add cX2_add 4 none, Cond.methodLink RX0 177 yX4_takeOut]
def wsL_law0_r15 : List Cond := [Cond.methodLink RX0 181 yX1_wearBySheets, Cond.instanceMethod yX1_wearBySheets, Cond.selects RX1 yX1_wearBySheets yX1_wearBySheets, Cond.code yX1_wearBySheets cX1_wearBySheets 3 none, Cond.methodLink RX1 35 Lib.Math.min.name, Cond.methodLink RX0 164 yX0_pressPosts, Cond.instanceMethod yX0_pressPosts, Cond.selects RX0 yX0_pressPosts yX0_pressPosts, Cond.code yX0_pressPosts cX0_pressPosts 4 none, Cond.methodLink RX0 193 yX2_sheetsOf, Cond.instanceMethod yX2_sheetsOf, Cond.selects RX2 yX2_sheetsOf yX2_sheetsOf, Cond.code yX2_sheetsOf cX2_sheetsOf 2 (some .int), Cond.methodLink RX2 44 yX2_has, Cond.instanceMethod yX2_has, Cond.selects RX2 yX2_has yX2_has, Cond.code yX2_has cX2_has 2 (some .boolean), Cond.methodLink RX0 194 yX2_markOf, Cond.instanceMethod yX2_markOf, Cond.selects RX2 yX2_markOf yX2_markOf, Cond.code yX2_markOf cX2_markOf 2 (some .int), Cond.methodLink RX0 195 yX2_gradeOf, Cond.instanceMethod yX2_gradeOf, Cond.selects RX2 yX2_gradeOf yX2_gradeOf]
def wsL_law0_r16 : List Cond := [Cond.code yX2_gradeOf cX2_gradeOf 2 (some .int), Cond.methodLink RX0 197 yX0_hang, Cond.methodLink RX0 200 yX2_takeOff, Cond.instanceMethod yX2_takeOff, Cond.selects RX2 yX2_takeOff yX2_takeOff, Cond.code yX2_takeOff cX2_takeOff 3 none, Cond.methodLink RX0 203 yX2_dropEmptyOnes, Cond.instanceMethod yX2_dropEmptyOnes, Cond.selects RX2 yX2_dropEmptyOnes yX2_dropEmptyOnes, Cond.code yX2_dropEmptyOnes cX2_dropEmptyOnes 3 none, Cond.methodLink RL 103 yX6_pass, Cond.instanceMethod yX6_pass, Cond.selects RX6 yX6_pass yX6_pass, Cond.code yX6_pass cX6_pass 12 (some .int), Cond.fieldLink RX6 46 "RagVatsLaw$Sim" "day" "I", Cond.methodLink RX6 63 Lib.Math.min.name, Cond.fieldLink RX6 52 "RagVatsLaw$Sim" "worth" "I", Cond.fieldLink RX6 49 "RagVatsLaw$Sim" "made" "I", Cond.methodLink RX6 69 yX6_makes, Cond.methodLink RX6 73 yX6_more, Cond.methodLink RX6 77 yX6_worth, Cond.methodLink RL 111 yX5_ripe, Cond.instanceMethod yX5_ripe, Cond.selects RX5 yX5_ripe yX5_ripe]
def wsL_law0_r17 : List Cond := [Cond.code yX5_ripe cX5_ripe 4 (some .int), Cond.methodLink RX5 214 yX0_becomeLike, Cond.instanceMethod yX0_becomeLike, Cond.selects RX0 yX0_becomeLike yX0_becomeLike, Cond.code yX0_becomeLike cX0_becomeLike 2 none, Cond.methodLink RX0 71 arraycopyName, Cond.native arraycopyName, Cond.static arraycopyName, Cond.initialized "java/lang/System", Cond.methodLink RX0 77 yX4_becomeLike, Cond.instanceMethod yX4_becomeLike, Cond.selects RX4 yX4_becomeLike yX4_becomeLike, Cond.code yX4_becomeLike cX4_becomeLike 2 none, Cond.methodLink RX4 27 arraycopyName, Cond.methodLink RX0 81 yX1_becomeLike, Cond.instanceMethod yX1_becomeLike, Cond.selects RX1 yX1_becomeLike yX1_becomeLike, Cond.code yX1_becomeLike cX1_becomeLike 2 none, Cond.methodLink RX1 25 arraycopyName, Cond.methodLink RX0 84 yX3_becomeLike, Cond.instanceMethod yX3_becomeLike, Cond.selects RX3 yX3_becomeLike yX3_becomeLike, Cond.code yX3_becomeLike cX3_becomeLike 2 none, Cond.methodLink RX3 25 arraycopyName]
def wsL_law0_r18 : List Cond := [Cond.methodLink RX0 87 yX2_becomeLike, Cond.instanceMethod yX2_becomeLike, Cond.selects RX2 yX2_becomeLike yX2_becomeLike, Cond.code yX2_becomeLike cX2_becomeLike 2 none, Cond.methodLink RX2 28 arraycopyName, Cond.methodLink RX5 218 yX4_beatOf, Cond.methodLink RX5 221 yX0_liveDay, Cond.methodLink RL 115 yX5_about, Cond.instanceMethod yX5_about, Cond.selects RX5 yX5_about yX5_about, Cond.code yX5_about cX5_about 3 (some .int), Cond.methodLink RX5 177 yX4_tell, Cond.instanceMethod yX4_tell, Cond.selects RX4 yX4_tell yX4_tell, Cond.code yX4_tell cX4_tell 3 (some .int), Cond.methodLink RX4 37 yX4_pulpOf, Cond.methodLink RX4 41 yX4_beatOf, Cond.methodLink RX4 44 yX4_sortOf, Cond.methodLink RL 118 yX5_count, Cond.instanceMethod yX5_count, Cond.selects RX5 yX5_count yX5_count, Cond.code yX5_count cX5_count 2 (some .int), Cond.methodLink RX5 202 yX0_tell, Cond.instanceMethod yX0_tell]
def wsL_law0_r19 : List Cond := [Cond.selects RX0 yX0_tell yX0_tell, Cond.code yX0_tell cX0_tell 2 (some .int), Cond.methodLink RX0 104 yX0_allHanging, Cond.instanceMethod yX0_allHanging, Cond.selects RX0 yX0_allHanging yX0_allHanging, Cond.code yX0_allHanging cX0_allHanging 3 (some .int), Cond.methodLink RX0 107 yX4_allPulp, Cond.instanceMethod yX4_allPulp, Cond.selects RX4 yX4_allPulp yX4_allPulp, Cond.code yX4_allPulp cX4_allPulp 3 (some .int), Cond.methodLink RX0 110 yX0_poundsOf, Cond.instanceMethod yX0_poundsOf, Cond.selects RX0 yX0_poundsOf yX0_poundsOf, Cond.code yX0_poundsOf cX0_poundsOf 2 (some .int), Cond.methodLink RL 121 yX5_foresee, Cond.instanceMethod yX5_foresee, Cond.selects RX5 yX5_foresee yX5_foresee, Cond.code yX5_foresee cX5_foresee 3 (some .int), Cond.methodLink RL 129 yX5_mould, Cond.instanceMethod yX5_mould, Cond.selects RX5 yX5_mould yX5_mould, Cond.code yX5_mould cX5_mould 3 (some .int), Cond.methodLink RX5 182 yX0_tellPair, Cond.instanceMethod yX0_tellPair]
def wsL_law0_r20 : List Cond := [Cond.selects RX0 yX0_tellPair yX0_tellPair, Cond.code yX0_tellPair cX0_tellPair 3 (some .int), Cond.methodLink RX0 123 yX3_holderOf, Cond.methodLink RL 132 yX5_told, Cond.instanceMethod yX5_told, Cond.selects RX5 yX5_told yX5_told, Cond.code yX5_told cX5_told 3 (some .int), Cond.methodLink RX5 187 yX0_tellTeam, Cond.instanceMethod yX0_tellTeam, Cond.selects RX0 yX0_tellTeam yX0_tellTeam, Cond.code yX0_tellTeam cX0_tellTeam 3 (some .int), Cond.methodLink RL 135 yX6_isSame, Cond.instanceMethod yX6_isSame, Cond.selects RX6 yX6_isSame yX6_isSame, Cond.code yX6_isSame cX6_isSame 6 (some .boolean), Cond.methodLink RX6 80 yX5_about, Cond.methodLink RX6 85 yX5_mould, Cond.methodLink RX6 88 yX5_told, Cond.methodLink RX6 91 yX5_post, Cond.instanceMethod yX5_post, Cond.selects RX5 yX5_post yX5_post, Cond.code yX5_post cX5_post 3 (some .int), Cond.methodLink RX5 194 yX2_has, Cond.methodLink RX5 199 yX2_tell]
def wsL_law0_r21 : List Cond := [Cond.instanceMethod yX2_tell, Cond.selects RX2 yX2_tell yX2_tell, Cond.code yX2_tell cX2_tell 3 (some .int), Cond.methodLink RX2 34 yX2_markOf, Cond.methodLink RX2 38 yX2_gradeOf, Cond.methodLink RX2 41 yX2_sheetsOf, Cond.methodLink RX6 94 yX5_loft, Cond.instanceMethod yX5_loft, Cond.selects RX5 yX5_loft yX5_loft, Cond.code yX5_loft cX5_loft 3 (some .int), Cond.methodLink RX6 96 yX5_count, Cond.methodLink RX6 99 yX6_told, Cond.instanceMethod yX6_told, Cond.selects RX6 yX6_told yX6_told, Cond.code yX6_told cX6_told 8 (some .int), Cond.methodLink RX6 101 yX5_mean, Cond.instanceMethod yX5_mean, Cond.selects RX5 yX5_mean yX5_mean, Cond.code yX5_mean cX5_mean 4 (some .double)]
def wsL_law0 : List Cond := (wsL_law0_r1 ++ (wsL_law0_r2 ++ (wsL_law0_r3 ++ (wsL_law0_r4 ++ (wsL_law0_r5 ++ (wsL_law0_r6 ++ (wsL_law0_r7 ++ (wsL_law0_r8 ++ (wsL_law0_r9 ++ (wsL_law0_r10 ++ (wsL_law0_r11 ++ (wsL_law0_r12 ++ (wsL_law0_r13 ++ (wsL_law0_r14 ++ (wsL_law0_r15 ++ (wsL_law0_r16 ++ (wsL_law0_r17 ++ (wsL_law0_r18 ++ (wsL_law0_r19 ++ (wsL_law0_r20 ++ wsL_law0_r21)))))))))))))))))))) ++ wsX50 ++ wsX60 ++ wsX00 ++ wsX40 ++ wsX10 ++ wsX30 ++ wsX20 ++ ([] : List Cond)
def wsL_law : List Cond := wsL_law0 ++ (vx_atS RX5 27 "java/lang/IndexOutOfBoundsException" ["java/lang/RuntimeException", "java/lang/Exception"]).filter goodWord ++ (vx_atS RX5 37 "java/lang/IllegalArgumentException" ["java/lang/RuntimeException", "java/lang/Exception"]).filter goodWord ++ (vx_atS RX5 50 "java/lang/IllegalStateException" ["java/lang/RuntimeException", "java/lang/Exception"]).filter goodWord
end
section
theorem nmX0 : ∀ a, a < 12 → ∀ b, b < 12 → a ≠ b → (TX0 a).2.1 ≠ (TX0 b).2.1 := by decide +kernel
theorem tyX0_ok : ∀ k, k < 12 → parseFieldDescriptor (TX0 k).2.2.1 = some (tyX0 k) := by decide +kernel
theorem inlX0 : ∀ w ∈ wsX00, w ∈ wsL_law := fun _ h => List.mem_append_left _ (List.mem_append_left _ (List.mem_append_left _ (List.mem_append_left _ (List.mem_append_left _ (List.mem_append_left _ (List.mem_append_left _ (List.mem_append_left _ (List.mem_append_right _ h))))))))
set_option maxRecDepth 20000 in
theorem ggX0_init_X4_init : GoodIn wsX0_init wsX4_init := goodIn_r _ [31, 32, 2, 3, 9, 33, 34, 35, 36, 37, 38, 39, 75, 76, 77] (by decide +kernel) (by decide +kernel)
set_option maxRecDepth 20000 in
theorem gX0_init_X4_init : GoodIn wsX0_init (wsX4_init) := ggX0_init_X4_init
set_option maxRecDepth 20000 in
theorem ggX0_init_X1_init : GoodIn wsX0_init wsX1_init := goodIn_r _ [41, 42, 2, 3, 43, 9, 44, 45, 46, 78, 79, 80, 81] (by decide +kernel) (by decide +kernel)
set_option maxRecDepth 20000 in
theorem gX0_init_X1_init_n43 : GoodIn wsX0_init (wsX1_init) := ggX0_init_X1_init
set_option maxRecDepth 20000 in
theorem ggX0_init_X3_init : GoodIn wsX0_init wsX3_init := goodIn_r _ [48, 49, 2, 3, 50, 9, 51, 52, 53, 82, 83, 84, 85] (by decide +kernel) (by decide +kernel)
set_option maxRecDepth 20000 in
theorem gX0_init_X3_init_n50 : GoodIn wsX0_init (wsX3_init) := ggX0_init_X3_init
set_option maxRecDepth 20000 in
theorem ggX0_init_X2_init : GoodIn wsX0_init wsX2_init := goodIn_r _ [55, 56, 2, 3, 57, 58, 9, 59, 60, 61, 86, 87, 88, 89, 90] (by decide +kernel) (by decide +kernel)
set_option maxRecDepth 20000 in
theorem gX0_init_X2_init_n57 : GoodIn wsX0_init (wsX2_init) := ggX0_init_X2_init
set_option maxRecDepth 20000 in
theorem ggX0_init_J7_fill_53178 : GoodIn wsX0_init wsJ7_fill_53178 := goodIn_r _ [39] (by decide +kernel) (by decide +kernel)
set_option maxRecDepth 20000 in
theorem gX0_init_J7_fill_53178 : GoodIn wsX0_init (va_wsS RX0 65 yJ7_fill_53178 wsJ7_fill_53178) := goodIn_app (goodIn_of _ (by decide +kernel)) ggX0_init_J7_fill_53178
theorem dX0_init_0 : decode cX0_init 0 = .ok (.aload_n 0, 1) := by decide +kernel
theorem dX0_init_1 : decode cX0_init 1 = .ok (.invokespecial 3, 3) := by decide +kernel
theorem dX0_init_4 : decode cX0_init 4 = .ok (.aload_n 0, 1) := by decide +kernel
theorem dX0_init_5 : decode cX0_init 5 = .ok (.iconst 0, 1) := by decide +kernel
theorem dX0_init_6 : decode cX0_init 6 = .ok (.putfield 9, 3) := by decide +kernel
theorem dX0_init_9 : decode cX0_init 9 = .ok (.aload_n 0, 1) := by decide +kernel
theorem dX0_init_10 : decode cX0_init 10 = .ok (.bipush 40, 2) := by decide +kernel
theorem dX0_init_12 : decode cX0_init 12 = .ok (.putfield 15, 3) := by decide +kernel
theorem dX0_init_15 : decode cX0_init 15 = .ok (.aload_n 0, 1) := by decide +kernel
theorem dX0_init_16 : decode cX0_init 16 = .ok (.bipush 30, 2) := by decide +kernel
theorem dX0_init_18 : decode cX0_init 18 = .ok (.putfield 18, 3) := by decide +kernel
theorem dX0_init_21 : decode cX0_init 21 = .ok (.aload_n 0, 1) := by decide +kernel
theorem dX0_init_22 : decode cX0_init 22 = .ok (.iconst 0, 1) := by decide +kernel
theorem dX0_init_23 : decode cX0_init 23 = .ok (.putfield 21, 3) := by decide +kernel
theorem dX0_init_26 : decode cX0_init 26 = .ok (.aload_n 0, 1) := by decide +kernel
theorem dX0_init_27 : decode cX0_init 27 = .ok (.iconst 0, 1) := by decide +kernel
theorem dX0_init_28 : decode cX0_init 28 = .ok (.putfield 24, 3) := by decide +kernel
theorem dX0_init_31 : decode cX0_init 31 = .ok (.aload_n 0, 1) := by decide +kernel
theorem dX0_init_32 : decode cX0_init 32 = .ok (.iconst 3, 1) := by decide +kernel
theorem dX0_init_33 : decode cX0_init 33 = .ok (.newarray .int, 2) := by decide +kernel
theorem dX0_init_35 : decode cX0_init 35 = .ok (.putfield 27, 3) := by decide +kernel
theorem dX0_init_38 : decode cX0_init 38 = .ok (.aload_n 0, 1) := by decide +kernel
theorem dX0_init_39 : decode cX0_init 39 = .ok (.bipush 7, 2) := by decide +kernel
theorem dX0_init_41 : decode cX0_init 41 = .ok (.newarray .int, 2) := by decide +kernel
theorem dX0_init_43 : decode cX0_init 43 = .ok (.putfield 31, 3) := by decide +kernel
theorem dX0_init_46 : decode cX0_init 46 = .ok (.aload_n 0, 1) := by decide +kernel
theorem dX0_init_47 : decode cX0_init 47 = .ok (.new 34, 3) := by decide +kernel
theorem dX0_init_50 : decode cX0_init 50 = .ok (.dup, 1) := by decide +kernel
theorem dX0_init_51 : decode cX0_init 51 = .ok (.invokespecial 36, 3) := by decide +kernel
theorem dX0_init_54 : decode cX0_init 54 = .ok (.putfield 37, 3) := by decide +kernel
theorem dX0_init_57 : decode cX0_init 57 = .ok (.aload_n 0, 1) := by decide +kernel
theorem dX0_init_58 : decode cX0_init 58 = .ok (.new 41, 3) := by decide +kernel
theorem dX0_init_61 : decode cX0_init 61 = .ok (.dup, 1) := by decide +kernel
theorem dX0_init_62 : decode cX0_init 62 = .ok (.invokespecial 43, 3) := by decide +kernel
theorem dX0_init_65 : decode cX0_init 65 = .ok (.putfield 44, 3) := by decide +kernel
theorem dX0_init_68 : decode cX0_init 68 = .ok (.aload_n 0, 1) := by decide +kernel
theorem dX0_init_69 : decode cX0_init 69 = .ok (.new 48, 3) := by decide +kernel
theorem dX0_init_72 : decode cX0_init 72 = .ok (.dup, 1) := by decide +kernel
theorem dX0_init_73 : decode cX0_init 73 = .ok (.invokespecial 50, 3) := by decide +kernel
theorem dX0_init_76 : decode cX0_init 76 = .ok (.putfield 51, 3) := by decide +kernel
theorem dX0_init_79 : decode cX0_init 79 = .ok (.aload_n 0, 1) := by decide +kernel
theorem dX0_init_80 : decode cX0_init 80 = .ok (.new 55, 3) := by decide +kernel
theorem dX0_init_83 : decode cX0_init 83 = .ok (.dup, 1) := by decide +kernel
theorem dX0_init_84 : decode cX0_init 84 = .ok (.invokespecial 57, 3) := by decide +kernel
theorem dX0_init_87 : decode cX0_init 87 = .ok (.putfield 58, 3) := by decide +kernel
theorem dX0_init_90 : decode cX0_init 90 = .ok (.aload_n 0, 1) := by decide +kernel
theorem dX0_init_91 : decode cX0_init 91 = .ok (.bipush 30, 2) := by decide +kernel
theorem dX0_init_93 : decode cX0_init 93 = .ok (.newarray .int, 2) := by decide +kernel
theorem dX0_init_95 : decode cX0_init 95 = .ok (.putfield 62, 3) := by decide +kernel
theorem dX0_init_98 : decode cX0_init 98 = .ok (.aload_n 0, 1) := by decide +kernel
theorem dX0_init_99 : decode cX0_init 99 = .ok (.getfield 27, 3) := by decide +kernel
theorem dX0_init_102 : decode cX0_init 102 = .ok (.bipush 60, 2) := by decide +kernel
theorem dX0_init_104 : decode cX0_init 104 = .ok (.invokestatic 65, 3) := by decide +kernel
theorem dX0_init_107 : decode cX0_init 107 = .ok (.aload_n 0, 1) := by decide +kernel
theorem dX0_init_108 : decode cX0_init 108 = .ok (.getfield 31, 3) := by decide +kernel
theorem dX0_init_111 : decode cX0_init 111 = .ok (.iconst 4, 1) := by decide +kernel
theorem dX0_init_112 : decode cX0_init 112 = .ok (.invokestatic 65, 3) := by decide +kernel
theorem dX0_init_115 : decode cX0_init 115 = .ok (.return_, 1) := by decide +kernel
set_option maxRecDepth 20000 in
theorem ggX0_becomeLike_X4_becomeLike : GoodIn wsX0_becomeLike wsX4_becomeLike := goodIn_r _ [21, 22, 23, 8, 9, 10, 24, 25, 69, 70, 71] (by decide +kernel) (by decide +kernel)
set_option maxRecDepth 20000 in
theorem gX0_becomeLike_X4_becomeLike : GoodIn wsX0_becomeLike (wsV RX0 77 RX4 yX4_becomeLike wsX4_becomeLike) := goodIn_app (goodIn_of _ (by decide +kernel)) ggX0_becomeLike_X4_becomeLike
set_option maxRecDepth 20000 in
theorem ggX0_becomeLike_X1_becomeLike : GoodIn wsX0_becomeLike wsX1_becomeLike := goodIn_r _ [30, 31, 32, 33, 8, 9, 10, 34, 35, 72, 73, 74, 75] (by decide +kernel) (by decide +kernel)
set_option maxRecDepth 20000 in
theorem gX0_becomeLike_X1_becomeLike : GoodIn wsX0_becomeLike (wsV RX0 81 RX1 yX1_becomeLike wsX1_becomeLike) := goodIn_app (goodIn_of _ (by decide +kernel)) ggX0_becomeLike_X1_becomeLike
set_option maxRecDepth 20000 in
theorem ggX0_becomeLike_X3_becomeLike : GoodIn wsX0_becomeLike wsX3_becomeLike := goodIn_r _ [40, 41, 42, 43, 8, 9, 10, 44, 45, 76, 77, 78, 79] (by decide +kernel) (by decide +kernel)
set_option maxRecDepth 20000 in
theorem gX0_becomeLike_X3_becomeLike : GoodIn wsX0_becomeLike (wsV RX0 84 RX3 yX3_becomeLike wsX3_becomeLike) := goodIn_app (goodIn_of _ (by decide +kernel)) ggX0_becomeLike_X3_becomeLike
set_option maxRecDepth 20000 in
theorem ggX0_becomeLike_X2_becomeLike : GoodIn wsX0_becomeLike wsX2_becomeLike := goodIn_r _ [50, 51, 52, 53, 54, 8, 9, 10, 55, 56, 80, 81, 82, 83, 84] (by decide +kernel) (by decide +kernel)
set_option maxRecDepth 20000 in
theorem gX0_becomeLike_X2_becomeLike : GoodIn wsX0_becomeLike (wsV RX0 87 RX2 yX2_becomeLike wsX2_becomeLike) := goodIn_app (goodIn_of _ (by decide +kernel)) ggX0_becomeLike_X2_becomeLike
theorem dX0_becomeLike_0 : decode cX0_becomeLike 0 = .ok (.aload_n 0, 1) := by decide +kernel
theorem dX0_becomeLike_1 : decode cX0_becomeLike 1 = .ok (.aload_n 1, 1) := by decide +kernel
theorem dX0_becomeLike_2 : decode cX0_becomeLike 2 = .ok (.getfield 9, 3) := by decide +kernel
theorem dX0_becomeLike_5 : decode cX0_becomeLike 5 = .ok (.putfield 9, 3) := by decide +kernel
theorem dX0_becomeLike_8 : decode cX0_becomeLike 8 = .ok (.aload_n 0, 1) := by decide +kernel
theorem dX0_becomeLike_9 : decode cX0_becomeLike 9 = .ok (.aload_n 1, 1) := by decide +kernel
theorem dX0_becomeLike_10 : decode cX0_becomeLike 10 = .ok (.getfield 15, 3) := by decide +kernel
theorem dX0_becomeLike_13 : decode cX0_becomeLike 13 = .ok (.putfield 15, 3) := by decide +kernel
theorem dX0_becomeLike_16 : decode cX0_becomeLike 16 = .ok (.aload_n 0, 1) := by decide +kernel
theorem dX0_becomeLike_17 : decode cX0_becomeLike 17 = .ok (.aload_n 1, 1) := by decide +kernel
theorem dX0_becomeLike_18 : decode cX0_becomeLike 18 = .ok (.getfield 18, 3) := by decide +kernel
theorem dX0_becomeLike_21 : decode cX0_becomeLike 21 = .ok (.putfield 18, 3) := by decide +kernel
theorem dX0_becomeLike_24 : decode cX0_becomeLike 24 = .ok (.aload_n 0, 1) := by decide +kernel
theorem dX0_becomeLike_25 : decode cX0_becomeLike 25 = .ok (.aload_n 1, 1) := by decide +kernel
theorem dX0_becomeLike_26 : decode cX0_becomeLike 26 = .ok (.getfield 21, 3) := by decide +kernel
theorem dX0_becomeLike_29 : decode cX0_becomeLike 29 = .ok (.putfield 21, 3) := by decide +kernel
theorem dX0_becomeLike_32 : decode cX0_becomeLike 32 = .ok (.aload_n 0, 1) := by decide +kernel
theorem dX0_becomeLike_33 : decode cX0_becomeLike 33 = .ok (.aload_n 1, 1) := by decide +kernel
theorem dX0_becomeLike_34 : decode cX0_becomeLike 34 = .ok (.getfield 24, 3) := by decide +kernel
theorem dX0_becomeLike_37 : decode cX0_becomeLike 37 = .ok (.putfield 24, 3) := by decide +kernel
theorem dX0_becomeLike_40 : decode cX0_becomeLike 40 = .ok (.aload_n 1, 1) := by decide +kernel
theorem dX0_becomeLike_41 : decode cX0_becomeLike 41 = .ok (.getfield 27, 3) := by decide +kernel
theorem dX0_becomeLike_44 : decode cX0_becomeLike 44 = .ok (.iconst 0, 1) := by decide +kernel
theorem dX0_becomeLike_45 : decode cX0_becomeLike 45 = .ok (.aload_n 0, 1) := by decide +kernel
theorem dX0_becomeLike_46 : decode cX0_becomeLike 46 = .ok (.getfield 27, 3) := by decide +kernel
theorem dX0_becomeLike_49 : decode cX0_becomeLike 49 = .ok (.iconst 0, 1) := by decide +kernel
theorem dX0_becomeLike_50 : decode cX0_becomeLike 50 = .ok (.iconst 3, 1) := by decide +kernel
theorem dX0_becomeLike_51 : decode cX0_becomeLike 51 = .ok (.invokestatic 71, 3) := by decide +kernel
theorem dX0_becomeLike_54 : decode cX0_becomeLike 54 = .ok (.aload_n 1, 1) := by decide +kernel
theorem dX0_becomeLike_55 : decode cX0_becomeLike 55 = .ok (.getfield 31, 3) := by decide +kernel
theorem dX0_becomeLike_58 : decode cX0_becomeLike 58 = .ok (.iconst 0, 1) := by decide +kernel
theorem dX0_becomeLike_59 : decode cX0_becomeLike 59 = .ok (.aload_n 0, 1) := by decide +kernel
theorem dX0_becomeLike_60 : decode cX0_becomeLike 60 = .ok (.getfield 31, 3) := by decide +kernel
theorem dX0_becomeLike_63 : decode cX0_becomeLike 63 = .ok (.iconst 0, 1) := by decide +kernel
theorem dX0_becomeLike_64 : decode cX0_becomeLike 64 = .ok (.bipush 7, 2) := by decide +kernel
theorem dX0_becomeLike_66 : decode cX0_becomeLike 66 = .ok (.invokestatic 71, 3) := by decide +kernel
theorem dX0_becomeLike_69 : decode cX0_becomeLike 69 = .ok (.aload_n 0, 1) := by decide +kernel
theorem dX0_becomeLike_70 : decode cX0_becomeLike 70 = .ok (.getfield 37, 3) := by decide +kernel
theorem dX0_becomeLike_73 : decode cX0_becomeLike 73 = .ok (.aload_n 1, 1) := by decide +kernel
theorem dX0_becomeLike_74 : decode cX0_becomeLike 74 = .ok (.getfield 37, 3) := by decide +kernel
theorem dX0_becomeLike_77 : decode cX0_becomeLike 77 = .ok (.invokevirtual 77, 3) := by decide +kernel
theorem dX0_becomeLike_80 : decode cX0_becomeLike 80 = .ok (.aload_n 0, 1) := by decide +kernel
theorem dX0_becomeLike_81 : decode cX0_becomeLike 81 = .ok (.getfield 44, 3) := by decide +kernel
theorem dX0_becomeLike_84 : decode cX0_becomeLike 84 = .ok (.aload_n 1, 1) := by decide +kernel
theorem dX0_becomeLike_85 : decode cX0_becomeLike 85 = .ok (.getfield 44, 3) := by decide +kernel
theorem dX0_becomeLike_88 : decode cX0_becomeLike 88 = .ok (.invokevirtual 81, 3) := by decide +kernel
theorem dX0_becomeLike_91 : decode cX0_becomeLike 91 = .ok (.aload_n 0, 1) := by decide +kernel
theorem dX0_becomeLike_92 : decode cX0_becomeLike 92 = .ok (.getfield 51, 3) := by decide +kernel
theorem dX0_becomeLike_95 : decode cX0_becomeLike 95 = .ok (.aload_n 1, 1) := by decide +kernel
theorem dX0_becomeLike_96 : decode cX0_becomeLike 96 = .ok (.getfield 51, 3) := by decide +kernel
theorem dX0_becomeLike_99 : decode cX0_becomeLike 99 = .ok (.invokevirtual 84, 3) := by decide +kernel
theorem dX0_becomeLike_102 : decode cX0_becomeLike 102 = .ok (.aload_n 0, 1) := by decide +kernel
theorem dX0_becomeLike_103 : decode cX0_becomeLike 103 = .ok (.getfield 58, 3) := by decide +kernel
theorem dX0_becomeLike_106 : decode cX0_becomeLike 106 = .ok (.aload_n 1, 1) := by decide +kernel
theorem dX0_becomeLike_107 : decode cX0_becomeLike 107 = .ok (.getfield 58, 3) := by decide +kernel
theorem dX0_becomeLike_110 : decode cX0_becomeLike 110 = .ok (.invokevirtual 87, 3) := by decide +kernel
theorem dX0_becomeLike_113 : decode cX0_becomeLike 113 = .ok (.aload_n 1, 1) := by decide +kernel
theorem dX0_becomeLike_114 : decode cX0_becomeLike 114 = .ok (.getfield 62, 3) := by decide +kernel
theorem dX0_becomeLike_117 : decode cX0_becomeLike 117 = .ok (.iconst 0, 1) := by decide +kernel
theorem dX0_becomeLike_118 : decode cX0_becomeLike 118 = .ok (.aload_n 0, 1) := by decide +kernel
theorem dX0_becomeLike_119 : decode cX0_becomeLike 119 = .ok (.getfield 62, 3) := by decide +kernel
theorem dX0_becomeLike_122 : decode cX0_becomeLike 122 = .ok (.iconst 0, 1) := by decide +kernel
theorem dX0_becomeLike_123 : decode cX0_becomeLike 123 = .ok (.bipush 30, 2) := by decide +kernel
theorem dX0_becomeLike_125 : decode cX0_becomeLike 125 = .ok (.invokestatic 71, 3) := by decide +kernel
theorem dX0_becomeLike_128 : decode cX0_becomeLike 128 = .ok (.return_, 1) := by decide +kernel
set_option maxRecDepth 20000 in
theorem ggX0_takeIn_X5_isBelow : GoodIn wsX0_takeIn wsX5_isBelow := goodIn_r _ [5] (by decide +kernel) (by decide +kernel)
set_option maxRecDepth 20000 in
theorem gX0_takeIn_X5_isBelow_n90 : GoodIn wsX0_takeIn (wsX5_isBelow) := ggX0_takeIn_X5_isBelow
theorem dX0_takeIn_0 : decode cX0_takeIn 0 = .ok (.iload_n 1, 1) := by decide +kernel
theorem dX0_takeIn_1 : decode cX0_takeIn 1 = .ok (.iconst 3, 1) := by decide +kernel
theorem dX0_takeIn_2 : decode cX0_takeIn 2 = .ok (.invokestatic 90, 3) := by decide +kernel
theorem dX0_takeIn_5 : decode cX0_takeIn 5 = .ok (.ifCond .ne 18, 3) := by decide +kernel
theorem dX0_takeIn_8 : decode cX0_takeIn 8 = .ok (.aload_n 0, 1) := by decide +kernel
theorem dX0_takeIn_9 : decode cX0_takeIn 9 = .ok (.dup, 1) := by decide +kernel
theorem dX0_takeIn_10 : decode cX0_takeIn 10 = .ok (.getfield 18, 3) := by decide +kernel
theorem dX0_takeIn_13 : decode cX0_takeIn 13 = .ok (.iload_n 2, 1) := by decide +kernel
theorem dX0_takeIn_14 : decode cX0_takeIn 14 = .ok (.iadd, 1) := by decide +kernel
theorem dX0_takeIn_15 : decode cX0_takeIn 15 = .ok (.putfield 18, 3) := by decide +kernel
theorem dX0_takeIn_18 : decode cX0_takeIn 18 = .ok (.aload_n 0, 1) := by decide +kernel
theorem dX0_takeIn_19 : decode cX0_takeIn 19 = .ok (.getfield 18, 3) := by decide +kernel
theorem dX0_takeIn_22 : decode cX0_takeIn 22 = .ok (.ireturn, 1) := by decide +kernel
theorem dX0_takeIn_23 : decode cX0_takeIn 23 = .ok (.aload_n 0, 1) := by decide +kernel
theorem dX0_takeIn_24 : decode cX0_takeIn 24 = .ok (.getfield 27, 3) := by decide +kernel
theorem dX0_takeIn_27 : decode cX0_takeIn 27 = .ok (.iload_n 1, 1) := by decide +kernel
theorem dX0_takeIn_28 : decode cX0_takeIn 28 = .ok (.dup2, 1) := by decide +kernel
theorem dX0_takeIn_29 : decode cX0_takeIn 29 = .ok (.iaload, 1) := by decide +kernel
theorem dX0_takeIn_30 : decode cX0_takeIn 30 = .ok (.iload_n 2, 1) := by decide +kernel
theorem dX0_takeIn_31 : decode cX0_takeIn 31 = .ok (.iadd, 1) := by decide +kernel
theorem dX0_takeIn_32 : decode cX0_takeIn 32 = .ok (.iastore, 1) := by decide +kernel
theorem dX0_takeIn_33 : decode cX0_takeIn 33 = .ok (.aload_n 0, 1) := by decide +kernel
theorem dX0_takeIn_34 : decode cX0_takeIn 34 = .ok (.getfield 27, 3) := by decide +kernel
theorem dX0_takeIn_37 : decode cX0_takeIn 37 = .ok (.iload_n 1, 1) := by decide +kernel
theorem dX0_takeIn_38 : decode cX0_takeIn 38 = .ok (.iaload, 1) := by decide +kernel
theorem dX0_takeIn_39 : decode cX0_takeIn 39 = .ok (.ireturn, 1) := by decide +kernel
theorem dX0_freeFelts_0 : decode cX0_freeFelts 0 = .ok (.aload_n 0, 1) := by decide +kernel
theorem dX0_freeFelts_1 : decode cX0_freeFelts 1 = .ok (.getfield 18, 3) := by decide +kernel
theorem dX0_freeFelts_4 : decode cX0_freeFelts 4 = .ok (.aload_n 0, 1) := by decide +kernel
theorem dX0_freeFelts_5 : decode cX0_freeFelts 5 = .ok (.getfield 58, 3) := by decide +kernel
theorem dX0_freeFelts_8 : decode cX0_freeFelts 8 = .ok (.getfield 94, 3) := by decide +kernel
theorem dX0_freeFelts_11 : decode cX0_freeFelts 11 = .ok (.isub, 1) := by decide +kernel
theorem dX0_freeFelts_12 : decode cX0_freeFelts 12 = .ok (.ireturn, 1) := by decide +kernel
set_option maxRecDepth 20000 in
theorem ggX0_hanging_X5_isBelow : GoodIn wsX0_hanging wsX5_isBelow := goodIn_r _ [4] (by decide +kernel) (by decide +kernel)
set_option maxRecDepth 20000 in
theorem gX0_hanging_X5_isBelow_n90 : GoodIn wsX0_hanging (wsX5_isBelow) := ggX0_hanging_X5_isBelow
theorem dX0_hanging_0 : decode cX0_hanging 0 = .ok (.iload_n 1, 1) := by decide +kernel
theorem dX0_hanging_1 : decode cX0_hanging 1 = .ok (.bipush 10, 2) := by decide +kernel
theorem dX0_hanging_3 : decode cX0_hanging 3 = .ok (.invokestatic 90, 3) := by decide +kernel
theorem dX0_hanging_6 : decode cX0_hanging 6 = .ok (.ifCond .eq 24, 3) := by decide +kernel
theorem dX0_hanging_9 : decode cX0_hanging 9 = .ok (.iload_n 2, 1) := by decide +kernel
theorem dX0_hanging_10 : decode cX0_hanging 10 = .ok (.iconst 3, 1) := by decide +kernel
theorem dX0_hanging_11 : decode cX0_hanging 11 = .ok (.invokestatic 90, 3) := by decide +kernel
theorem dX0_hanging_14 : decode cX0_hanging 14 = .ok (.ifCond .eq 16, 3) := by decide +kernel
theorem dX0_hanging_17 : decode cX0_hanging 17 = .ok (.aload_n 0, 1) := by decide +kernel
theorem dX0_hanging_18 : decode cX0_hanging 18 = .ok (.getfield 62, 3) := by decide +kernel
theorem dX0_hanging_21 : decode cX0_hanging 21 = .ok (.iload_n 1, 1) := by decide +kernel
theorem dX0_hanging_22 : decode cX0_hanging 22 = .ok (.iconst 3, 1) := by decide +kernel
theorem dX0_hanging_23 : decode cX0_hanging 23 = .ok (.imul, 1) := by decide +kernel
theorem dX0_hanging_24 : decode cX0_hanging 24 = .ok (.iload_n 2, 1) := by decide +kernel
theorem dX0_hanging_25 : decode cX0_hanging 25 = .ok (.iadd, 1) := by decide +kernel
theorem dX0_hanging_26 : decode cX0_hanging 26 = .ok (.iaload, 1) := by decide +kernel
theorem dX0_hanging_27 : decode cX0_hanging 27 = .ok (.goto 4, 3) := by decide +kernel
theorem dX0_hanging_30 : decode cX0_hanging 30 = .ok (.iconst 0, 1) := by decide +kernel
theorem dX0_hanging_31 : decode cX0_hanging 31 = .ok (.ireturn, 1) := by decide +kernel
set_option maxRecDepth 20000 in
theorem ggX0_hang_X5_isBelow : GoodIn wsX0_hang wsX5_isBelow := goodIn_r _ [4] (by decide +kernel) (by decide +kernel)
set_option maxRecDepth 20000 in
theorem gX0_hang_X5_isBelow_n90 : GoodIn wsX0_hang (wsX5_isBelow) := ggX0_hang_X5_isBelow
theorem dX0_hang_0 : decode cX0_hang 0 = .ok (.iload_n 1, 1) := by decide +kernel
theorem dX0_hang_1 : decode cX0_hang 1 = .ok (.bipush 10, 2) := by decide +kernel
theorem dX0_hang_3 : decode cX0_hang 3 = .ok (.invokestatic 90, 3) := by decide +kernel
theorem dX0_hang_6 : decode cX0_hang 6 = .ok (.ifCond .eq 25, 3) := by decide +kernel
theorem dX0_hang_9 : decode cX0_hang 9 = .ok (.iload_n 2, 1) := by decide +kernel
theorem dX0_hang_10 : decode cX0_hang 10 = .ok (.iconst 3, 1) := by decide +kernel
theorem dX0_hang_11 : decode cX0_hang 11 = .ok (.invokestatic 90, 3) := by decide +kernel
theorem dX0_hang_14 : decode cX0_hang 14 = .ok (.ifCond .eq 17, 3) := by decide +kernel
theorem dX0_hang_17 : decode cX0_hang 17 = .ok (.aload_n 0, 1) := by decide +kernel
theorem dX0_hang_18 : decode cX0_hang 18 = .ok (.getfield 62, 3) := by decide +kernel
theorem dX0_hang_21 : decode cX0_hang 21 = .ok (.iload_n 1, 1) := by decide +kernel
theorem dX0_hang_22 : decode cX0_hang 22 = .ok (.iconst 3, 1) := by decide +kernel
theorem dX0_hang_23 : decode cX0_hang 23 = .ok (.imul, 1) := by decide +kernel
theorem dX0_hang_24 : decode cX0_hang 24 = .ok (.iload_n 2, 1) := by decide +kernel
theorem dX0_hang_25 : decode cX0_hang 25 = .ok (.iadd, 1) := by decide +kernel
theorem dX0_hang_26 : decode cX0_hang 26 = .ok (.dup2, 1) := by decide +kernel
theorem dX0_hang_27 : decode cX0_hang 27 = .ok (.iaload, 1) := by decide +kernel
theorem dX0_hang_28 : decode cX0_hang 28 = .ok (.iload_n 3, 1) := by decide +kernel
theorem dX0_hang_29 : decode cX0_hang 29 = .ok (.iadd, 1) := by decide +kernel
theorem dX0_hang_30 : decode cX0_hang 30 = .ok (.iastore, 1) := by decide +kernel
theorem dX0_hang_31 : decode cX0_hang 31 = .ok (.return_, 1) := by decide +kernel
set_option maxRecDepth 20000 in
theorem ggX0_tell_X0_freeFelts : GoodIn wsX0_tell wsX0_freeFelts := goodIn_r _ [12, 3, 6, 32, 33, 34, 35, 36, 37, 38, 39, 40, 41, 42, 43, 44, 45, 46, 47, 48] (by decide +kernel) (by decide +kernel)
set_option maxRecDepth 20000 in
theorem gX0_tell_X0_freeFelts : GoodIn wsX0_tell (wsV RX0 97 RX0 yX0_freeFelts wsX0_freeFelts) := goodIn_app (goodIn_of _ (by decide +kernel)) ggX0_tell_X0_freeFelts
set_option maxRecDepth 20000 in
theorem ggX0_tell_X0_allHanging : GoodIn wsX0_tell wsX0_allHanging := goodIn_r _ [16, 17, 32, 33, 34, 35, 36, 37, 38, 39, 40, 41, 42, 43] (by decide +kernel) (by decide +kernel)
set_option maxRecDepth 20000 in
theorem gX0_tell_X0_allHanging : GoodIn wsX0_tell (wsV RX0 104 RX0 yX0_allHanging wsX0_allHanging) := goodIn_app (goodIn_of _ (by decide +kernel)) ggX0_tell_X0_allHanging
set_option maxRecDepth 20000 in
theorem ggX0_tell_X4_allPulp : GoodIn wsX0_tell wsX4_allPulp := goodIn_r _ [22, 23, 49, 50, 51] (by decide +kernel) (by decide +kernel)
set_option maxRecDepth 20000 in
theorem gX0_tell_X4_allPulp : GoodIn wsX0_tell (wsV RX0 107 RX4 yX4_allPulp wsX4_allPulp) := goodIn_app (goodIn_of _ (by decide +kernel)) ggX0_tell_X4_allPulp
set_option maxRecDepth 20000 in
theorem ggX0_tell_X0_poundsOf : GoodIn wsX0_tell wsX0_poundsOf := goodIn_r _ [27, 28, 29, 30, 31, 32, 33, 34, 35, 36, 37, 38, 39, 40, 41, 42, 43] (by decide +kernel) (by decide +kernel)
set_option maxRecDepth 20000 in
theorem gX0_tell_X0_poundsOf : GoodIn wsX0_tell (wsV RX0 110 RX0 yX0_poundsOf wsX0_poundsOf) := goodIn_app (goodIn_of _ (by decide +kernel)) ggX0_tell_X0_poundsOf
theorem dX0_tell_0 : decode cX0_tell 0 = .ok (.iload_n 1, 1) := by decide +kernel
theorem dX0_tell_1 : decode cX0_tell 1 = .ok (.tableswitch 102 0 8 #[51, 56, 61, 66, 71, 76, 81, 89, 94], 51) := by decide +kernel
theorem dX0_tell_52 : decode cX0_tell 52 = .ok (.aload_n 0, 1) := by decide +kernel
theorem dX0_tell_53 : decode cX0_tell 53 = .ok (.getfield 9, 3) := by decide +kernel
theorem dX0_tell_56 : decode cX0_tell 56 = .ok (.ireturn, 1) := by decide +kernel
theorem dX0_tell_57 : decode cX0_tell 57 = .ok (.aload_n 0, 1) := by decide +kernel
theorem dX0_tell_58 : decode cX0_tell 58 = .ok (.getfield 15, 3) := by decide +kernel
theorem dX0_tell_61 : decode cX0_tell 61 = .ok (.ireturn, 1) := by decide +kernel
theorem dX0_tell_62 : decode cX0_tell 62 = .ok (.aload_n 0, 1) := by decide +kernel
theorem dX0_tell_63 : decode cX0_tell 63 = .ok (.getfield 18, 3) := by decide +kernel
theorem dX0_tell_66 : decode cX0_tell 66 = .ok (.ireturn, 1) := by decide +kernel
theorem dX0_tell_67 : decode cX0_tell 67 = .ok (.aload_n 0, 1) := by decide +kernel
theorem dX0_tell_68 : decode cX0_tell 68 = .ok (.invokevirtual 97, 3) := by decide +kernel
theorem dX0_tell_71 : decode cX0_tell 71 = .ok (.ireturn, 1) := by decide +kernel
theorem dX0_tell_72 : decode cX0_tell 72 = .ok (.aload_n 0, 1) := by decide +kernel
theorem dX0_tell_73 : decode cX0_tell 73 = .ok (.getfield 21, 3) := by decide +kernel
theorem dX0_tell_76 : decode cX0_tell 76 = .ok (.ireturn, 1) := by decide +kernel
theorem dX0_tell_77 : decode cX0_tell 77 = .ok (.aload_n 0, 1) := by decide +kernel
theorem dX0_tell_78 : decode cX0_tell 78 = .ok (.getfield 24, 3) := by decide +kernel
theorem dX0_tell_81 : decode cX0_tell 81 = .ok (.ireturn, 1) := by decide +kernel
theorem dX0_tell_82 : decode cX0_tell 82 = .ok (.aload_n 0, 1) := by decide +kernel
theorem dX0_tell_83 : decode cX0_tell 83 = .ok (.getfield 58, 3) := by decide +kernel
theorem dX0_tell_86 : decode cX0_tell 86 = .ok (.getfield 101, 3) := by decide +kernel
theorem dX0_tell_89 : decode cX0_tell 89 = .ok (.ireturn, 1) := by decide +kernel
theorem dX0_tell_90 : decode cX0_tell 90 = .ok (.aload_n 0, 1) := by decide +kernel
theorem dX0_tell_91 : decode cX0_tell 91 = .ok (.invokevirtual 104, 3) := by decide +kernel
theorem dX0_tell_94 : decode cX0_tell 94 = .ok (.ireturn, 1) := by decide +kernel
theorem dX0_tell_95 : decode cX0_tell 95 = .ok (.aload_n 0, 1) := by decide +kernel
theorem dX0_tell_96 : decode cX0_tell 96 = .ok (.getfield 37, 3) := by decide +kernel
theorem dX0_tell_99 : decode cX0_tell 99 = .ok (.invokevirtual 107, 3) := by decide +kernel
theorem dX0_tell_102 : decode cX0_tell 102 = .ok (.ireturn, 1) := by decide +kernel
theorem dX0_tell_103 : decode cX0_tell 103 = .ok (.aload_n 0, 1) := by decide +kernel
theorem dX0_tell_104 : decode cX0_tell 104 = .ok (.iload_n 1, 1) := by decide +kernel
theorem dX0_tell_105 : decode cX0_tell 105 = .ok (.bipush 9, 2) := by decide +kernel
theorem dX0_tell_107 : decode cX0_tell 107 = .ok (.isub, 1) := by decide +kernel
theorem dX0_tell_108 : decode cX0_tell 108 = .ok (.invokevirtual 110, 3) := by decide +kernel
theorem dX0_tell_111 : decode cX0_tell 111 = .ok (.ireturn, 1) := by decide +kernel
set_option maxRecDepth 20000 in
theorem ggX0_tellPair_X1_markOf : GoodIn wsX0_tellPair wsX1_markOf := goodIn_r _ [7, 8, 9, 10, 11, 6, 12, 13, 51, 52, 53, 54] (by decide +kernel) (by decide +kernel)
set_option maxRecDepth 20000 in
theorem gX0_tellPair_X1_markOf : GoodIn wsX0_tellPair (wsV RX0 114 RX1 yX1_markOf wsX1_markOf) := goodIn_app (goodIn_of _ (by decide +kernel)) ggX0_tellPair_X1_markOf
set_option maxRecDepth 20000 in
theorem ggX0_tellPair_X1_sizeOf : GoodIn wsX0_tellPair wsX1_sizeOf := goodIn_r _ [17, 18, 9, 10, 11, 6, 12, 13, 51, 52, 53, 54] (by decide +kernel) (by decide +kernel)
set_option maxRecDepth 20000 in
theorem gX0_tellPair_X1_sizeOf : GoodIn wsX0_tellPair (wsV RX0 117 RX1 yX1_sizeOf wsX1_sizeOf) := goodIn_app (goodIn_of _ (by decide +kernel)) ggX0_tellPair_X1_sizeOf
set_option maxRecDepth 20000 in
theorem ggX0_tellPair_X1_wornOf : GoodIn wsX0_tellPair wsX1_wornOf := goodIn_r _ [22, 23, 9, 10, 11, 6, 12, 13, 51, 52, 53, 54] (by decide +kernel) (by decide +kernel)
set_option maxRecDepth 20000 in
theorem gX0_tellPair_X1_wornOf : GoodIn wsX0_tellPair (wsV RX0 120 RX1 yX1_wornOf wsX1_wornOf) := goodIn_app (goodIn_of _ (by decide +kernel)) ggX0_tellPair_X1_wornOf
set_option maxRecDepth 20000 in
theorem ggX0_tellPair_X3_holderOf : GoodIn wsX0_tellPair wsX3_holderOf := goodIn_r _ [28, 29, 30, 31, 32, 27, 33, 34, 35, 36, 37, 38, 55, 56, 57, 58] (by decide +kernel) (by decide +kernel)
set_option maxRecDepth 20000 in
theorem gX0_tellPair_X3_holderOf : GoodIn wsX0_tellPair (wsV RX0 123 RX3 yX3_holderOf wsX3_holderOf) := goodIn_app (goodIn_of _ (by decide +kernel)) ggX0_tellPair_X3_holderOf
theorem dX0_tellPair_0 : decode cX0_tellPair 0 = .ok (.iload_n 2, 1) := by decide +kernel
theorem dX0_tellPair_1 : decode cX0_tellPair 1 = .ok (.tableswitch 54 0 2 #[27, 36, 45], 27) := by decide +kernel
theorem dX0_tellPair_28 : decode cX0_tellPair 28 = .ok (.aload_n 0, 1) := by decide +kernel
theorem dX0_tellPair_29 : decode cX0_tellPair 29 = .ok (.getfield 44, 3) := by decide +kernel
theorem dX0_tellPair_32 : decode cX0_tellPair 32 = .ok (.iload_n 1, 1) := by decide +kernel
theorem dX0_tellPair_33 : decode cX0_tellPair 33 = .ok (.invokevirtual 114, 3) := by decide +kernel
theorem dX0_tellPair_36 : decode cX0_tellPair 36 = .ok (.ireturn, 1) := by decide +kernel
theorem dX0_tellPair_37 : decode cX0_tellPair 37 = .ok (.aload_n 0, 1) := by decide +kernel
theorem dX0_tellPair_38 : decode cX0_tellPair 38 = .ok (.getfield 44, 3) := by decide +kernel
theorem dX0_tellPair_41 : decode cX0_tellPair 41 = .ok (.iload_n 1, 1) := by decide +kernel
theorem dX0_tellPair_42 : decode cX0_tellPair 42 = .ok (.invokevirtual 117, 3) := by decide +kernel
theorem dX0_tellPair_45 : decode cX0_tellPair 45 = .ok (.ireturn, 1) := by decide +kernel
theorem dX0_tellPair_46 : decode cX0_tellPair 46 = .ok (.aload_n 0, 1) := by decide +kernel
theorem dX0_tellPair_47 : decode cX0_tellPair 47 = .ok (.getfield 44, 3) := by decide +kernel
theorem dX0_tellPair_50 : decode cX0_tellPair 50 = .ok (.iload_n 1, 1) := by decide +kernel
theorem dX0_tellPair_51 : decode cX0_tellPair 51 = .ok (.invokevirtual 120, 3) := by decide +kernel
theorem dX0_tellPair_54 : decode cX0_tellPair 54 = .ok (.ireturn, 1) := by decide +kernel
theorem dX0_tellPair_55 : decode cX0_tellPair 55 = .ok (.aload_n 0, 1) := by decide +kernel
theorem dX0_tellPair_56 : decode cX0_tellPair 56 = .ok (.getfield 51, 3) := by decide +kernel
theorem dX0_tellPair_59 : decode cX0_tellPair 59 = .ok (.iload_n 1, 1) := by decide +kernel
theorem dX0_tellPair_60 : decode cX0_tellPair 60 = .ok (.invokevirtual 123, 3) := by decide +kernel
theorem dX0_tellPair_63 : decode cX0_tellPair 63 = .ok (.ireturn, 1) := by decide +kernel
set_option maxRecDepth 20000 in
theorem ggX0_tellTeam_X3_skillOf : GoodIn wsX0_tellTeam wsX3_skillOf := goodIn_r _ [6, 7, 8, 9, 10, 5, 11, 12, 77, 78, 79, 80] (by decide +kernel) (by decide +kernel)
set_option maxRecDepth 20000 in
theorem gX0_tellTeam_X3_skillOf : GoodIn wsX0_tellTeam (wsV RX0 126 RX3 yX3_skillOf wsX3_skillOf) := goodIn_app (goodIn_of _ (by decide +kernel)) ggX0_tellTeam_X3_skillOf
set_option maxRecDepth 20000 in
theorem ggX0_tellTeam_X3_vatOf : GoodIn wsX0_tellTeam wsX3_vatOf := goodIn_r _ [16, 17, 8, 9, 10, 5, 11, 12, 77, 78, 79, 80] (by decide +kernel) (by decide +kernel)
set_option maxRecDepth 20000 in
theorem gX0_tellTeam_X3_vatOf : GoodIn wsX0_tellTeam (wsV RX0 129 RX3 yX3_vatOf wsX3_vatOf) := goodIn_app (goodIn_of _ (by decide +kernel)) ggX0_tellTeam_X3_vatOf
set_option maxRecDepth 20000 in
theorem ggX0_tellTeam_X3_pairOf : GoodIn wsX0_tellTeam wsX3_pairOf := goodIn_r _ [21, 22, 8, 9, 10, 5, 11, 12, 77, 78, 79, 80] (by decide +kernel) (by decide +kernel)
set_option maxRecDepth 20000 in
theorem gX0_tellTeam_X3_pairOf : GoodIn wsX0_tellTeam (wsV RX0 132 RX3 yX3_pairOf wsX3_pairOf) := goodIn_app (goodIn_of _ (by decide +kernel)) ggX0_tellTeam_X3_pairOf
set_option maxRecDepth 20000 in
theorem ggX0_tellTeam_X0_sheetsOf : GoodIn wsX0_tellTeam wsX0_sheetsOf := goodIn_r _ [27, 1, 28, 29, 30, 31, 32, 33, 13, 14, 15, 5, 16, 17, 8, 9, 10, 11, 12, 18, 19, 20, 21, 22, 34, 35, 36, 37, 38, 39, 40, 41, 42, 43, 44, 45, 46, 47, 48, 49, 50, 51, 52, 53, 2, 3, 4, 6, 7, 54, 55, 56, 26, 57, 58, 59, 60, 61, 62, 63, 64, 65, 66, 67, 68, 69, 70, 71, 72, 73, 74, 75, 76, 77, 78, 79, 80, 81, 82, 83, 84, 85, 86, 87, 88, 89, 90, 91, 92] (by decide +kernel) (by decide +kernel)
set_option maxRecDepth 20000 in
theorem gX0_tellTeam_X0_sheetsOf : GoodIn wsX0_tellTeam (wsV RX0 135 RX0 yX0_sheetsOf wsX0_sheetsOf) := goodIn_app (goodIn_of _ (by decide +kernel)) ggX0_tellTeam_X0_sheetsOf
theorem dX0_tellTeam_0 : decode cX0_tellTeam 0 = .ok (.iload_n 2, 1) := by decide +kernel
theorem dX0_tellTeam_1 : decode cX0_tellTeam 1 = .ok (.tableswitch 54 0 2 #[27, 36, 45], 27) := by decide +kernel
theorem dX0_tellTeam_28 : decode cX0_tellTeam 28 = .ok (.aload_n 0, 1) := by decide +kernel
theorem dX0_tellTeam_29 : decode cX0_tellTeam 29 = .ok (.getfield 51, 3) := by decide +kernel
theorem dX0_tellTeam_32 : decode cX0_tellTeam 32 = .ok (.iload_n 1, 1) := by decide +kernel
theorem dX0_tellTeam_33 : decode cX0_tellTeam 33 = .ok (.invokevirtual 126, 3) := by decide +kernel
theorem dX0_tellTeam_36 : decode cX0_tellTeam 36 = .ok (.ireturn, 1) := by decide +kernel
theorem dX0_tellTeam_37 : decode cX0_tellTeam 37 = .ok (.aload_n 0, 1) := by decide +kernel
theorem dX0_tellTeam_38 : decode cX0_tellTeam 38 = .ok (.getfield 51, 3) := by decide +kernel
theorem dX0_tellTeam_41 : decode cX0_tellTeam 41 = .ok (.iload_n 1, 1) := by decide +kernel
theorem dX0_tellTeam_42 : decode cX0_tellTeam 42 = .ok (.invokevirtual 129, 3) := by decide +kernel
theorem dX0_tellTeam_45 : decode cX0_tellTeam 45 = .ok (.ireturn, 1) := by decide +kernel
theorem dX0_tellTeam_46 : decode cX0_tellTeam 46 = .ok (.aload_n 0, 1) := by decide +kernel
theorem dX0_tellTeam_47 : decode cX0_tellTeam 47 = .ok (.getfield 51, 3) := by decide +kernel
theorem dX0_tellTeam_50 : decode cX0_tellTeam 50 = .ok (.iload_n 1, 1) := by decide +kernel
theorem dX0_tellTeam_51 : decode cX0_tellTeam 51 = .ok (.invokevirtual 132, 3) := by decide +kernel
theorem dX0_tellTeam_54 : decode cX0_tellTeam 54 = .ok (.ireturn, 1) := by decide +kernel
theorem dX0_tellTeam_55 : decode cX0_tellTeam 55 = .ok (.aload_n 0, 1) := by decide +kernel
theorem dX0_tellTeam_56 : decode cX0_tellTeam 56 = .ok (.iload_n 1, 1) := by decide +kernel
theorem dX0_tellTeam_57 : decode cX0_tellTeam 57 = .ok (.invokevirtual 135, 3) := by decide +kernel
theorem dX0_tellTeam_60 : decode cX0_tellTeam 60 = .ok (.ireturn, 1) := by decide +kernel
set_option maxRecDepth 20000 in
theorem ggX0_sheetsOf_X3_vatOf : GoodIn wsX0_sheetsOf wsX3_vatOf := goodIn_r _ [12, 13, 14, 15, 16, 11, 17, 18, 73, 74, 75, 76] (by decide +kernel) (by decide +kernel)
set_option maxRecDepth 20000 in
theorem gX0_sheetsOf_X3_vatOf : GoodIn wsX0_sheetsOf (wsV RX0 129 RX3 yX3_vatOf wsX3_vatOf) := goodIn_app (goodIn_of _ (by decide +kernel)) ggX0_sheetsOf_X3_vatOf
set_option maxRecDepth 20000 in
theorem ggX0_sheetsOf_X3_pairOf : GoodIn wsX0_sheetsOf wsX3_pairOf := goodIn_r _ [22, 23, 14, 15, 16, 11, 17, 18, 73, 74, 75, 76] (by decide +kernel) (by decide +kernel)
set_option maxRecDepth 20000 in
theorem gX0_sheetsOf_X3_pairOf : GoodIn wsX0_sheetsOf (wsV RX0 132 RX3 yX3_pairOf wsX3_pairOf) := goodIn_app (goodIn_of _ (by decide +kernel)) ggX0_sheetsOf_X3_pairOf
set_option maxRecDepth 20000 in
theorem ggX0_sheetsOf_X4_beatOf : GoodIn wsX0_sheetsOf wsX4_beatOf := goodIn_r _ [28, 29, 30, 31, 32, 77, 78, 79] (by decide +kernel) (by decide +kernel)
set_option maxRecDepth 20000 in
theorem gX0_sheetsOf_X4_beatOf : GoodIn wsX0_sheetsOf (wsV RX0 138 RX4 yX4_beatOf wsX4_beatOf) := goodIn_app (goodIn_of _ (by decide +kernel)) ggX0_sheetsOf_X4_beatOf
set_option maxRecDepth 20000 in
theorem ggX0_sheetsOf_X1_sizeOf : GoodIn wsX0_sheetsOf wsX1_sizeOf := goodIn_r _ [37, 38, 39, 40, 41, 36, 42, 43, 80, 81, 82, 83] (by decide +kernel) (by decide +kernel)
set_option maxRecDepth 20000 in
theorem gX0_sheetsOf_X1_sizeOf : GoodIn wsX0_sheetsOf (wsV RX0 117 RX1 yX1_sizeOf wsX1_sizeOf) := goodIn_app (goodIn_of _ (by decide +kernel)) ggX0_sheetsOf_X1_sizeOf
set_option maxRecDepth 20000 in
theorem ggX0_sheetsOf_X3_skillOf : GoodIn wsX0_sheetsOf wsX3_skillOf := goodIn_r _ [47, 48, 14, 15, 16, 11, 17, 18, 73, 74, 75, 76] (by decide +kernel) (by decide +kernel)
set_option maxRecDepth 20000 in
theorem gX0_sheetsOf_X3_skillOf : GoodIn wsX0_sheetsOf (wsV RX0 126 RX3 yX3_skillOf wsX3_skillOf) := goodIn_app (goodIn_of _ (by decide +kernel)) ggX0_sheetsOf_X3_skillOf
set_option maxRecDepth 20000 in
theorem ggX0_sheetsOf_X0_freeFelts : GoodIn wsX0_sheetsOf wsX0_freeFelts := goodIn_r _ [53, 54, 55, 61, 62, 63, 64, 65, 66, 67, 68, 69, 70, 71, 72, 84, 85, 86, 87, 88] (by decide +kernel) (by decide +kernel)
set_option maxRecDepth 20000 in
theorem gX0_sheetsOf_X0_freeFelts : GoodIn wsX0_sheetsOf (wsV RX0 97 RX0 yX0_freeFelts wsX0_freeFelts) := goodIn_app (goodIn_of _ (by decide +kernel)) ggX0_sheetsOf_X0_freeFelts
set_option maxRecDepth 20000 in
theorem ggX0_sheetsOf_X4_pulpOf : GoodIn wsX0_sheetsOf wsX4_pulpOf := goodIn_r _ [59, 60, 30, 31, 32, 77, 78, 79] (by decide +kernel) (by decide +kernel)
set_option maxRecDepth 20000 in
theorem gX0_sheetsOf_X4_pulpOf : GoodIn wsX0_sheetsOf (wsV RX0 147 RX4 yX4_pulpOf wsX4_pulpOf) := goodIn_app (goodIn_of _ (by decide +kernel)) ggX0_sheetsOf_X4_pulpOf
theorem dX0_sheetsOf_0 : decode cX0_sheetsOf 0 = .ok (.aload_n 0, 1) := by decide +kernel
theorem dX0_sheetsOf_1 : decode cX0_sheetsOf 1 = .ok (.getfield 51, 3) := by decide +kernel
theorem dX0_sheetsOf_4 : decode cX0_sheetsOf 4 = .ok (.iload_n 1, 1) := by decide +kernel
theorem dX0_sheetsOf_5 : decode cX0_sheetsOf 5 = .ok (.invokevirtual 129, 3) := by decide +kernel
theorem dX0_sheetsOf_8 : decode cX0_sheetsOf 8 = .ok (.istore_n 2, 1) := by decide +kernel
theorem dX0_sheetsOf_9 : decode cX0_sheetsOf 9 = .ok (.aload_n 0, 1) := by decide +kernel
theorem dX0_sheetsOf_10 : decode cX0_sheetsOf 10 = .ok (.getfield 51, 3) := by decide +kernel
theorem dX0_sheetsOf_13 : decode cX0_sheetsOf 13 = .ok (.iload_n 1, 1) := by decide +kernel
theorem dX0_sheetsOf_14 : decode cX0_sheetsOf 14 = .ok (.invokevirtual 132, 3) := by decide +kernel
theorem dX0_sheetsOf_17 : decode cX0_sheetsOf 17 = .ok (.istore_n 3, 1) := by decide +kernel
theorem dX0_sheetsOf_18 : decode cX0_sheetsOf 18 = .ok (.iload_n 2, 1) := by decide +kernel
theorem dX0_sheetsOf_19 : decode cX0_sheetsOf 19 = .ok (.iconst (-1), 1) := by decide +kernel
theorem dX0_sheetsOf_20 : decode cX0_sheetsOf 20 = .ok (.if_icmp .eq 21, 3) := by decide +kernel
theorem dX0_sheetsOf_23 : decode cX0_sheetsOf 23 = .ok (.iload_n 3, 1) := by decide +kernel
theorem dX0_sheetsOf_24 : decode cX0_sheetsOf 24 = .ok (.iconst (-1), 1) := by decide +kernel
theorem dX0_sheetsOf_25 : decode cX0_sheetsOf 25 = .ok (.if_icmp .eq 16, 3) := by decide +kernel
theorem dX0_sheetsOf_28 : decode cX0_sheetsOf 28 = .ok (.aload_n 0, 1) := by decide +kernel
theorem dX0_sheetsOf_29 : decode cX0_sheetsOf 29 = .ok (.getfield 37, 3) := by decide +kernel
theorem dX0_sheetsOf_32 : decode cX0_sheetsOf 32 = .ok (.iload_n 2, 1) := by decide +kernel
theorem dX0_sheetsOf_33 : decode cX0_sheetsOf 33 = .ok (.invokevirtual 138, 3) := by decide +kernel
theorem dX0_sheetsOf_36 : decode cX0_sheetsOf 36 = .ok (.bipush 30, 2) := by decide +kernel
theorem dX0_sheetsOf_38 : decode cX0_sheetsOf 38 = .ok (.if_icmp .ge 5, 3) := by decide +kernel
theorem dX0_sheetsOf_41 : decode cX0_sheetsOf 41 = .ok (.iconst 0, 1) := by decide +kernel
theorem dX0_sheetsOf_42 : decode cX0_sheetsOf 42 = .ok (.ireturn, 1) := by decide +kernel
theorem dX0_sheetsOf_43 : decode cX0_sheetsOf 43 = .ok (.aload_n 0, 1) := by decide +kernel
theorem dX0_sheetsOf_44 : decode cX0_sheetsOf 44 = .ok (.getfield 44, 3) := by decide +kernel
theorem dX0_sheetsOf_47 : decode cX0_sheetsOf 47 = .ok (.iload_n 3, 1) := by decide +kernel
theorem dX0_sheetsOf_48 : decode cX0_sheetsOf 48 = .ok (.invokevirtual 117, 3) := by decide +kernel
theorem dX0_sheetsOf_51 : decode cX0_sheetsOf 51 = .ok (.istore 4, 2) := by decide +kernel
theorem dX0_sheetsOf_53 : decode cX0_sheetsOf 53 = .ok (.iload 4, 2) := by decide +kernel
theorem dX0_sheetsOf_55 : decode cX0_sheetsOf 55 = .ok (.iconst 1, 1) := by decide +kernel
theorem dX0_sheetsOf_56 : decode cX0_sheetsOf 56 = .ok (.if_icmp .ge 5, 3) := by decide +kernel
theorem dX0_sheetsOf_59 : decode cX0_sheetsOf 59 = .ok (.iconst 0, 1) := by decide +kernel
theorem dX0_sheetsOf_60 : decode cX0_sheetsOf 60 = .ok (.ireturn, 1) := by decide +kernel
theorem dX0_sheetsOf_61 : decode cX0_sheetsOf 61 = .ok (.aload_n 0, 1) := by decide +kernel
theorem dX0_sheetsOf_62 : decode cX0_sheetsOf 62 = .ok (.getfield 51, 3) := by decide +kernel
theorem dX0_sheetsOf_65 : decode cX0_sheetsOf 65 = .ok (.iload_n 1, 1) := by decide +kernel
theorem dX0_sheetsOf_66 : decode cX0_sheetsOf 66 = .ok (.invokevirtual 126, 3) := by decide +kernel
theorem dX0_sheetsOf_69 : decode cX0_sheetsOf 69 = .ok (.aload_n 0, 1) := by decide +kernel
theorem dX0_sheetsOf_70 : decode cX0_sheetsOf 70 = .ok (.invokevirtual 97, 3) := by decide +kernel
theorem dX0_sheetsOf_73 : decode cX0_sheetsOf 73 = .ok (.invokestatic 141, 3) := by decide +kernel
theorem dX0_sheetsOf_76 : decode cX0_sheetsOf 76 = .ok (.istore 5, 2) := by decide +kernel
theorem dX0_sheetsOf_78 : decode cX0_sheetsOf 78 = .ok (.iload 5, 2) := by decide +kernel
theorem dX0_sheetsOf_80 : decode cX0_sheetsOf 80 = .ok (.aload_n 0, 1) := by decide +kernel
theorem dX0_sheetsOf_81 : decode cX0_sheetsOf 81 = .ok (.getfield 37, 3) := by decide +kernel
theorem dX0_sheetsOf_84 : decode cX0_sheetsOf 84 = .ok (.iload_n 2, 1) := by decide +kernel
theorem dX0_sheetsOf_85 : decode cX0_sheetsOf 85 = .ok (.invokevirtual 147, 3) := by decide +kernel
theorem dX0_sheetsOf_88 : decode cX0_sheetsOf 88 = .ok (.iload 4, 2) := by decide +kernel
theorem dX0_sheetsOf_90 : decode cX0_sheetsOf 90 = .ok (.idiv, 1) := by decide +kernel
theorem dX0_sheetsOf_91 : decode cX0_sheetsOf 91 = .ok (.invokestatic 141, 3) := by decide +kernel
theorem dX0_sheetsOf_94 : decode cX0_sheetsOf 94 = .ok (.ireturn, 1) := by decide +kernel
set_option maxRecDepth 20000 in
theorem ggX0_liveDays_X0_liveDay : GoodIn wsX0_liveDays wsX0_liveDay := goodIn_r _ [5, 6, 7, 8, 9, 10, 11, 12, 13, 14, 15, 16, 17, 18, 19, 20, 21, 22, 23, 24, 25, 26, 27, 28, 29, 30, 31, 4, 32, 33, 34, 35, 36, 37, 38, 39, 40, 41, 42, 43, 44, 45, 46, 47, 48, 49, 50, 51, 52, 53, 54, 55, 56, 57, 58, 59, 60, 61, 62, 63, 64, 65, 66, 67, 68, 69, 70, 71, 72, 73, 74, 75, 76, 77, 78, 79, 80, 81, 82, 83, 84, 85, 86, 87, 88, 89, 90, 91, 92, 93, 94, 95, 96, 97, 98, 99, 100, 101, 102, 103, 104, 105, 106, 107, 108, 109, 110, 111, 112, 113, 114, 115, 116, 117, 118, 119, 120, 121, 122, 123, 124, 125, 126, 127, 128, 129, 130, 131, 132, 133, 134, 135, 136, 137, 138, 139, 140, 141, 142, 143, 144, 145, 146, 147, 148, 149, 150, 151, 152, 153, 154, 155, 156, 157, 158, 159, 160, 161, 162, 163, 164, 165, 166, 167, 168, 169, 170, 171, 172, 173, 174, 175, 176, 177, 178, 179, 180, 181, 182, 183, 184, 185, 186, 187, 188, 189, 190, 191, 192, 193, 194, 195, 196, 197, 198, 199] (by decide +kernel) (by decide +kernel)
set_option maxRecDepth 20000 in
theorem gX0_liveDays_X0_liveDay : GoodIn wsX0_liveDays (wsV RX0 150 RX0 yX0_liveDay wsX0_liveDay) := goodIn_app (goodIn_of _ (by decide +kernel)) ggX0_liveDays_X0_liveDay
theorem dX0_liveDays_0 : decode cX0_liveDays 0 = .ok (.iconst 0, 1) := by decide +kernel
theorem dX0_liveDays_1 : decode cX0_liveDays 1 = .ok (.istore_n 2, 1) := by decide +kernel
theorem dX0_liveDays_2 : decode cX0_liveDays 2 = .ok (.iload_n 2, 1) := by decide +kernel
theorem dX0_liveDays_3 : decode cX0_liveDays 3 = .ok (.iload_n 1, 1) := by decide +kernel
theorem dX0_liveDays_4 : decode cX0_liveDays 4 = .ok (.if_icmp .ge 13, 3) := by decide +kernel
theorem dX0_liveDays_7 : decode cX0_liveDays 7 = .ok (.aload_n 0, 1) := by decide +kernel
theorem dX0_liveDays_8 : decode cX0_liveDays 8 = .ok (.invokevirtual 150, 3) := by decide +kernel
theorem dX0_liveDays_11 : decode cX0_liveDays 11 = .ok (.iinc 2 1, 3) := by decide +kernel
theorem dX0_liveDays_14 : decode cX0_liveDays 14 = .ok (.goto (-12), 3) := by decide +kernel
theorem dX0_liveDays_17 : decode cX0_liveDays 17 = .ok (.return_, 1) := by decide +kernel
set_option maxRecDepth 20000 in
theorem ggX0_liveDay_J9_floorMod_7cf53 : GoodIn wsX0_liveDay wsJ9_floorMod_7cf53 := goodIn_r _ [8] (by decide +kernel) (by decide +kernel)
set_option maxRecDepth 20000 in
theorem gX0_liveDay_J9_floorMod_7cf53 : GoodIn wsX0_liveDay (va_wsS RX0 153 yJ9_floorMod_7cf53 wsJ9_floorMod_7cf53) := goodIn_app (goodIn_of _ (by decide +kernel)) ggX0_liveDay_J9_floorMod_7cf53
set_option maxRecDepth 20000 in
theorem ggX0_liveDay_X4_beatAll : GoodIn wsX0_liveDay wsX4_beatAll := goodIn_r _ [13, 14, 15, 16, 17, 18, 19, 20, 21, 22, 12, 23, 184, 185, 186] (by decide +kernel) (by decide +kernel)
set_option maxRecDepth 20000 in
theorem gX0_liveDay_X4_beatAll : GoodIn wsX0_liveDay (wsV RX0 156 RX4 yX4_beatAll wsX4_beatAll) := goodIn_app (goodIn_of _ (by decide +kernel)) ggX0_liveDay_X4_beatAll
set_option maxRecDepth 20000 in
theorem ggX0_liveDay_X0_makeSheets : GoodIn wsX0_liveDay wsX0_makeSheets := goodIn_r _ [28, 4, 29, 30, 31, 32, 1, 33, 34, 35, 27, 36, 37, 17, 18, 19, 38, 39, 40, 41, 42, 43, 44, 45, 46, 47, 48, 49, 50, 51, 52, 53, 54, 55, 56, 12, 57, 15, 58, 59, 60, 61, 62, 63, 64, 65, 66, 67, 68, 69, 70, 71, 72, 73, 74, 75, 76, 77, 78, 79, 80, 81, 82, 83, 84, 85, 14, 86, 87, 88, 89, 90, 91, 92, 93, 94, 95, 96, 97, 98, 99, 100, 101, 102, 103, 104, 105, 106, 107, 108, 109, 110, 111, 112, 113, 114, 115, 116, 117, 118, 119, 120, 121, 122, 123, 124, 125, 126, 127, 128, 129, 130, 131, 132, 133, 134, 168, 169, 170, 171, 172, 173, 174, 175, 176, 177, 178, 179, 180, 181, 182, 183, 184, 185, 186, 187, 188, 189, 190, 191, 192, 193, 194, 195] (by decide +kernel) (by decide +kernel)
set_option maxRecDepth 20000 in
theorem gX0_liveDay_X0_makeSheets : GoodIn wsX0_liveDay (wsV RX0 161 RX0 yX0_makeSheets wsX0_makeSheets) := goodIn_app (goodIn_of _ (by decide +kernel)) ggX0_liveDay_X0_makeSheets
set_option maxRecDepth 20000 in
theorem ggX0_liveDay_X0_pressPosts : GoodIn wsX0_liveDay wsX0_pressPosts := goodIn_r _ [138, 29, 37, 17, 18, 19, 139, 140, 141, 111, 142, 116, 143, 144, 145, 146, 113, 147, 148, 149, 150, 114, 151, 152, 153, 154, 115, 155, 156, 157, 27, 158, 159, 58, 59, 60, 160, 161, 162, 163, 117, 164, 165, 166, 167, 168, 169, 170, 171, 172, 173, 174, 175, 176, 177, 178, 179, 191, 192, 193, 194, 195] (by decide +kernel) (by decide +kernel)
set_option maxRecDepth 20000 in
theorem gX0_liveDay_X0_pressPosts : GoodIn wsX0_liveDay (wsV RX0 164 RX0 yX0_pressPosts wsX0_pressPosts) := goodIn_app (goodIn_of _ (by decide +kernel)) ggX0_liveDay_X0_pressPosts
theorem dX0_liveDay_0 : decode cX0_liveDay 0 = .ok (.aload_n 0, 1) := by decide +kernel
theorem dX0_liveDay_1 : decode cX0_liveDay 1 = .ok (.getfield 37, 3) := by decide +kernel
theorem dX0_liveDay_4 : decode cX0_liveDay 4 = .ok (.aload_n 0, 1) := by decide +kernel
theorem dX0_liveDay_5 : decode cX0_liveDay 5 = .ok (.getfield 31, 3) := by decide +kernel
theorem dX0_liveDay_8 : decode cX0_liveDay 8 = .ok (.aload_n 0, 1) := by decide +kernel
theorem dX0_liveDay_9 : decode cX0_liveDay 9 = .ok (.getfield 9, 3) := by decide +kernel
theorem dX0_liveDay_12 : decode cX0_liveDay 12 = .ok (.bipush 7, 2) := by decide +kernel
theorem dX0_liveDay_14 : decode cX0_liveDay 14 = .ok (.invokestatic 153, 3) := by decide +kernel
theorem dX0_liveDay_17 : decode cX0_liveDay 17 = .ok (.iaload, 1) := by decide +kernel
theorem dX0_liveDay_18 : decode cX0_liveDay 18 = .ok (.invokevirtual 156, 3) := by decide +kernel
theorem dX0_liveDay_21 : decode cX0_liveDay 21 = .ok (.iconst 0, 1) := by decide +kernel
theorem dX0_liveDay_22 : decode cX0_liveDay 22 = .ok (.istore_n 1, 1) := by decide +kernel
theorem dX0_liveDay_23 : decode cX0_liveDay 23 = .ok (.iload_n 1, 1) := by decide +kernel
theorem dX0_liveDay_24 : decode cX0_liveDay 24 = .ok (.aload_n 0, 1) := by decide +kernel
theorem dX0_liveDay_25 : decode cX0_liveDay 25 = .ok (.getfield 51, 3) := by decide +kernel
theorem dX0_liveDay_28 : decode cX0_liveDay 28 = .ok (.getfield 160, 3) := by decide +kernel
theorem dX0_liveDay_31 : decode cX0_liveDay 31 = .ok (.if_icmp .ge 14, 3) := by decide +kernel
theorem dX0_liveDay_34 : decode cX0_liveDay 34 = .ok (.aload_n 0, 1) := by decide +kernel
theorem dX0_liveDay_35 : decode cX0_liveDay 35 = .ok (.iload_n 1, 1) := by decide +kernel
theorem dX0_liveDay_36 : decode cX0_liveDay 36 = .ok (.invokevirtual 161, 3) := by decide +kernel
theorem dX0_liveDay_39 : decode cX0_liveDay 39 = .ok (.iinc 1 1, 3) := by decide +kernel
theorem dX0_liveDay_42 : decode cX0_liveDay 42 = .ok (.goto (-19), 3) := by decide +kernel
theorem dX0_liveDay_45 : decode cX0_liveDay 45 = .ok (.aload_n 0, 1) := by decide +kernel
theorem dX0_liveDay_46 : decode cX0_liveDay 46 = .ok (.invokevirtual 164, 3) := by decide +kernel
theorem dX0_liveDay_49 : decode cX0_liveDay 49 = .ok (.aload_n 0, 1) := by decide +kernel
theorem dX0_liveDay_50 : decode cX0_liveDay 50 = .ok (.dup, 1) := by decide +kernel
theorem dX0_liveDay_51 : decode cX0_liveDay 51 = .ok (.getfield 9, 3) := by decide +kernel
theorem dX0_liveDay_54 : decode cX0_liveDay 54 = .ok (.iconst 1, 1) := by decide +kernel
theorem dX0_liveDay_55 : decode cX0_liveDay 55 = .ok (.iadd, 1) := by decide +kernel
theorem dX0_liveDay_56 : decode cX0_liveDay 56 = .ok (.putfield 9, 3) := by decide +kernel
theorem dX0_liveDay_59 : decode cX0_liveDay 59 = .ok (.return_, 1) := by decide +kernel
set_option maxRecDepth 20000 in
theorem ggX0_makeSheets_X0_sheetsOf : GoodIn wsX0_makeSheets wsX0_sheetsOf := goodIn_r _ [11, 1, 6, 3, 12, 13, 14, 15, 16, 17, 18, 19, 20, 21, 22, 23, 24, 25, 26, 27, 28, 29, 30, 31, 32, 33, 34, 35, 36, 37, 38, 39, 40, 41, 42, 43, 44, 45, 46, 47, 48, 49, 50, 51, 52, 53, 54, 55, 56, 57, 58, 59, 10, 60, 61, 2, 62, 63, 64, 65, 66, 116, 117, 118, 119, 120, 121, 122, 123, 124, 125, 126, 127, 128, 129, 130, 131, 132, 133, 134, 135, 136, 137, 138, 139, 140, 141, 142, 143] (by decide +kernel) (by decide +kernel)
set_option maxRecDepth 20000 in
theorem gX0_makeSheets_X0_sheetsOf : GoodIn wsX0_makeSheets (wsV RX0 135 RX0 yX0_sheetsOf wsX0_sheetsOf) := goodIn_app (goodIn_of _ (by decide +kernel)) ggX0_makeSheets_X0_sheetsOf
set_option maxRecDepth 20000 in
theorem ggX0_makeSheets_X3_vatOf : GoodIn wsX0_makeSheets wsX3_vatOf := goodIn_r _ [20, 21, 22, 23, 24, 19, 25, 26, 128, 129, 130, 131] (by decide +kernel) (by decide +kernel)
set_option maxRecDepth 20000 in
theorem gX0_makeSheets_X3_vatOf : GoodIn wsX0_makeSheets (wsV RX0 129 RX3 yX3_vatOf wsX3_vatOf) := goodIn_app (goodIn_of _ (by decide +kernel)) ggX0_makeSheets_X3_vatOf
set_option maxRecDepth 20000 in
theorem ggX0_makeSheets_X3_pairOf : GoodIn wsX0_makeSheets wsX3_pairOf := goodIn_r _ [30, 31, 22, 23, 24, 19, 25, 26, 128, 129, 130, 131] (by decide +kernel) (by decide +kernel)
set_option maxRecDepth 20000 in
theorem gX0_makeSheets_X3_pairOf : GoodIn wsX0_makeSheets (wsV RX0 132 RX3 yX3_pairOf wsX3_pairOf) := goodIn_app (goodIn_of _ (by decide +kernel)) ggX0_makeSheets_X3_pairOf
set_option maxRecDepth 20000 in
theorem ggX0_makeSheets_X0_gradeOf : GoodIn wsX0_makeSheets wsX0_gradeOf := goodIn_r _ [70, 6, 3, 32, 33, 34, 35, 36, 37, 38, 39, 40, 71, 72, 73, 74, 75, 76, 77, 10, 78, 79, 80, 81, 44, 82, 83, 47, 48, 49, 50, 51, 116, 117, 118, 119, 120, 121, 122, 123, 124, 125, 126, 127, 132, 133, 134, 135, 136, 137, 138] (by decide +kernel) (by decide +kernel)
set_option maxRecDepth 20000 in
theorem gX0_makeSheets_X0_gradeOf : GoodIn wsX0_makeSheets (wsV RX0 167 RX0 yX0_gradeOf wsX0_gradeOf) := goodIn_app (goodIn_of _ (by decide +kernel)) ggX0_makeSheets_X0_gradeOf
set_option maxRecDepth 20000 in
theorem ggX0_makeSheets_X1_markOf : GoodIn wsX0_makeSheets wsX1_markOf := goodIn_r _ [87, 88, 47, 48, 49, 44, 50, 51, 135, 136, 137, 138] (by decide +kernel) (by decide +kernel)
set_option maxRecDepth 20000 in
theorem gX0_makeSheets_X1_markOf : GoodIn wsX0_makeSheets (wsV RX0 114 RX1 yX1_markOf wsX1_markOf) := goodIn_app (goodIn_of _ (by decide +kernel)) ggX0_makeSheets_X1_markOf
set_option maxRecDepth 20000 in
theorem ggX0_makeSheets_X2_add : GoodIn wsX0_makeSheets wsX2_add := goodIn_r _ [93, 94, 95, 96, 97, 98, 139, 140, 141, 142, 143] (by decide +kernel) (by decide +kernel)
set_option maxRecDepth 20000 in
theorem gX0_makeSheets_X2_add : GoodIn wsX0_makeSheets (wsV RX0 170 RX2 yX2_add wsX2_add) := goodIn_app (goodIn_of _ (by decide +kernel)) ggX0_makeSheets_X2_add
set_option maxRecDepth 20000 in
theorem ggX0_makeSheets_X5_worthOf : GoodIn wsX0_makeSheets wsX5_worthOf := goodIn_r _ [100, 101, 102, 38, 39, 40] (by decide +kernel) (by decide +kernel)
set_option maxRecDepth 20000 in
theorem gX0_makeSheets_X5_worthOf_n174 : GoodIn wsX0_makeSheets (wsX5_worthOf) := ggX0_makeSheets_X5_worthOf
set_option maxRecDepth 20000 in
theorem ggX0_makeSheets_X1_sizeOf : GoodIn wsX0_makeSheets wsX1_sizeOf := goodIn_r _ [45, 46, 47, 48, 49, 44, 50, 51, 135, 136, 137, 138] (by decide +kernel) (by decide +kernel)
set_option maxRecDepth 20000 in
theorem gX0_makeSheets_X1_sizeOf : GoodIn wsX0_makeSheets (wsV RX0 117 RX1 yX1_sizeOf wsX1_sizeOf) := goodIn_app (goodIn_of _ (by decide +kernel)) ggX0_makeSheets_X1_sizeOf
set_option maxRecDepth 20000 in
theorem ggX0_makeSheets_X4_takeOut : GoodIn wsX0_makeSheets wsX4_takeOut := goodIn_r _ [106, 66, 38, 39, 40, 107, 108, 109, 35, 110, 37, 75, 132, 133, 134] (by decide +kernel) (by decide +kernel)
set_option maxRecDepth 20000 in
theorem gX0_makeSheets_X4_takeOut : GoodIn wsX0_makeSheets (wsV RX0 177 RX4 yX4_takeOut wsX4_takeOut) := goodIn_app (goodIn_of _ (by decide +kernel)) ggX0_makeSheets_X4_takeOut
set_option maxRecDepth 20000 in
theorem ggX0_makeSheets_X1_wearBySheets : GoodIn wsX0_makeSheets wsX1_wearBySheets := goodIn_r _ [114, 83, 115, 13, 14, 15, 47, 48, 49, 44, 50, 51, 135, 136, 137, 138] (by decide +kernel) (by decide +kernel)
set_option maxRecDepth 20000 in
theorem gX0_makeSheets_X1_wearBySheets : GoodIn wsX0_makeSheets (wsV RX0 181 RX1 yX1_wearBySheets wsX1_wearBySheets) := goodIn_app (goodIn_of _ (by decide +kernel)) ggX0_makeSheets_X1_wearBySheets
theorem dX0_makeSheets_0 : decode cX0_makeSheets 0 = .ok (.aload_n 0, 1) := by decide +kernel
theorem dX0_makeSheets_1 : decode cX0_makeSheets 1 = .ok (.iload_n 1, 1) := by decide +kernel
theorem dX0_makeSheets_2 : decode cX0_makeSheets 2 = .ok (.invokevirtual 135, 3) := by decide +kernel
theorem dX0_makeSheets_5 : decode cX0_makeSheets 5 = .ok (.istore_n 2, 1) := by decide +kernel
theorem dX0_makeSheets_6 : decode cX0_makeSheets 6 = .ok (.iload_n 2, 1) := by decide +kernel
theorem dX0_makeSheets_7 : decode cX0_makeSheets 7 = .ok (.iconst 1, 1) := by decide +kernel
theorem dX0_makeSheets_8 : decode cX0_makeSheets 8 = .ok (.if_icmp .ge 4, 3) := by decide +kernel
theorem dX0_makeSheets_11 : decode cX0_makeSheets 11 = .ok (.return_, 1) := by decide +kernel
theorem dX0_makeSheets_12 : decode cX0_makeSheets 12 = .ok (.aload_n 0, 1) := by decide +kernel
theorem dX0_makeSheets_13 : decode cX0_makeSheets 13 = .ok (.getfield 51, 3) := by decide +kernel
theorem dX0_makeSheets_16 : decode cX0_makeSheets 16 = .ok (.iload_n 1, 1) := by decide +kernel
theorem dX0_makeSheets_17 : decode cX0_makeSheets 17 = .ok (.invokevirtual 129, 3) := by decide +kernel
theorem dX0_makeSheets_20 : decode cX0_makeSheets 20 = .ok (.istore_n 3, 1) := by decide +kernel
theorem dX0_makeSheets_21 : decode cX0_makeSheets 21 = .ok (.aload_n 0, 1) := by decide +kernel
theorem dX0_makeSheets_22 : decode cX0_makeSheets 22 = .ok (.getfield 51, 3) := by decide +kernel
theorem dX0_makeSheets_25 : decode cX0_makeSheets 25 = .ok (.iload_n 1, 1) := by decide +kernel
theorem dX0_makeSheets_26 : decode cX0_makeSheets 26 = .ok (.invokevirtual 132, 3) := by decide +kernel
theorem dX0_makeSheets_29 : decode cX0_makeSheets 29 = .ok (.istore 4, 2) := by decide +kernel
theorem dX0_makeSheets_31 : decode cX0_makeSheets 31 = .ok (.aload_n 0, 1) := by decide +kernel
theorem dX0_makeSheets_32 : decode cX0_makeSheets 32 = .ok (.iload_n 3, 1) := by decide +kernel
theorem dX0_makeSheets_33 : decode cX0_makeSheets 33 = .ok (.iload 4, 2) := by decide +kernel
theorem dX0_makeSheets_35 : decode cX0_makeSheets 35 = .ok (.invokevirtual 167, 3) := by decide +kernel
theorem dX0_makeSheets_38 : decode cX0_makeSheets 38 = .ok (.istore 5, 2) := by decide +kernel
theorem dX0_makeSheets_40 : decode cX0_makeSheets 40 = .ok (.aload_n 0, 1) := by decide +kernel
theorem dX0_makeSheets_41 : decode cX0_makeSheets 41 = .ok (.getfield 58, 3) := by decide +kernel
theorem dX0_makeSheets_44 : decode cX0_makeSheets 44 = .ok (.aload_n 0, 1) := by decide +kernel
theorem dX0_makeSheets_45 : decode cX0_makeSheets 45 = .ok (.getfield 44, 3) := by decide +kernel
theorem dX0_makeSheets_48 : decode cX0_makeSheets 48 = .ok (.iload 4, 2) := by decide +kernel
theorem dX0_makeSheets_50 : decode cX0_makeSheets 50 = .ok (.invokevirtual 114, 3) := by decide +kernel
theorem dX0_makeSheets_53 : decode cX0_makeSheets 53 = .ok (.iload 5, 2) := by decide +kernel
theorem dX0_makeSheets_55 : decode cX0_makeSheets 55 = .ok (.iload_n 2, 1) := by decide +kernel
theorem dX0_makeSheets_56 : decode cX0_makeSheets 56 = .ok (.invokevirtual 170, 3) := by decide +kernel
theorem dX0_makeSheets_59 : decode cX0_makeSheets 59 = .ok (.aload_n 0, 1) := by decide +kernel
theorem dX0_makeSheets_60 : decode cX0_makeSheets 60 = .ok (.dup, 1) := by decide +kernel
theorem dX0_makeSheets_61 : decode cX0_makeSheets 61 = .ok (.getfield 21, 3) := by decide +kernel
theorem dX0_makeSheets_64 : decode cX0_makeSheets 64 = .ok (.iload_n 2, 1) := by decide +kernel
theorem dX0_makeSheets_65 : decode cX0_makeSheets 65 = .ok (.iadd, 1) := by decide +kernel
theorem dX0_makeSheets_66 : decode cX0_makeSheets 66 = .ok (.putfield 21, 3) := by decide +kernel
theorem dX0_makeSheets_69 : decode cX0_makeSheets 69 = .ok (.aload_n 0, 1) := by decide +kernel
theorem dX0_makeSheets_70 : decode cX0_makeSheets 70 = .ok (.dup, 1) := by decide +kernel
theorem dX0_makeSheets_71 : decode cX0_makeSheets 71 = .ok (.getfield 24, 3) := by decide +kernel
theorem dX0_makeSheets_74 : decode cX0_makeSheets 74 = .ok (.iload_n 2, 1) := by decide +kernel
theorem dX0_makeSheets_75 : decode cX0_makeSheets 75 = .ok (.iload 5, 2) := by decide +kernel
theorem dX0_makeSheets_77 : decode cX0_makeSheets 77 = .ok (.invokestatic 174, 3) := by decide +kernel
theorem dX0_makeSheets_80 : decode cX0_makeSheets 80 = .ok (.imul, 1) := by decide +kernel
theorem dX0_makeSheets_81 : decode cX0_makeSheets 81 = .ok (.iadd, 1) := by decide +kernel
theorem dX0_makeSheets_82 : decode cX0_makeSheets 82 = .ok (.putfield 24, 3) := by decide +kernel
theorem dX0_makeSheets_85 : decode cX0_makeSheets 85 = .ok (.aload_n 0, 1) := by decide +kernel
theorem dX0_makeSheets_86 : decode cX0_makeSheets 86 = .ok (.getfield 37, 3) := by decide +kernel
theorem dX0_makeSheets_89 : decode cX0_makeSheets 89 = .ok (.iload_n 3, 1) := by decide +kernel
theorem dX0_makeSheets_90 : decode cX0_makeSheets 90 = .ok (.iload_n 2, 1) := by decide +kernel
theorem dX0_makeSheets_91 : decode cX0_makeSheets 91 = .ok (.aload_n 0, 1) := by decide +kernel
theorem dX0_makeSheets_92 : decode cX0_makeSheets 92 = .ok (.getfield 44, 3) := by decide +kernel
theorem dX0_makeSheets_95 : decode cX0_makeSheets 95 = .ok (.iload 4, 2) := by decide +kernel
theorem dX0_makeSheets_97 : decode cX0_makeSheets 97 = .ok (.invokevirtual 117, 3) := by decide +kernel
theorem dX0_makeSheets_100 : decode cX0_makeSheets 100 = .ok (.imul, 1) := by decide +kernel
theorem dX0_makeSheets_101 : decode cX0_makeSheets 101 = .ok (.invokevirtual 177, 3) := by decide +kernel
theorem dX0_makeSheets_104 : decode cX0_makeSheets 104 = .ok (.aload_n 0, 1) := by decide +kernel
theorem dX0_makeSheets_105 : decode cX0_makeSheets 105 = .ok (.getfield 44, 3) := by decide +kernel
theorem dX0_makeSheets_108 : decode cX0_makeSheets 108 = .ok (.iload 4, 2) := by decide +kernel
theorem dX0_makeSheets_110 : decode cX0_makeSheets 110 = .ok (.iload_n 2, 1) := by decide +kernel
theorem dX0_makeSheets_111 : decode cX0_makeSheets 111 = .ok (.invokevirtual 181, 3) := by decide +kernel
theorem dX0_makeSheets_114 : decode cX0_makeSheets 114 = .ok (.return_, 1) := by decide +kernel
set_option maxRecDepth 20000 in
theorem ggX0_gradeOf_X4_beatOf : GoodIn wsX0_gradeOf wsX4_beatOf := goodIn_r _ [7, 8, 9, 10, 11, 44, 45, 46] (by decide +kernel) (by decide +kernel)
set_option maxRecDepth 20000 in
theorem gX0_gradeOf_X4_beatOf : GoodIn wsX0_gradeOf (wsV RX0 138 RX4 yX4_beatOf wsX4_beatOf) := goodIn_app (goodIn_of _ (by decide +kernel)) ggX0_gradeOf_X4_beatOf
set_option maxRecDepth 20000 in
theorem ggX0_gradeOf_X4_sortOf : GoodIn wsX0_gradeOf wsX4_sortOf := goodIn_r _ [15, 16, 9, 10, 11, 44, 45, 46] (by decide +kernel) (by decide +kernel)
set_option maxRecDepth 20000 in
theorem gX0_gradeOf_X4_sortOf : GoodIn wsX0_gradeOf (wsV RX0 184 RX4 yX4_sortOf wsX4_sortOf) := goodIn_app (goodIn_of _ (by decide +kernel)) ggX0_gradeOf_X4_sortOf
set_option maxRecDepth 20000 in
theorem ggX0_gradeOf_X0_pointsOf : GoodIn wsX0_gradeOf wsX0_pointsOf := goodIn_r _ [20, 9, 10, 11] (by decide +kernel) (by decide +kernel)
set_option maxRecDepth 20000 in
theorem gX0_gradeOf_X0_pointsOf : GoodIn wsX0_gradeOf (va_wsS RX0 187 yX0_pointsOf wsX0_pointsOf) := goodIn_app (goodIn_of _ (by decide +kernel)) ggX0_gradeOf_X0_pointsOf
set_option maxRecDepth 20000 in
theorem ggX0_gradeOf_X1_wornOf : GoodIn wsX0_gradeOf wsX1_wornOf := goodIn_r _ [25, 26, 27, 28, 29, 24, 30, 31, 47, 48, 49, 50] (by decide +kernel) (by decide +kernel)
set_option maxRecDepth 20000 in
theorem gX0_gradeOf_X1_wornOf : GoodIn wsX0_gradeOf (wsV RX0 120 RX1 yX1_wornOf wsX1_wornOf) := goodIn_app (goodIn_of _ (by decide +kernel)) ggX0_gradeOf_X1_wornOf
theorem dX0_gradeOf_0 : decode cX0_gradeOf 0 = .ok (.aload_n 0, 1) := by decide +kernel
theorem dX0_gradeOf_1 : decode cX0_gradeOf 1 = .ok (.getfield 37, 3) := by decide +kernel
theorem dX0_gradeOf_4 : decode cX0_gradeOf 4 = .ok (.iload_n 1, 1) := by decide +kernel
theorem dX0_gradeOf_5 : decode cX0_gradeOf 5 = .ok (.invokevirtual 138, 3) := by decide +kernel
theorem dX0_gradeOf_8 : decode cX0_gradeOf 8 = .ok (.bipush 10, 2) := by decide +kernel
theorem dX0_gradeOf_10 : decode cX0_gradeOf 10 = .ok (.idiv, 1) := by decide +kernel
theorem dX0_gradeOf_11 : decode cX0_gradeOf 11 = .ok (.aload_n 0, 1) := by decide +kernel
theorem dX0_gradeOf_12 : decode cX0_gradeOf 12 = .ok (.getfield 37, 3) := by decide +kernel
theorem dX0_gradeOf_15 : decode cX0_gradeOf 15 = .ok (.iload_n 1, 1) := by decide +kernel
theorem dX0_gradeOf_16 : decode cX0_gradeOf 16 = .ok (.invokevirtual 184, 3) := by decide +kernel
theorem dX0_gradeOf_19 : decode cX0_gradeOf 19 = .ok (.invokestatic 187, 3) := by decide +kernel
theorem dX0_gradeOf_22 : decode cX0_gradeOf 22 = .ok (.iadd, 1) := by decide +kernel
theorem dX0_gradeOf_23 : decode cX0_gradeOf 23 = .ok (.aload_n 0, 1) := by decide +kernel
theorem dX0_gradeOf_24 : decode cX0_gradeOf 24 = .ok (.getfield 44, 3) := by decide +kernel
theorem dX0_gradeOf_27 : decode cX0_gradeOf 27 = .ok (.iload_n 2, 1) := by decide +kernel
theorem dX0_gradeOf_28 : decode cX0_gradeOf 28 = .ok (.invokevirtual 120, 3) := by decide +kernel
theorem dX0_gradeOf_31 : decode cX0_gradeOf 31 = .ok (.bipush 10, 2) := by decide +kernel
theorem dX0_gradeOf_33 : decode cX0_gradeOf 33 = .ok (.idiv, 1) := by decide +kernel
theorem dX0_gradeOf_34 : decode cX0_gradeOf 34 = .ok (.isub, 1) := by decide +kernel
theorem dX0_gradeOf_35 : decode cX0_gradeOf 35 = .ok (.istore_n 3, 1) := by decide +kernel
theorem dX0_gradeOf_36 : decode cX0_gradeOf 36 = .ok (.iload_n 3, 1) := by decide +kernel
theorem dX0_gradeOf_37 : decode cX0_gradeOf 37 = .ok (.bipush 12, 2) := by decide +kernel
theorem dX0_gradeOf_39 : decode cX0_gradeOf 39 = .ok (.if_icmp .lt 5, 3) := by decide +kernel
theorem dX0_gradeOf_42 : decode cX0_gradeOf 42 = .ok (.iconst 0, 1) := by decide +kernel
theorem dX0_gradeOf_43 : decode cX0_gradeOf 43 = .ok (.ireturn, 1) := by decide +kernel
theorem dX0_gradeOf_44 : decode cX0_gradeOf 44 = .ok (.iload_n 3, 1) := by decide +kernel
theorem dX0_gradeOf_45 : decode cX0_gradeOf 45 = .ok (.bipush 7, 2) := by decide +kernel
theorem dX0_gradeOf_47 : decode cX0_gradeOf 47 = .ok (.if_icmp .lt 7, 3) := by decide +kernel
theorem dX0_gradeOf_50 : decode cX0_gradeOf 50 = .ok (.iconst 1, 1) := by decide +kernel
theorem dX0_gradeOf_51 : decode cX0_gradeOf 51 = .ok (.goto 4, 3) := by decide +kernel
theorem dX0_gradeOf_54 : decode cX0_gradeOf 54 = .ok (.iconst 2, 1) := by decide +kernel
theorem dX0_gradeOf_55 : decode cX0_gradeOf 55 = .ok (.ireturn, 1) := by decide +kernel
set_option maxRecDepth 20000 in
theorem ggX0_pointsOf_X5_isBelow : GoodIn wsX0_pointsOf wsX5_isBelow := goodIn_r _ [3] (by decide +kernel) (by decide +kernel)
set_option maxRecDepth 20000 in
theorem gX0_pointsOf_X5_isBelow_n90 : GoodIn wsX0_pointsOf (wsX5_isBelow) := ggX0_pointsOf_X5_isBelow
theorem dX0_pointsOf_0 : decode cX0_pointsOf 0 = .ok (.iload_n 0, 1) := by decide +kernel
theorem dX0_pointsOf_1 : decode cX0_pointsOf 1 = .ok (.iconst 3, 1) := by decide +kernel
theorem dX0_pointsOf_2 : decode cX0_pointsOf 2 = .ok (.invokestatic 90, 3) := by decide +kernel
theorem dX0_pointsOf_5 : decode cX0_pointsOf 5 = .ok (.ifCond .eq 11, 3) := by decide +kernel
theorem dX0_pointsOf_8 : decode cX0_pointsOf 8 = .ok (.getstatic 190, 3) := by decide +kernel
theorem dX0_pointsOf_11 : decode cX0_pointsOf 11 = .ok (.iload_n 0, 1) := by decide +kernel
theorem dX0_pointsOf_12 : decode cX0_pointsOf 12 = .ok (.iaload, 1) := by decide +kernel
theorem dX0_pointsOf_13 : decode cX0_pointsOf 13 = .ok (.goto 4, 3) := by decide +kernel
theorem dX0_pointsOf_16 : decode cX0_pointsOf 16 = .ok (.iconst 0, 1) := by decide +kernel
theorem dX0_pointsOf_17 : decode cX0_pointsOf 17 = .ok (.ireturn, 1) := by decide +kernel
set_option maxRecDepth 20000 in
theorem ggX0_pressPosts_X2_sheetsOf : GoodIn wsX0_pressPosts wsX2_sheetsOf := goodIn_r _ [10, 11, 12, 13, 14, 9, 15, 16, 57, 58, 59, 60, 61] (by decide +kernel) (by decide +kernel)
set_option maxRecDepth 20000 in
theorem gX0_pressPosts_X2_sheetsOf : GoodIn wsX0_pressPosts (wsV RX0 193 RX2 yX2_sheetsOf wsX2_sheetsOf) := goodIn_app (goodIn_of _ (by decide +kernel)) ggX0_pressPosts_X2_sheetsOf
set_option maxRecDepth 20000 in
theorem ggX0_pressPosts_X2_markOf : GoodIn wsX0_pressPosts wsX2_markOf := goodIn_r _ [20, 21, 12, 13, 14, 9, 15, 16, 57, 58, 59, 60, 61] (by decide +kernel) (by decide +kernel)
set_option maxRecDepth 20000 in
theorem gX0_pressPosts_X2_markOf : GoodIn wsX0_pressPosts (wsV RX0 194 RX2 yX2_markOf wsX2_markOf) := goodIn_app (goodIn_of _ (by decide +kernel)) ggX0_pressPosts_X2_markOf
set_option maxRecDepth 20000 in
theorem ggX0_pressPosts_X2_gradeOf : GoodIn wsX0_pressPosts wsX2_gradeOf := goodIn_r _ [25, 26, 12, 13, 14, 9, 15, 16, 57, 58, 59, 60, 61] (by decide +kernel) (by decide +kernel)
set_option maxRecDepth 20000 in
theorem gX0_pressPosts_X2_gradeOf : GoodIn wsX0_pressPosts (wsV RX0 195 RX2 yX2_gradeOf wsX2_gradeOf) := goodIn_app (goodIn_of _ (by decide +kernel)) ggX0_pressPosts_X2_gradeOf
set_option maxRecDepth 20000 in
theorem ggX0_pressPosts_X0_hang : GoodIn wsX0_pressPosts wsX0_hang := goodIn_r _ [31, 32, 33, 34, 35, 45, 46, 47, 48, 49, 50, 51, 52, 53, 54, 55, 56] (by decide +kernel) (by decide +kernel)
set_option maxRecDepth 20000 in
theorem gX0_pressPosts_X0_hang : GoodIn wsX0_pressPosts (wsV RX0 197 RX0 yX0_hang wsX0_hang) := goodIn_app (goodIn_of _ (by decide +kernel)) ggX0_pressPosts_X0_hang
set_option maxRecDepth 20000 in
theorem ggX0_pressPosts_X2_takeOff : GoodIn wsX0_pressPosts wsX2_takeOff := goodIn_r _ [39, 11, 40, 12, 13, 14, 9, 15, 16, 57, 58, 59, 60, 61] (by decide +kernel) (by decide +kernel)
set_option maxRecDepth 20000 in
theorem gX0_pressPosts_X2_takeOff : GoodIn wsX0_pressPosts (wsV RX0 200 RX2 yX2_takeOff wsX2_takeOff) := goodIn_app (goodIn_of _ (by decide +kernel)) ggX0_pressPosts_X2_takeOff
set_option maxRecDepth 20000 in
theorem ggX0_pressPosts_X2_dropEmptyOnes : GoodIn wsX0_pressPosts wsX2_dropEmptyOnes := goodIn_r _ [44, 16, 11, 21, 26, 57, 58, 59, 60, 61] (by decide +kernel) (by decide +kernel)
set_option maxRecDepth 20000 in
theorem gX0_pressPosts_X2_dropEmptyOnes : GoodIn wsX0_pressPosts (wsV RX0 203 RX2 yX2_dropEmptyOnes wsX2_dropEmptyOnes) := goodIn_app (goodIn_of _ (by decide +kernel)) ggX0_pressPosts_X2_dropEmptyOnes
theorem dX0_pressPosts_0 : decode cX0_pressPosts 0 = .ok (.bipush 24, 2) := by decide +kernel
theorem dX0_pressPosts_2 : decode cX0_pressPosts 2 = .ok (.istore_n 1, 1) := by decide +kernel
theorem dX0_pressPosts_3 : decode cX0_pressPosts 3 = .ok (.iconst 0, 1) := by decide +kernel
theorem dX0_pressPosts_4 : decode cX0_pressPosts 4 = .ok (.istore_n 2, 1) := by decide +kernel
theorem dX0_pressPosts_5 : decode cX0_pressPosts 5 = .ok (.iload_n 2, 1) := by decide +kernel
theorem dX0_pressPosts_6 : decode cX0_pressPosts 6 = .ok (.aload_n 0, 1) := by decide +kernel
theorem dX0_pressPosts_7 : decode cX0_pressPosts 7 = .ok (.getfield 58, 3) := by decide +kernel
theorem dX0_pressPosts_10 : decode cX0_pressPosts 10 = .ok (.getfield 101, 3) := by decide +kernel
theorem dX0_pressPosts_13 : decode cX0_pressPosts 13 = .ok (.if_icmp .ge 60, 3) := by decide +kernel
theorem dX0_pressPosts_16 : decode cX0_pressPosts 16 = .ok (.iload_n 1, 1) := by decide +kernel
theorem dX0_pressPosts_17 : decode cX0_pressPosts 17 = .ok (.ifCond .le 56, 3) := by decide +kernel
theorem dX0_pressPosts_20 : decode cX0_pressPosts 20 = .ok (.iload_n 1, 1) := by decide +kernel
theorem dX0_pressPosts_21 : decode cX0_pressPosts 21 = .ok (.aload_n 0, 1) := by decide +kernel
theorem dX0_pressPosts_22 : decode cX0_pressPosts 22 = .ok (.getfield 58, 3) := by decide +kernel
theorem dX0_pressPosts_25 : decode cX0_pressPosts 25 = .ok (.iload_n 2, 1) := by decide +kernel
theorem dX0_pressPosts_26 : decode cX0_pressPosts 26 = .ok (.invokevirtual 193, 3) := by decide +kernel
theorem dX0_pressPosts_29 : decode cX0_pressPosts 29 = .ok (.invokestatic 141, 3) := by decide +kernel
theorem dX0_pressPosts_32 : decode cX0_pressPosts 32 = .ok (.istore_n 3, 1) := by decide +kernel
theorem dX0_pressPosts_33 : decode cX0_pressPosts 33 = .ok (.aload_n 0, 1) := by decide +kernel
theorem dX0_pressPosts_34 : decode cX0_pressPosts 34 = .ok (.aload_n 0, 1) := by decide +kernel
theorem dX0_pressPosts_35 : decode cX0_pressPosts 35 = .ok (.getfield 58, 3) := by decide +kernel
theorem dX0_pressPosts_38 : decode cX0_pressPosts 38 = .ok (.iload_n 2, 1) := by decide +kernel
theorem dX0_pressPosts_39 : decode cX0_pressPosts 39 = .ok (.invokevirtual 194, 3) := by decide +kernel
theorem dX0_pressPosts_42 : decode cX0_pressPosts 42 = .ok (.aload_n 0, 1) := by decide +kernel
theorem dX0_pressPosts_43 : decode cX0_pressPosts 43 = .ok (.getfield 58, 3) := by decide +kernel
theorem dX0_pressPosts_46 : decode cX0_pressPosts 46 = .ok (.iload_n 2, 1) := by decide +kernel
theorem dX0_pressPosts_47 : decode cX0_pressPosts 47 = .ok (.invokevirtual 195, 3) := by decide +kernel
theorem dX0_pressPosts_50 : decode cX0_pressPosts 50 = .ok (.iload_n 3, 1) := by decide +kernel
theorem dX0_pressPosts_51 : decode cX0_pressPosts 51 = .ok (.invokevirtual 197, 3) := by decide +kernel
theorem dX0_pressPosts_54 : decode cX0_pressPosts 54 = .ok (.aload_n 0, 1) := by decide +kernel
theorem dX0_pressPosts_55 : decode cX0_pressPosts 55 = .ok (.getfield 58, 3) := by decide +kernel
theorem dX0_pressPosts_58 : decode cX0_pressPosts 58 = .ok (.iload_n 2, 1) := by decide +kernel
theorem dX0_pressPosts_59 : decode cX0_pressPosts 59 = .ok (.iload_n 3, 1) := by decide +kernel
theorem dX0_pressPosts_60 : decode cX0_pressPosts 60 = .ok (.invokevirtual 200, 3) := by decide +kernel
theorem dX0_pressPosts_63 : decode cX0_pressPosts 63 = .ok (.iload_n 1, 1) := by decide +kernel
theorem dX0_pressPosts_64 : decode cX0_pressPosts 64 = .ok (.iload_n 3, 1) := by decide +kernel
theorem dX0_pressPosts_65 : decode cX0_pressPosts 65 = .ok (.isub, 1) := by decide +kernel
theorem dX0_pressPosts_66 : decode cX0_pressPosts 66 = .ok (.istore_n 1, 1) := by decide +kernel
theorem dX0_pressPosts_67 : decode cX0_pressPosts 67 = .ok (.iinc 2 1, 3) := by decide +kernel
theorem dX0_pressPosts_70 : decode cX0_pressPosts 70 = .ok (.goto (-65), 3) := by decide +kernel
theorem dX0_pressPosts_73 : decode cX0_pressPosts 73 = .ok (.aload_n 0, 1) := by decide +kernel
theorem dX0_pressPosts_74 : decode cX0_pressPosts 74 = .ok (.getfield 58, 3) := by decide +kernel
theorem dX0_pressPosts_77 : decode cX0_pressPosts 77 = .ok (.invokevirtual 203, 3) := by decide +kernel
theorem dX0_pressPosts_80 : decode cX0_pressPosts 80 = .ok (.return_, 1) := by decide +kernel
theorem dX0_allHanging_0 : decode cX0_allHanging 0 = .ok (.iconst 0, 1) := by decide +kernel
theorem dX0_allHanging_1 : decode cX0_allHanging 1 = .ok (.istore_n 1, 1) := by decide +kernel
theorem dX0_allHanging_2 : decode cX0_allHanging 2 = .ok (.iconst 0, 1) := by decide +kernel
theorem dX0_allHanging_3 : decode cX0_allHanging 3 = .ok (.istore_n 2, 1) := by decide +kernel
theorem dX0_allHanging_4 : decode cX0_allHanging 4 = .ok (.iload_n 2, 1) := by decide +kernel
theorem dX0_allHanging_5 : decode cX0_allHanging 5 = .ok (.aload_n 0, 1) := by decide +kernel
theorem dX0_allHanging_6 : decode cX0_allHanging 6 = .ok (.getfield 62, 3) := by decide +kernel
theorem dX0_allHanging_9 : decode cX0_allHanging 9 = .ok (.arraylength, 1) := by decide +kernel
theorem dX0_allHanging_10 : decode cX0_allHanging 10 = .ok (.if_icmp .ge 18, 3) := by decide +kernel
theorem dX0_allHanging_13 : decode cX0_allHanging 13 = .ok (.iload_n 1, 1) := by decide +kernel
theorem dX0_allHanging_14 : decode cX0_allHanging 14 = .ok (.aload_n 0, 1) := by decide +kernel
theorem dX0_allHanging_15 : decode cX0_allHanging 15 = .ok (.getfield 62, 3) := by decide +kernel
theorem dX0_allHanging_18 : decode cX0_allHanging 18 = .ok (.iload_n 2, 1) := by decide +kernel
theorem dX0_allHanging_19 : decode cX0_allHanging 19 = .ok (.iaload, 1) := by decide +kernel
theorem dX0_allHanging_20 : decode cX0_allHanging 20 = .ok (.iadd, 1) := by decide +kernel
theorem dX0_allHanging_21 : decode cX0_allHanging 21 = .ok (.istore_n 1, 1) := by decide +kernel
theorem dX0_allHanging_22 : decode cX0_allHanging 22 = .ok (.iinc 2 1, 3) := by decide +kernel
theorem dX0_allHanging_25 : decode cX0_allHanging 25 = .ok (.goto (-21), 3) := by decide +kernel
theorem dX0_allHanging_28 : decode cX0_allHanging 28 = .ok (.iload_n 1, 1) := by decide +kernel
theorem dX0_allHanging_29 : decode cX0_allHanging 29 = .ok (.ireturn, 1) := by decide +kernel
set_option maxRecDepth 20000 in
theorem ggX0_poundsOf_X5_isBelow : GoodIn wsX0_poundsOf wsX5_isBelow := goodIn_r _ [4] (by decide +kernel) (by decide +kernel)
set_option maxRecDepth 20000 in
theorem gX0_poundsOf_X5_isBelow_n90 : GoodIn wsX0_poundsOf (wsX5_isBelow) := ggX0_poundsOf_X5_isBelow
theorem dX0_poundsOf_0 : decode cX0_poundsOf 0 = .ok (.iload_n 1, 1) := by decide +kernel
theorem dX0_poundsOf_1 : decode cX0_poundsOf 1 = .ok (.iconst 3, 1) := by decide +kernel
theorem dX0_poundsOf_2 : decode cX0_poundsOf 2 = .ok (.invokestatic 90, 3) := by decide +kernel
theorem dX0_poundsOf_5 : decode cX0_poundsOf 5 = .ok (.ifCond .eq 12, 3) := by decide +kernel
theorem dX0_poundsOf_8 : decode cX0_poundsOf 8 = .ok (.aload_n 0, 1) := by decide +kernel
theorem dX0_poundsOf_9 : decode cX0_poundsOf 9 = .ok (.getfield 27, 3) := by decide +kernel
theorem dX0_poundsOf_12 : decode cX0_poundsOf 12 = .ok (.iload_n 1, 1) := by decide +kernel
theorem dX0_poundsOf_13 : decode cX0_poundsOf 13 = .ok (.iaload, 1) := by decide +kernel
theorem dX0_poundsOf_14 : decode cX0_poundsOf 14 = .ok (.goto 4, 3) := by decide +kernel
theorem dX0_poundsOf_17 : decode cX0_poundsOf 17 = .ok (.iconst 0, 1) := by decide +kernel
theorem dX0_poundsOf_18 : decode cX0_poundsOf 18 = .ok (.ireturn, 1) := by decide +kernel
end
section
theorem nmX1 : ∀ a, a < 4 → ∀ b, b < 4 → a ≠ b → (TX1 a).2.1 ≠ (TX1 b).2.1 := by decide +kernel
theorem tyX1_ok : ∀ k, k < 4 → parseFieldDescriptor (TX1 k).2.2.1 = some (tyX1 k) := by decide +kernel
theorem inlX1 : ∀ w ∈ wsX10, w ∈ wsL_law := fun _ h => List.mem_append_left _ (List.mem_append_left _ (List.mem_append_left _ (List.mem_append_left _ (List.mem_append_left _ (List.mem_append_left _ (List.mem_append_right _ h))))))
theorem dX1_init_0 : decode cX1_init 0 = .ok (.aload_n 0, 1) := by decide +kernel
theorem dX1_init_1 : decode cX1_init 1 = .ok (.invokespecial 3, 3) := by decide +kernel
theorem dX1_init_4 : decode cX1_init 4 = .ok (.aload_n 0, 1) := by decide +kernel
theorem dX1_init_5 : decode cX1_init 5 = .ok (.iconst 0, 1) := by decide +kernel
theorem dX1_init_6 : decode cX1_init 6 = .ok (.putfield 9, 3) := by decide +kernel
theorem dX1_init_9 : decode cX1_init 9 = .ok (.aload_n 0, 1) := by decide +kernel
theorem dX1_init_10 : decode cX1_init 10 = .ok (.iconst 5, 1) := by decide +kernel
theorem dX1_init_11 : decode cX1_init 11 = .ok (.newarray .int, 2) := by decide +kernel
theorem dX1_init_13 : decode cX1_init 13 = .ok (.putfield 15, 3) := by decide +kernel
theorem dX1_init_16 : decode cX1_init 16 = .ok (.aload_n 0, 1) := by decide +kernel
theorem dX1_init_17 : decode cX1_init 17 = .ok (.iconst 5, 1) := by decide +kernel
theorem dX1_init_18 : decode cX1_init 18 = .ok (.newarray .int, 2) := by decide +kernel
theorem dX1_init_20 : decode cX1_init 20 = .ok (.putfield 19, 3) := by decide +kernel
theorem dX1_init_23 : decode cX1_init 23 = .ok (.aload_n 0, 1) := by decide +kernel
theorem dX1_init_24 : decode cX1_init 24 = .ok (.iconst 5, 1) := by decide +kernel
theorem dX1_init_25 : decode cX1_init 25 = .ok (.newarray .int, 2) := by decide +kernel
theorem dX1_init_27 : decode cX1_init 27 = .ok (.putfield 22, 3) := by decide +kernel
theorem dX1_init_30 : decode cX1_init 30 = .ok (.return_, 1) := by decide +kernel
theorem dX1_becomeLike_0 : decode cX1_becomeLike 0 = .ok (.aload_n 0, 1) := by decide +kernel
theorem dX1_becomeLike_1 : decode cX1_becomeLike 1 = .ok (.aload_n 1, 1) := by decide +kernel
theorem dX1_becomeLike_2 : decode cX1_becomeLike 2 = .ok (.getfield 9, 3) := by decide +kernel
theorem dX1_becomeLike_5 : decode cX1_becomeLike 5 = .ok (.putfield 9, 3) := by decide +kernel
theorem dX1_becomeLike_8 : decode cX1_becomeLike 8 = .ok (.aload_n 1, 1) := by decide +kernel
theorem dX1_becomeLike_9 : decode cX1_becomeLike 9 = .ok (.getfield 15, 3) := by decide +kernel
theorem dX1_becomeLike_12 : decode cX1_becomeLike 12 = .ok (.iconst 0, 1) := by decide +kernel
theorem dX1_becomeLike_13 : decode cX1_becomeLike 13 = .ok (.aload_n 0, 1) := by decide +kernel
theorem dX1_becomeLike_14 : decode cX1_becomeLike 14 = .ok (.getfield 15, 3) := by decide +kernel
theorem dX1_becomeLike_17 : decode cX1_becomeLike 17 = .ok (.iconst 0, 1) := by decide +kernel
theorem dX1_becomeLike_18 : decode cX1_becomeLike 18 = .ok (.iconst 5, 1) := by decide +kernel
theorem dX1_becomeLike_19 : decode cX1_becomeLike 19 = .ok (.invokestatic 25, 3) := by decide +kernel
theorem dX1_becomeLike_22 : decode cX1_becomeLike 22 = .ok (.aload_n 1, 1) := by decide +kernel
theorem dX1_becomeLike_23 : decode cX1_becomeLike 23 = .ok (.getfield 19, 3) := by decide +kernel
theorem dX1_becomeLike_26 : decode cX1_becomeLike 26 = .ok (.iconst 0, 1) := by decide +kernel
theorem dX1_becomeLike_27 : decode cX1_becomeLike 27 = .ok (.aload_n 0, 1) := by decide +kernel
theorem dX1_becomeLike_28 : decode cX1_becomeLike 28 = .ok (.getfield 19, 3) := by decide +kernel
theorem dX1_becomeLike_31 : decode cX1_becomeLike 31 = .ok (.iconst 0, 1) := by decide +kernel
theorem dX1_becomeLike_32 : decode cX1_becomeLike 32 = .ok (.iconst 5, 1) := by decide +kernel
theorem dX1_becomeLike_33 : decode cX1_becomeLike 33 = .ok (.invokestatic 25, 3) := by decide +kernel
theorem dX1_becomeLike_36 : decode cX1_becomeLike 36 = .ok (.aload_n 1, 1) := by decide +kernel
theorem dX1_becomeLike_37 : decode cX1_becomeLike 37 = .ok (.getfield 22, 3) := by decide +kernel
theorem dX1_becomeLike_40 : decode cX1_becomeLike 40 = .ok (.iconst 0, 1) := by decide +kernel
theorem dX1_becomeLike_41 : decode cX1_becomeLike 41 = .ok (.aload_n 0, 1) := by decide +kernel
theorem dX1_becomeLike_42 : decode cX1_becomeLike 42 = .ok (.getfield 22, 3) := by decide +kernel
theorem dX1_becomeLike_45 : decode cX1_becomeLike 45 = .ok (.iconst 0, 1) := by decide +kernel
theorem dX1_becomeLike_46 : decode cX1_becomeLike 46 = .ok (.iconst 5, 1) := by decide +kernel
theorem dX1_becomeLike_47 : decode cX1_becomeLike 47 = .ok (.invokestatic 25, 3) := by decide +kernel
theorem dX1_becomeLike_50 : decode cX1_becomeLike 50 = .ok (.return_, 1) := by decide +kernel
theorem dX1_has_0 : decode cX1_has 0 = .ok (.iload_n 1, 1) := by decide +kernel
theorem dX1_has_1 : decode cX1_has 1 = .ok (.ifCond .lt 20, 3) := by decide +kernel
theorem dX1_has_4 : decode cX1_has 4 = .ok (.iload_n 1, 1) := by decide +kernel
theorem dX1_has_5 : decode cX1_has 5 = .ok (.aload_n 0, 1) := by decide +kernel
theorem dX1_has_6 : decode cX1_has 6 = .ok (.getfield 9, 3) := by decide +kernel
theorem dX1_has_9 : decode cX1_has 9 = .ok (.if_icmp .ge 12, 3) := by decide +kernel
theorem dX1_has_12 : decode cX1_has 12 = .ok (.iload_n 1, 1) := by decide +kernel
theorem dX1_has_13 : decode cX1_has 13 = .ok (.iconst 5, 1) := by decide +kernel
theorem dX1_has_14 : decode cX1_has 14 = .ok (.if_icmp .ge 7, 3) := by decide +kernel
theorem dX1_has_17 : decode cX1_has 17 = .ok (.iconst 1, 1) := by decide +kernel
theorem dX1_has_18 : decode cX1_has 18 = .ok (.goto 4, 3) := by decide +kernel
theorem dX1_has_21 : decode cX1_has 21 = .ok (.iconst 0, 1) := by decide +kernel
theorem dX1_has_22 : decode cX1_has 22 = .ok (.ireturn, 1) := by decide +kernel
theorem dX1_add_0 : decode cX1_add 0 = .ok (.aload_n 0, 1) := by decide +kernel
theorem dX1_add_1 : decode cX1_add 1 = .ok (.getfield 9, 3) := by decide +kernel
theorem dX1_add_4 : decode cX1_add 4 = .ok (.iconst 5, 1) := by decide +kernel
theorem dX1_add_5 : decode cX1_add 5 = .ok (.if_icmp .lt 5, 3) := by decide +kernel
theorem dX1_add_8 : decode cX1_add 8 = .ok (.iconst (-1), 1) := by decide +kernel
theorem dX1_add_9 : decode cX1_add 9 = .ok (.ireturn, 1) := by decide +kernel
theorem dX1_add_10 : decode cX1_add 10 = .ok (.aload_n 0, 1) := by decide +kernel
theorem dX1_add_11 : decode cX1_add 11 = .ok (.getfield 15, 3) := by decide +kernel
theorem dX1_add_14 : decode cX1_add 14 = .ok (.aload_n 0, 1) := by decide +kernel
theorem dX1_add_15 : decode cX1_add 15 = .ok (.getfield 9, 3) := by decide +kernel
theorem dX1_add_18 : decode cX1_add 18 = .ok (.iload_n 1, 1) := by decide +kernel
theorem dX1_add_19 : decode cX1_add 19 = .ok (.iastore, 1) := by decide +kernel
theorem dX1_add_20 : decode cX1_add 20 = .ok (.aload_n 0, 1) := by decide +kernel
theorem dX1_add_21 : decode cX1_add 21 = .ok (.getfield 19, 3) := by decide +kernel
theorem dX1_add_24 : decode cX1_add 24 = .ok (.aload_n 0, 1) := by decide +kernel
theorem dX1_add_25 : decode cX1_add 25 = .ok (.getfield 9, 3) := by decide +kernel
theorem dX1_add_28 : decode cX1_add 28 = .ok (.iload_n 2, 1) := by decide +kernel
theorem dX1_add_29 : decode cX1_add 29 = .ok (.iastore, 1) := by decide +kernel
theorem dX1_add_30 : decode cX1_add 30 = .ok (.aload_n 0, 1) := by decide +kernel
theorem dX1_add_31 : decode cX1_add 31 = .ok (.getfield 22, 3) := by decide +kernel
theorem dX1_add_34 : decode cX1_add 34 = .ok (.aload_n 0, 1) := by decide +kernel
theorem dX1_add_35 : decode cX1_add 35 = .ok (.getfield 9, 3) := by decide +kernel
theorem dX1_add_38 : decode cX1_add 38 = .ok (.iconst 0, 1) := by decide +kernel
theorem dX1_add_39 : decode cX1_add 39 = .ok (.iastore, 1) := by decide +kernel
theorem dX1_add_40 : decode cX1_add 40 = .ok (.aload_n 0, 1) := by decide +kernel
theorem dX1_add_41 : decode cX1_add 41 = .ok (.dup, 1) := by decide +kernel
theorem dX1_add_42 : decode cX1_add 42 = .ok (.getfield 9, 3) := by decide +kernel
theorem dX1_add_45 : decode cX1_add 45 = .ok (.iconst 1, 1) := by decide +kernel
theorem dX1_add_46 : decode cX1_add 46 = .ok (.iadd, 1) := by decide +kernel
theorem dX1_add_47 : decode cX1_add 47 = .ok (.putfield 9, 3) := by decide +kernel
theorem dX1_add_50 : decode cX1_add 50 = .ok (.aload_n 0, 1) := by decide +kernel
theorem dX1_add_51 : decode cX1_add 51 = .ok (.getfield 9, 3) := by decide +kernel
theorem dX1_add_54 : decode cX1_add 54 = .ok (.iconst 1, 1) := by decide +kernel
theorem dX1_add_55 : decode cX1_add 55 = .ok (.isub, 1) := by decide +kernel
theorem dX1_add_56 : decode cX1_add 56 = .ok (.ireturn, 1) := by decide +kernel
set_option maxRecDepth 20000 in
theorem ggX1_markOf_X1_has : GoodIn wsX1_markOf wsX1_has := goodIn_r _ [6, 7, 8, 9, 10, 11] (by decide +kernel) (by decide +kernel)
set_option maxRecDepth 20000 in
theorem gX1_markOf_X1_has : GoodIn wsX1_markOf (wsV RX1 31 RX1 yX1_has wsX1_has) := goodIn_app (goodIn_of _ (by decide +kernel)) ggX1_markOf_X1_has
theorem dX1_markOf_0 : decode cX1_markOf 0 = .ok (.aload_n 0, 1) := by decide +kernel
theorem dX1_markOf_1 : decode cX1_markOf 1 = .ok (.iload_n 1, 1) := by decide +kernel
theorem dX1_markOf_2 : decode cX1_markOf 2 = .ok (.invokevirtual 31, 3) := by decide +kernel
theorem dX1_markOf_5 : decode cX1_markOf 5 = .ok (.ifCond .eq 12, 3) := by decide +kernel
theorem dX1_markOf_8 : decode cX1_markOf 8 = .ok (.aload_n 0, 1) := by decide +kernel
theorem dX1_markOf_9 : decode cX1_markOf 9 = .ok (.getfield 15, 3) := by decide +kernel
theorem dX1_markOf_12 : decode cX1_markOf 12 = .ok (.iload_n 1, 1) := by decide +kernel
theorem dX1_markOf_13 : decode cX1_markOf 13 = .ok (.iaload, 1) := by decide +kernel
theorem dX1_markOf_14 : decode cX1_markOf 14 = .ok (.goto 4, 3) := by decide +kernel
theorem dX1_markOf_17 : decode cX1_markOf 17 = .ok (.iconst 0, 1) := by decide +kernel
theorem dX1_markOf_18 : decode cX1_markOf 18 = .ok (.ireturn, 1) := by decide +kernel
set_option maxRecDepth 20000 in
theorem ggX1_sizeOf_X1_has : GoodIn wsX1_sizeOf wsX1_has := goodIn_r _ [6, 7, 8, 9, 10, 11] (by decide +kernel) (by decide +kernel)
set_option maxRecDepth 20000 in
theorem gX1_sizeOf_X1_has : GoodIn wsX1_sizeOf (wsV RX1 31 RX1 yX1_has wsX1_has) := goodIn_app (goodIn_of _ (by decide +kernel)) ggX1_sizeOf_X1_has
theorem dX1_sizeOf_0 : decode cX1_sizeOf 0 = .ok (.aload_n 0, 1) := by decide +kernel
theorem dX1_sizeOf_1 : decode cX1_sizeOf 1 = .ok (.iload_n 1, 1) := by decide +kernel
theorem dX1_sizeOf_2 : decode cX1_sizeOf 2 = .ok (.invokevirtual 31, 3) := by decide +kernel
theorem dX1_sizeOf_5 : decode cX1_sizeOf 5 = .ok (.ifCond .eq 12, 3) := by decide +kernel
theorem dX1_sizeOf_8 : decode cX1_sizeOf 8 = .ok (.aload_n 0, 1) := by decide +kernel
theorem dX1_sizeOf_9 : decode cX1_sizeOf 9 = .ok (.getfield 19, 3) := by decide +kernel
theorem dX1_sizeOf_12 : decode cX1_sizeOf 12 = .ok (.iload_n 1, 1) := by decide +kernel
theorem dX1_sizeOf_13 : decode cX1_sizeOf 13 = .ok (.iaload, 1) := by decide +kernel
theorem dX1_sizeOf_14 : decode cX1_sizeOf 14 = .ok (.goto 4, 3) := by decide +kernel
theorem dX1_sizeOf_17 : decode cX1_sizeOf 17 = .ok (.iconst 1, 1) := by decide +kernel
theorem dX1_sizeOf_18 : decode cX1_sizeOf 18 = .ok (.ireturn, 1) := by decide +kernel
set_option maxRecDepth 20000 in
theorem ggX1_wornOf_X1_has : GoodIn wsX1_wornOf wsX1_has := goodIn_r _ [6, 7, 8, 9, 10, 11] (by decide +kernel) (by decide +kernel)
set_option maxRecDepth 20000 in
theorem gX1_wornOf_X1_has : GoodIn wsX1_wornOf (wsV RX1 31 RX1 yX1_has wsX1_has) := goodIn_app (goodIn_of _ (by decide +kernel)) ggX1_wornOf_X1_has
theorem dX1_wornOf_0 : decode cX1_wornOf 0 = .ok (.aload_n 0, 1) := by decide +kernel
theorem dX1_wornOf_1 : decode cX1_wornOf 1 = .ok (.iload_n 1, 1) := by decide +kernel
theorem dX1_wornOf_2 : decode cX1_wornOf 2 = .ok (.invokevirtual 31, 3) := by decide +kernel
theorem dX1_wornOf_5 : decode cX1_wornOf 5 = .ok (.ifCond .eq 12, 3) := by decide +kernel
theorem dX1_wornOf_8 : decode cX1_wornOf 8 = .ok (.aload_n 0, 1) := by decide +kernel
theorem dX1_wornOf_9 : decode cX1_wornOf 9 = .ok (.getfield 22, 3) := by decide +kernel
theorem dX1_wornOf_12 : decode cX1_wornOf 12 = .ok (.iload_n 1, 1) := by decide +kernel
theorem dX1_wornOf_13 : decode cX1_wornOf 13 = .ok (.iaload, 1) := by decide +kernel
theorem dX1_wornOf_14 : decode cX1_wornOf 14 = .ok (.goto 4, 3) := by decide +kernel
theorem dX1_wornOf_17 : decode cX1_wornOf 17 = .ok (.iconst 0, 1) := by decide +kernel
theorem dX1_wornOf_18 : decode cX1_wornOf 18 = .ok (.ireturn, 1) := by decide +kernel
set_option maxRecDepth 20000 in
theorem ggX1_makeNew_X1_has : GoodIn wsX1_makeNew wsX1_has := goodIn_r _ [6, 7, 8, 9, 10, 11] (by decide +kernel) (by decide +kernel)
set_option maxRecDepth 20000 in
theorem gX1_makeNew_X1_has : GoodIn wsX1_makeNew (wsV RX1 31 RX1 yX1_has wsX1_has) := goodIn_app (goodIn_of _ (by decide +kernel)) ggX1_makeNew_X1_has
theorem dX1_makeNew_0 : decode cX1_makeNew 0 = .ok (.aload_n 0, 1) := by decide +kernel
theorem dX1_makeNew_1 : decode cX1_makeNew 1 = .ok (.iload_n 1, 1) := by decide +kernel
theorem dX1_makeNew_2 : decode cX1_makeNew 2 = .ok (.invokevirtual 31, 3) := by decide +kernel
theorem dX1_makeNew_5 : decode cX1_makeNew 5 = .ok (.ifCond .eq 10, 3) := by decide +kernel
theorem dX1_makeNew_8 : decode cX1_makeNew 8 = .ok (.aload_n 0, 1) := by decide +kernel
theorem dX1_makeNew_9 : decode cX1_makeNew 9 = .ok (.getfield 22, 3) := by decide +kernel
theorem dX1_makeNew_12 : decode cX1_makeNew 12 = .ok (.iload_n 1, 1) := by decide +kernel
theorem dX1_makeNew_13 : decode cX1_makeNew 13 = .ok (.iconst 0, 1) := by decide +kernel
theorem dX1_makeNew_14 : decode cX1_makeNew 14 = .ok (.iastore, 1) := by decide +kernel
theorem dX1_makeNew_15 : decode cX1_makeNew 15 = .ok (.return_, 1) := by decide +kernel
set_option maxRecDepth 20000 in
theorem ggX1_wearBySheets_X1_has : GoodIn wsX1_wearBySheets wsX1_has := goodIn_r _ [10, 11, 12, 13, 14, 15] (by decide +kernel) (by decide +kernel)
set_option maxRecDepth 20000 in
theorem gX1_wearBySheets_X1_has : GoodIn wsX1_wearBySheets (wsV RX1 31 RX1 yX1_has wsX1_has) := goodIn_app (goodIn_of _ (by decide +kernel)) ggX1_wearBySheets_X1_has
theorem dX1_wearBySheets_0 : decode cX1_wearBySheets 0 = .ok (.aload_n 0, 1) := by decide +kernel
theorem dX1_wearBySheets_1 : decode cX1_wearBySheets 1 = .ok (.iload_n 1, 1) := by decide +kernel
theorem dX1_wearBySheets_2 : decode cX1_wearBySheets 2 = .ok (.invokevirtual 31, 3) := by decide +kernel
theorem dX1_wearBySheets_5 : decode cX1_wearBySheets 5 = .ok (.ifCond .eq 26, 3) := by decide +kernel
theorem dX1_wearBySheets_8 : decode cX1_wearBySheets 8 = .ok (.aload_n 0, 1) := by decide +kernel
theorem dX1_wearBySheets_9 : decode cX1_wearBySheets 9 = .ok (.getfield 22, 3) := by decide +kernel
theorem dX1_wearBySheets_12 : decode cX1_wearBySheets 12 = .ok (.iload_n 1, 1) := by decide +kernel
theorem dX1_wearBySheets_13 : decode cX1_wearBySheets 13 = .ok (.bipush 50, 2) := by decide +kernel
theorem dX1_wearBySheets_15 : decode cX1_wearBySheets 15 = .ok (.aload_n 0, 1) := by decide +kernel
theorem dX1_wearBySheets_16 : decode cX1_wearBySheets 16 = .ok (.getfield 22, 3) := by decide +kernel
theorem dX1_wearBySheets_19 : decode cX1_wearBySheets 19 = .ok (.iload_n 1, 1) := by decide +kernel
theorem dX1_wearBySheets_20 : decode cX1_wearBySheets 20 = .ok (.iaload, 1) := by decide +kernel
theorem dX1_wearBySheets_21 : decode cX1_wearBySheets 21 = .ok (.iload_n 2, 1) := by decide +kernel
theorem dX1_wearBySheets_22 : decode cX1_wearBySheets 22 = .ok (.iconst 1, 1) := by decide +kernel
theorem dX1_wearBySheets_23 : decode cX1_wearBySheets 23 = .ok (.iadd, 1) := by decide +kernel
theorem dX1_wearBySheets_24 : decode cX1_wearBySheets 24 = .ok (.iconst 2, 1) := by decide +kernel
theorem dX1_wearBySheets_25 : decode cX1_wearBySheets 25 = .ok (.idiv, 1) := by decide +kernel
theorem dX1_wearBySheets_26 : decode cX1_wearBySheets 26 = .ok (.iadd, 1) := by decide +kernel
theorem dX1_wearBySheets_27 : decode cX1_wearBySheets 27 = .ok (.invokestatic 35, 3) := by decide +kernel
theorem dX1_wearBySheets_30 : decode cX1_wearBySheets 30 = .ok (.iastore, 1) := by decide +kernel
theorem dX1_wearBySheets_31 : decode cX1_wearBySheets 31 = .ok (.return_, 1) := by decide +kernel
theorem nmX2 : ∀ a, a < 5 → ∀ b, b < 5 → a ≠ b → (TX2 a).2.1 ≠ (TX2 b).2.1 := by decide +kernel
theorem tyX2_ok : ∀ k, k < 5 → parseFieldDescriptor (TX2 k).2.2.1 = some (tyX2 k) := by decide +kernel
theorem inlX2 : ∀ w ∈ wsX20, w ∈ wsL_law := fun _ h => List.mem_append_left _ (List.mem_append_left _ (List.mem_append_left _ (List.mem_append_left _ (List.mem_append_right _ h))))
theorem dX2_init_0 : decode cX2_init 0 = .ok (.aload_n 0, 1) := by decide +kernel
theorem dX2_init_1 : decode cX2_init 1 = .ok (.invokespecial 3, 3) := by decide +kernel
theorem dX2_init_4 : decode cX2_init 4 = .ok (.aload_n 0, 1) := by decide +kernel
theorem dX2_init_5 : decode cX2_init 5 = .ok (.iconst 0, 1) := by decide +kernel
theorem dX2_init_6 : decode cX2_init 6 = .ok (.putfield 9, 3) := by decide +kernel
theorem dX2_init_9 : decode cX2_init 9 = .ok (.aload_n 0, 1) := by decide +kernel
theorem dX2_init_10 : decode cX2_init 10 = .ok (.iconst 0, 1) := by decide +kernel
theorem dX2_init_11 : decode cX2_init 11 = .ok (.putfield 15, 3) := by decide +kernel
theorem dX2_init_14 : decode cX2_init 14 = .ok (.aload_n 0, 1) := by decide +kernel
theorem dX2_init_15 : decode cX2_init 15 = .ok (.bipush 90, 2) := by decide +kernel
theorem dX2_init_17 : decode cX2_init 17 = .ok (.newarray .int, 2) := by decide +kernel
theorem dX2_init_19 : decode cX2_init 19 = .ok (.putfield 18, 3) := by decide +kernel
theorem dX2_init_22 : decode cX2_init 22 = .ok (.aload_n 0, 1) := by decide +kernel
theorem dX2_init_23 : decode cX2_init 23 = .ok (.bipush 90, 2) := by decide +kernel
theorem dX2_init_25 : decode cX2_init 25 = .ok (.newarray .int, 2) := by decide +kernel
theorem dX2_init_27 : decode cX2_init 27 = .ok (.putfield 22, 3) := by decide +kernel
theorem dX2_init_30 : decode cX2_init 30 = .ok (.aload_n 0, 1) := by decide +kernel
theorem dX2_init_31 : decode cX2_init 31 = .ok (.bipush 90, 2) := by decide +kernel
theorem dX2_init_33 : decode cX2_init 33 = .ok (.newarray .int, 2) := by decide +kernel
theorem dX2_init_35 : decode cX2_init 35 = .ok (.putfield 25, 3) := by decide +kernel
theorem dX2_init_38 : decode cX2_init 38 = .ok (.return_, 1) := by decide +kernel
theorem dX2_becomeLike_0 : decode cX2_becomeLike 0 = .ok (.aload_n 0, 1) := by decide +kernel
theorem dX2_becomeLike_1 : decode cX2_becomeLike 1 = .ok (.aload_n 1, 1) := by decide +kernel
theorem dX2_becomeLike_2 : decode cX2_becomeLike 2 = .ok (.getfield 9, 3) := by decide +kernel
theorem dX2_becomeLike_5 : decode cX2_becomeLike 5 = .ok (.putfield 9, 3) := by decide +kernel
theorem dX2_becomeLike_8 : decode cX2_becomeLike 8 = .ok (.aload_n 0, 1) := by decide +kernel
theorem dX2_becomeLike_9 : decode cX2_becomeLike 9 = .ok (.aload_n 1, 1) := by decide +kernel
theorem dX2_becomeLike_10 : decode cX2_becomeLike 10 = .ok (.getfield 15, 3) := by decide +kernel
theorem dX2_becomeLike_13 : decode cX2_becomeLike 13 = .ok (.putfield 15, 3) := by decide +kernel
theorem dX2_becomeLike_16 : decode cX2_becomeLike 16 = .ok (.aload_n 1, 1) := by decide +kernel
theorem dX2_becomeLike_17 : decode cX2_becomeLike 17 = .ok (.getfield 18, 3) := by decide +kernel
theorem dX2_becomeLike_20 : decode cX2_becomeLike 20 = .ok (.iconst 0, 1) := by decide +kernel
theorem dX2_becomeLike_21 : decode cX2_becomeLike 21 = .ok (.aload_n 0, 1) := by decide +kernel
theorem dX2_becomeLike_22 : decode cX2_becomeLike 22 = .ok (.getfield 18, 3) := by decide +kernel
theorem dX2_becomeLike_25 : decode cX2_becomeLike 25 = .ok (.iconst 0, 1) := by decide +kernel
theorem dX2_becomeLike_26 : decode cX2_becomeLike 26 = .ok (.bipush 90, 2) := by decide +kernel
theorem dX2_becomeLike_28 : decode cX2_becomeLike 28 = .ok (.invokestatic 28, 3) := by decide +kernel
theorem dX2_becomeLike_31 : decode cX2_becomeLike 31 = .ok (.aload_n 1, 1) := by decide +kernel
theorem dX2_becomeLike_32 : decode cX2_becomeLike 32 = .ok (.getfield 22, 3) := by decide +kernel
theorem dX2_becomeLike_35 : decode cX2_becomeLike 35 = .ok (.iconst 0, 1) := by decide +kernel
theorem dX2_becomeLike_36 : decode cX2_becomeLike 36 = .ok (.aload_n 0, 1) := by decide +kernel
theorem dX2_becomeLike_37 : decode cX2_becomeLike 37 = .ok (.getfield 22, 3) := by decide +kernel
theorem dX2_becomeLike_40 : decode cX2_becomeLike 40 = .ok (.iconst 0, 1) := by decide +kernel
theorem dX2_becomeLike_41 : decode cX2_becomeLike 41 = .ok (.bipush 90, 2) := by decide +kernel
theorem dX2_becomeLike_43 : decode cX2_becomeLike 43 = .ok (.invokestatic 28, 3) := by decide +kernel
theorem dX2_becomeLike_46 : decode cX2_becomeLike 46 = .ok (.aload_n 1, 1) := by decide +kernel
theorem dX2_becomeLike_47 : decode cX2_becomeLike 47 = .ok (.getfield 25, 3) := by decide +kernel
theorem dX2_becomeLike_50 : decode cX2_becomeLike 50 = .ok (.iconst 0, 1) := by decide +kernel
theorem dX2_becomeLike_51 : decode cX2_becomeLike 51 = .ok (.aload_n 0, 1) := by decide +kernel
theorem dX2_becomeLike_52 : decode cX2_becomeLike 52 = .ok (.getfield 25, 3) := by decide +kernel
theorem dX2_becomeLike_55 : decode cX2_becomeLike 55 = .ok (.iconst 0, 1) := by decide +kernel
theorem dX2_becomeLike_56 : decode cX2_becomeLike 56 = .ok (.bipush 90, 2) := by decide +kernel
theorem dX2_becomeLike_58 : decode cX2_becomeLike 58 = .ok (.invokestatic 28, 3) := by decide +kernel
theorem dX2_becomeLike_61 : decode cX2_becomeLike 61 = .ok (.return_, 1) := by decide +kernel
theorem dX2_has_0 : decode cX2_has 0 = .ok (.iload_n 1, 1) := by decide +kernel
theorem dX2_has_1 : decode cX2_has 1 = .ok (.ifCond .lt 21, 3) := by decide +kernel
theorem dX2_has_4 : decode cX2_has 4 = .ok (.iload_n 1, 1) := by decide +kernel
theorem dX2_has_5 : decode cX2_has 5 = .ok (.aload_n 0, 1) := by decide +kernel
theorem dX2_has_6 : decode cX2_has 6 = .ok (.getfield 9, 3) := by decide +kernel
theorem dX2_has_9 : decode cX2_has 9 = .ok (.if_icmp .ge 13, 3) := by decide +kernel
theorem dX2_has_12 : decode cX2_has 12 = .ok (.iload_n 1, 1) := by decide +kernel
theorem dX2_has_13 : decode cX2_has 13 = .ok (.bipush 90, 2) := by decide +kernel
theorem dX2_has_15 : decode cX2_has 15 = .ok (.if_icmp .ge 7, 3) := by decide +kernel
theorem dX2_has_18 : decode cX2_has 18 = .ok (.iconst 1, 1) := by decide +kernel
theorem dX2_has_19 : decode cX2_has 19 = .ok (.goto 4, 3) := by decide +kernel
theorem dX2_has_22 : decode cX2_has 22 = .ok (.iconst 0, 1) := by decide +kernel
theorem dX2_has_23 : decode cX2_has 23 = .ok (.ireturn, 1) := by decide +kernel
theorem dX2_add_0 : decode cX2_add 0 = .ok (.aload_n 0, 1) := by decide +kernel
theorem dX2_add_1 : decode cX2_add 1 = .ok (.getfield 9, 3) := by decide +kernel
theorem dX2_add_4 : decode cX2_add 4 = .ok (.bipush 90, 2) := by decide +kernel
theorem dX2_add_6 : decode cX2_add 6 = .ok (.if_icmp .ge 53, 3) := by decide +kernel
theorem dX2_add_9 : decode cX2_add 9 = .ok (.aload_n 0, 1) := by decide +kernel
theorem dX2_add_10 : decode cX2_add 10 = .ok (.getfield 18, 3) := by decide +kernel
theorem dX2_add_13 : decode cX2_add 13 = .ok (.aload_n 0, 1) := by decide +kernel
theorem dX2_add_14 : decode cX2_add 14 = .ok (.getfield 9, 3) := by decide +kernel
theorem dX2_add_17 : decode cX2_add 17 = .ok (.iload_n 1, 1) := by decide +kernel
theorem dX2_add_18 : decode cX2_add 18 = .ok (.iastore, 1) := by decide +kernel
theorem dX2_add_19 : decode cX2_add 19 = .ok (.aload_n 0, 1) := by decide +kernel
theorem dX2_add_20 : decode cX2_add 20 = .ok (.getfield 22, 3) := by decide +kernel
theorem dX2_add_23 : decode cX2_add 23 = .ok (.aload_n 0, 1) := by decide +kernel
theorem dX2_add_24 : decode cX2_add 24 = .ok (.getfield 9, 3) := by decide +kernel
theorem dX2_add_27 : decode cX2_add 27 = .ok (.iload_n 2, 1) := by decide +kernel
theorem dX2_add_28 : decode cX2_add 28 = .ok (.iastore, 1) := by decide +kernel
theorem dX2_add_29 : decode cX2_add 29 = .ok (.aload_n 0, 1) := by decide +kernel
theorem dX2_add_30 : decode cX2_add 30 = .ok (.getfield 25, 3) := by decide +kernel
theorem dX2_add_33 : decode cX2_add 33 = .ok (.aload_n 0, 1) := by decide +kernel
theorem dX2_add_34 : decode cX2_add 34 = .ok (.getfield 9, 3) := by decide +kernel
theorem dX2_add_37 : decode cX2_add 37 = .ok (.iload_n 3, 1) := by decide +kernel
theorem dX2_add_38 : decode cX2_add 38 = .ok (.iastore, 1) := by decide +kernel
theorem dX2_add_39 : decode cX2_add 39 = .ok (.aload_n 0, 1) := by decide +kernel
theorem dX2_add_40 : decode cX2_add 40 = .ok (.dup, 1) := by decide +kernel
theorem dX2_add_41 : decode cX2_add 41 = .ok (.getfield 9, 3) := by decide +kernel
theorem dX2_add_44 : decode cX2_add 44 = .ok (.iconst 1, 1) := by decide +kernel
theorem dX2_add_45 : decode cX2_add 45 = .ok (.iadd, 1) := by decide +kernel
theorem dX2_add_46 : decode cX2_add 46 = .ok (.putfield 9, 3) := by decide +kernel
theorem dX2_add_49 : decode cX2_add 49 = .ok (.aload_n 0, 1) := by decide +kernel
theorem dX2_add_50 : decode cX2_add 50 = .ok (.dup, 1) := by decide +kernel
theorem dX2_add_51 : decode cX2_add 51 = .ok (.getfield 15, 3) := by decide +kernel
theorem dX2_add_54 : decode cX2_add 54 = .ok (.iload_n 3, 1) := by decide +kernel
theorem dX2_add_55 : decode cX2_add 55 = .ok (.iadd, 1) := by decide +kernel
theorem dX2_add_56 : decode cX2_add 56 = .ok (.putfield 15, 3) := by decide +kernel
theorem dX2_add_59 : decode cX2_add 59 = .ok (.return_, 1) := by decide +kernel
set_option maxRecDepth 20000 in
theorem ggX2_tell_X2_markOf : GoodIn wsX2_tell wsX2_markOf := goodIn_r _ [5, 6, 7, 8, 9, 4, 10, 11, 22, 23, 24, 25, 26] (by decide +kernel) (by decide +kernel)
set_option maxRecDepth 20000 in
theorem gX2_tell_X2_markOf : GoodIn wsX2_tell (wsV RX2 34 RX2 yX2_markOf wsX2_markOf) := goodIn_app (goodIn_of _ (by decide +kernel)) ggX2_tell_X2_markOf
set_option maxRecDepth 20000 in
theorem ggX2_tell_X2_gradeOf : GoodIn wsX2_tell wsX2_gradeOf := goodIn_r _ [15, 16, 7, 8, 9, 4, 10, 11, 22, 23, 24, 25, 26] (by decide +kernel) (by decide +kernel)
set_option maxRecDepth 20000 in
theorem gX2_tell_X2_gradeOf : GoodIn wsX2_tell (wsV RX2 38 RX2 yX2_gradeOf wsX2_gradeOf) := goodIn_app (goodIn_of _ (by decide +kernel)) ggX2_tell_X2_gradeOf
set_option maxRecDepth 20000 in
theorem ggX2_tell_X2_sheetsOf : GoodIn wsX2_tell wsX2_sheetsOf := goodIn_r _ [20, 21, 7, 8, 9, 4, 10, 11, 22, 23, 24, 25, 26] (by decide +kernel) (by decide +kernel)
set_option maxRecDepth 20000 in
theorem gX2_tell_X2_sheetsOf : GoodIn wsX2_tell (wsV RX2 41 RX2 yX2_sheetsOf wsX2_sheetsOf) := goodIn_app (goodIn_of _ (by decide +kernel)) ggX2_tell_X2_sheetsOf
theorem dX2_tell_0 : decode cX2_tell 0 = .ok (.iload_n 2, 1) := by decide +kernel
theorem dX2_tell_1 : decode cX2_tell 1 = .ok (.lookupswitch 39 #[(0, 27), (1, 33)], 27) := by decide +kernel
theorem dX2_tell_28 : decode cX2_tell 28 = .ok (.aload_n 0, 1) := by decide +kernel
theorem dX2_tell_29 : decode cX2_tell 29 = .ok (.iload_n 1, 1) := by decide +kernel
theorem dX2_tell_30 : decode cX2_tell 30 = .ok (.invokevirtual 34, 3) := by decide +kernel
theorem dX2_tell_33 : decode cX2_tell 33 = .ok (.ireturn, 1) := by decide +kernel
theorem dX2_tell_34 : decode cX2_tell 34 = .ok (.aload_n 0, 1) := by decide +kernel
theorem dX2_tell_35 : decode cX2_tell 35 = .ok (.iload_n 1, 1) := by decide +kernel
theorem dX2_tell_36 : decode cX2_tell 36 = .ok (.invokevirtual 38, 3) := by decide +kernel
theorem dX2_tell_39 : decode cX2_tell 39 = .ok (.ireturn, 1) := by decide +kernel
theorem dX2_tell_40 : decode cX2_tell 40 = .ok (.aload_n 0, 1) := by decide +kernel
theorem dX2_tell_41 : decode cX2_tell 41 = .ok (.iload_n 1, 1) := by decide +kernel
theorem dX2_tell_42 : decode cX2_tell 42 = .ok (.invokevirtual 41, 3) := by decide +kernel
theorem dX2_tell_45 : decode cX2_tell 45 = .ok (.ireturn, 1) := by decide +kernel
set_option maxRecDepth 20000 in
theorem ggX2_markOf_X2_has : GoodIn wsX2_markOf wsX2_has := goodIn_r _ [6, 7, 8, 9, 10, 11, 12] (by decide +kernel) (by decide +kernel)
set_option maxRecDepth 20000 in
theorem gX2_markOf_X2_has : GoodIn wsX2_markOf (wsV RX2 44 RX2 yX2_has wsX2_has) := goodIn_app (goodIn_of _ (by decide +kernel)) ggX2_markOf_X2_has
theorem dX2_markOf_0 : decode cX2_markOf 0 = .ok (.aload_n 0, 1) := by decide +kernel
theorem dX2_markOf_1 : decode cX2_markOf 1 = .ok (.iload_n 1, 1) := by decide +kernel
theorem dX2_markOf_2 : decode cX2_markOf 2 = .ok (.invokevirtual 44, 3) := by decide +kernel
theorem dX2_markOf_5 : decode cX2_markOf 5 = .ok (.ifCond .eq 12, 3) := by decide +kernel
theorem dX2_markOf_8 : decode cX2_markOf 8 = .ok (.aload_n 0, 1) := by decide +kernel
theorem dX2_markOf_9 : decode cX2_markOf 9 = .ok (.getfield 18, 3) := by decide +kernel
theorem dX2_markOf_12 : decode cX2_markOf 12 = .ok (.iload_n 1, 1) := by decide +kernel
theorem dX2_markOf_13 : decode cX2_markOf 13 = .ok (.iaload, 1) := by decide +kernel
theorem dX2_markOf_14 : decode cX2_markOf 14 = .ok (.goto 4, 3) := by decide +kernel
theorem dX2_markOf_17 : decode cX2_markOf 17 = .ok (.iconst 0, 1) := by decide +kernel
theorem dX2_markOf_18 : decode cX2_markOf 18 = .ok (.ireturn, 1) := by decide +kernel
set_option maxRecDepth 20000 in
theorem ggX2_gradeOf_X2_has : GoodIn wsX2_gradeOf wsX2_has := goodIn_r _ [6, 7, 8, 9, 10, 11, 12] (by decide +kernel) (by decide +kernel)
set_option maxRecDepth 20000 in
theorem gX2_gradeOf_X2_has : GoodIn wsX2_gradeOf (wsV RX2 44 RX2 yX2_has wsX2_has) := goodIn_app (goodIn_of _ (by decide +kernel)) ggX2_gradeOf_X2_has
theorem dX2_gradeOf_0 : decode cX2_gradeOf 0 = .ok (.aload_n 0, 1) := by decide +kernel
theorem dX2_gradeOf_1 : decode cX2_gradeOf 1 = .ok (.iload_n 1, 1) := by decide +kernel
theorem dX2_gradeOf_2 : decode cX2_gradeOf 2 = .ok (.invokevirtual 44, 3) := by decide +kernel
theorem dX2_gradeOf_5 : decode cX2_gradeOf 5 = .ok (.ifCond .eq 12, 3) := by decide +kernel
theorem dX2_gradeOf_8 : decode cX2_gradeOf 8 = .ok (.aload_n 0, 1) := by decide +kernel
theorem dX2_gradeOf_9 : decode cX2_gradeOf 9 = .ok (.getfield 22, 3) := by decide +kernel
theorem dX2_gradeOf_12 : decode cX2_gradeOf 12 = .ok (.iload_n 1, 1) := by decide +kernel
theorem dX2_gradeOf_13 : decode cX2_gradeOf 13 = .ok (.iaload, 1) := by decide +kernel
theorem dX2_gradeOf_14 : decode cX2_gradeOf 14 = .ok (.goto 4, 3) := by decide +kernel
theorem dX2_gradeOf_17 : decode cX2_gradeOf 17 = .ok (.iconst 0, 1) := by decide +kernel
theorem dX2_gradeOf_18 : decode cX2_gradeOf 18 = .ok (.ireturn, 1) := by decide +kernel
set_option maxRecDepth 20000 in
theorem ggX2_sheetsOf_X2_has : GoodIn wsX2_sheetsOf wsX2_has := goodIn_r _ [6, 7, 8, 9, 10, 11, 12] (by decide +kernel) (by decide +kernel)
set_option maxRecDepth 20000 in
theorem gX2_sheetsOf_X2_has : GoodIn wsX2_sheetsOf (wsV RX2 44 RX2 yX2_has wsX2_has) := goodIn_app (goodIn_of _ (by decide +kernel)) ggX2_sheetsOf_X2_has
theorem dX2_sheetsOf_0 : decode cX2_sheetsOf 0 = .ok (.aload_n 0, 1) := by decide +kernel
theorem dX2_sheetsOf_1 : decode cX2_sheetsOf 1 = .ok (.iload_n 1, 1) := by decide +kernel
theorem dX2_sheetsOf_2 : decode cX2_sheetsOf 2 = .ok (.invokevirtual 44, 3) := by decide +kernel
theorem dX2_sheetsOf_5 : decode cX2_sheetsOf 5 = .ok (.ifCond .eq 12, 3) := by decide +kernel
theorem dX2_sheetsOf_8 : decode cX2_sheetsOf 8 = .ok (.aload_n 0, 1) := by decide +kernel
theorem dX2_sheetsOf_9 : decode cX2_sheetsOf 9 = .ok (.getfield 25, 3) := by decide +kernel
theorem dX2_sheetsOf_12 : decode cX2_sheetsOf 12 = .ok (.iload_n 1, 1) := by decide +kernel
theorem dX2_sheetsOf_13 : decode cX2_sheetsOf 13 = .ok (.iaload, 1) := by decide +kernel
theorem dX2_sheetsOf_14 : decode cX2_sheetsOf 14 = .ok (.goto 4, 3) := by decide +kernel
theorem dX2_sheetsOf_17 : decode cX2_sheetsOf 17 = .ok (.iconst 0, 1) := by decide +kernel
theorem dX2_sheetsOf_18 : decode cX2_sheetsOf 18 = .ok (.ireturn, 1) := by decide +kernel
set_option maxRecDepth 20000 in
theorem ggX2_takeOff_X2_has : GoodIn wsX2_takeOff wsX2_has := goodIn_r _ [7, 8, 9, 10, 11, 12, 13] (by decide +kernel) (by decide +kernel)
set_option maxRecDepth 20000 in
theorem gX2_takeOff_X2_has : GoodIn wsX2_takeOff (wsV RX2 44 RX2 yX2_has wsX2_has) := goodIn_app (goodIn_of _ (by decide +kernel)) ggX2_takeOff_X2_has
theorem dX2_takeOff_0 : decode cX2_takeOff 0 = .ok (.aload_n 0, 1) := by decide +kernel
theorem dX2_takeOff_1 : decode cX2_takeOff 1 = .ok (.iload_n 1, 1) := by decide +kernel
theorem dX2_takeOff_2 : decode cX2_takeOff 2 = .ok (.invokevirtual 44, 3) := by decide +kernel
theorem dX2_takeOff_5 : decode cX2_takeOff 5 = .ok (.ifCond .eq 23, 3) := by decide +kernel
theorem dX2_takeOff_8 : decode cX2_takeOff 8 = .ok (.aload_n 0, 1) := by decide +kernel
theorem dX2_takeOff_9 : decode cX2_takeOff 9 = .ok (.getfield 25, 3) := by decide +kernel
theorem dX2_takeOff_12 : decode cX2_takeOff 12 = .ok (.iload_n 1, 1) := by decide +kernel
theorem dX2_takeOff_13 : decode cX2_takeOff 13 = .ok (.dup2, 1) := by decide +kernel
theorem dX2_takeOff_14 : decode cX2_takeOff 14 = .ok (.iaload, 1) := by decide +kernel
theorem dX2_takeOff_15 : decode cX2_takeOff 15 = .ok (.iload_n 2, 1) := by decide +kernel
theorem dX2_takeOff_16 : decode cX2_takeOff 16 = .ok (.isub, 1) := by decide +kernel
theorem dX2_takeOff_17 : decode cX2_takeOff 17 = .ok (.iastore, 1) := by decide +kernel
theorem dX2_takeOff_18 : decode cX2_takeOff 18 = .ok (.aload_n 0, 1) := by decide +kernel
theorem dX2_takeOff_19 : decode cX2_takeOff 19 = .ok (.dup, 1) := by decide +kernel
theorem dX2_takeOff_20 : decode cX2_takeOff 20 = .ok (.getfield 15, 3) := by decide +kernel
theorem dX2_takeOff_23 : decode cX2_takeOff 23 = .ok (.iload_n 2, 1) := by decide +kernel
theorem dX2_takeOff_24 : decode cX2_takeOff 24 = .ok (.isub, 1) := by decide +kernel
theorem dX2_takeOff_25 : decode cX2_takeOff 25 = .ok (.putfield 15, 3) := by decide +kernel
theorem dX2_takeOff_28 : decode cX2_takeOff 28 = .ok (.return_, 1) := by decide +kernel
theorem dX2_dropEmptyOnes_0 : decode cX2_dropEmptyOnes 0 = .ok (.iconst 0, 1) := by decide +kernel
theorem dX2_dropEmptyOnes_1 : decode cX2_dropEmptyOnes 1 = .ok (.istore_n 1, 1) := by decide +kernel
theorem dX2_dropEmptyOnes_2 : decode cX2_dropEmptyOnes 2 = .ok (.iconst 0, 1) := by decide +kernel
theorem dX2_dropEmptyOnes_3 : decode cX2_dropEmptyOnes 3 = .ok (.istore_n 2, 1) := by decide +kernel
theorem dX2_dropEmptyOnes_4 : decode cX2_dropEmptyOnes 4 = .ok (.iload_n 2, 1) := by decide +kernel
theorem dX2_dropEmptyOnes_5 : decode cX2_dropEmptyOnes 5 = .ok (.aload_n 0, 1) := by decide +kernel
theorem dX2_dropEmptyOnes_6 : decode cX2_dropEmptyOnes 6 = .ok (.getfield 9, 3) := by decide +kernel
theorem dX2_dropEmptyOnes_9 : decode cX2_dropEmptyOnes 9 = .ok (.if_icmp .ge 63, 3) := by decide +kernel
theorem dX2_dropEmptyOnes_12 : decode cX2_dropEmptyOnes 12 = .ok (.iload_n 2, 1) := by decide +kernel
theorem dX2_dropEmptyOnes_13 : decode cX2_dropEmptyOnes 13 = .ok (.bipush 90, 2) := by decide +kernel
theorem dX2_dropEmptyOnes_15 : decode cX2_dropEmptyOnes 15 = .ok (.if_icmp .ge 57, 3) := by decide +kernel
theorem dX2_dropEmptyOnes_18 : decode cX2_dropEmptyOnes 18 = .ok (.aload_n 0, 1) := by decide +kernel
theorem dX2_dropEmptyOnes_19 : decode cX2_dropEmptyOnes 19 = .ok (.getfield 25, 3) := by decide +kernel
theorem dX2_dropEmptyOnes_22 : decode cX2_dropEmptyOnes 22 = .ok (.iload_n 2, 1) := by decide +kernel
theorem dX2_dropEmptyOnes_23 : decode cX2_dropEmptyOnes 23 = .ok (.iaload, 1) := by decide +kernel
theorem dX2_dropEmptyOnes_24 : decode cX2_dropEmptyOnes 24 = .ok (.ifCond .le 42, 3) := by decide +kernel
theorem dX2_dropEmptyOnes_27 : decode cX2_dropEmptyOnes 27 = .ok (.aload_n 0, 1) := by decide +kernel
theorem dX2_dropEmptyOnes_28 : decode cX2_dropEmptyOnes 28 = .ok (.getfield 18, 3) := by decide +kernel
theorem dX2_dropEmptyOnes_31 : decode cX2_dropEmptyOnes 31 = .ok (.iload_n 1, 1) := by decide +kernel
theorem dX2_dropEmptyOnes_32 : decode cX2_dropEmptyOnes 32 = .ok (.aload_n 0, 1) := by decide +kernel
theorem dX2_dropEmptyOnes_33 : decode cX2_dropEmptyOnes 33 = .ok (.getfield 18, 3) := by decide +kernel
theorem dX2_dropEmptyOnes_36 : decode cX2_dropEmptyOnes 36 = .ok (.iload_n 2, 1) := by decide +kernel
theorem dX2_dropEmptyOnes_37 : decode cX2_dropEmptyOnes 37 = .ok (.iaload, 1) := by decide +kernel
theorem dX2_dropEmptyOnes_38 : decode cX2_dropEmptyOnes 38 = .ok (.iastore, 1) := by decide +kernel
theorem dX2_dropEmptyOnes_39 : decode cX2_dropEmptyOnes 39 = .ok (.aload_n 0, 1) := by decide +kernel
theorem dX2_dropEmptyOnes_40 : decode cX2_dropEmptyOnes 40 = .ok (.getfield 22, 3) := by decide +kernel
theorem dX2_dropEmptyOnes_43 : decode cX2_dropEmptyOnes 43 = .ok (.iload_n 1, 1) := by decide +kernel
theorem dX2_dropEmptyOnes_44 : decode cX2_dropEmptyOnes 44 = .ok (.aload_n 0, 1) := by decide +kernel
theorem dX2_dropEmptyOnes_45 : decode cX2_dropEmptyOnes 45 = .ok (.getfield 22, 3) := by decide +kernel
theorem dX2_dropEmptyOnes_48 : decode cX2_dropEmptyOnes 48 = .ok (.iload_n 2, 1) := by decide +kernel
theorem dX2_dropEmptyOnes_49 : decode cX2_dropEmptyOnes 49 = .ok (.iaload, 1) := by decide +kernel
theorem dX2_dropEmptyOnes_50 : decode cX2_dropEmptyOnes 50 = .ok (.iastore, 1) := by decide +kernel
theorem dX2_dropEmptyOnes_51 : decode cX2_dropEmptyOnes 51 = .ok (.aload_n 0, 1) := by decide +kernel
theorem dX2_dropEmptyOnes_52 : decode cX2_dropEmptyOnes 52 = .ok (.getfield 25, 3) := by decide +kernel
theorem dX2_dropEmptyOnes_55 : decode cX2_dropEmptyOnes 55 = .ok (.iload_n 1, 1) := by decide +kernel
theorem dX2_dropEmptyOnes_56 : decode cX2_dropEmptyOnes 56 = .ok (.aload_n 0, 1) := by decide +kernel
theorem dX2_dropEmptyOnes_57 : decode cX2_dropEmptyOnes 57 = .ok (.getfield 25, 3) := by decide +kernel
theorem dX2_dropEmptyOnes_60 : decode cX2_dropEmptyOnes 60 = .ok (.iload_n 2, 1) := by decide +kernel
theorem dX2_dropEmptyOnes_61 : decode cX2_dropEmptyOnes 61 = .ok (.iaload, 1) := by decide +kernel
theorem dX2_dropEmptyOnes_62 : decode cX2_dropEmptyOnes 62 = .ok (.iastore, 1) := by decide +kernel
theorem dX2_dropEmptyOnes_63 : decode cX2_dropEmptyOnes 63 = .ok (.iinc 1 1, 3) := by decide +kernel
theorem dX2_dropEmptyOnes_66 : decode cX2_dropEmptyOnes 66 = .ok (.iinc 2 1, 3) := by decide +kernel
theorem dX2_dropEmptyOnes_69 : decode cX2_dropEmptyOnes 69 = .ok (.goto (-65), 3) := by decide +kernel
theorem dX2_dropEmptyOnes_72 : decode cX2_dropEmptyOnes 72 = .ok (.aload_n 0, 1) := by decide +kernel
theorem dX2_dropEmptyOnes_73 : decode cX2_dropEmptyOnes 73 = .ok (.iload_n 1, 1) := by decide +kernel
theorem dX2_dropEmptyOnes_74 : decode cX2_dropEmptyOnes 74 = .ok (.putfield 9, 3) := by decide +kernel
theorem dX2_dropEmptyOnes_77 : decode cX2_dropEmptyOnes 77 = .ok (.return_, 1) := by decide +kernel
theorem nmX3 : ∀ a, a < 4 → ∀ b, b < 4 → a ≠ b → (TX3 a).2.1 ≠ (TX3 b).2.1 := by decide +kernel
theorem tyX3_ok : ∀ k, k < 4 → parseFieldDescriptor (TX3 k).2.2.1 = some (tyX3 k) := by decide +kernel
theorem inlX3 : ∀ w ∈ wsX30, w ∈ wsL_law := fun _ h => List.mem_append_left _ (List.mem_append_left _ (List.mem_append_left _ (List.mem_append_left _ (List.mem_append_left _ (List.mem_append_right _ h)))))
theorem dX3_init_0 : decode cX3_init 0 = .ok (.aload_n 0, 1) := by decide +kernel
theorem dX3_init_1 : decode cX3_init 1 = .ok (.invokespecial 3, 3) := by decide +kernel
theorem dX3_init_4 : decode cX3_init 4 = .ok (.aload_n 0, 1) := by decide +kernel
theorem dX3_init_5 : decode cX3_init 5 = .ok (.iconst 0, 1) := by decide +kernel
theorem dX3_init_6 : decode cX3_init 6 = .ok (.putfield 9, 3) := by decide +kernel
theorem dX3_init_9 : decode cX3_init 9 = .ok (.aload_n 0, 1) := by decide +kernel
theorem dX3_init_10 : decode cX3_init 10 = .ok (.iconst 3, 1) := by decide +kernel
theorem dX3_init_11 : decode cX3_init 11 = .ok (.newarray .int, 2) := by decide +kernel
theorem dX3_init_13 : decode cX3_init 13 = .ok (.putfield 15, 3) := by decide +kernel
theorem dX3_init_16 : decode cX3_init 16 = .ok (.aload_n 0, 1) := by decide +kernel
theorem dX3_init_17 : decode cX3_init 17 = .ok (.iconst 3, 1) := by decide +kernel
theorem dX3_init_18 : decode cX3_init 18 = .ok (.newarray .int, 2) := by decide +kernel
theorem dX3_init_20 : decode cX3_init 20 = .ok (.putfield 19, 3) := by decide +kernel
theorem dX3_init_23 : decode cX3_init 23 = .ok (.aload_n 0, 1) := by decide +kernel
theorem dX3_init_24 : decode cX3_init 24 = .ok (.iconst 3, 1) := by decide +kernel
theorem dX3_init_25 : decode cX3_init 25 = .ok (.newarray .int, 2) := by decide +kernel
theorem dX3_init_27 : decode cX3_init 27 = .ok (.putfield 22, 3) := by decide +kernel
theorem dX3_init_30 : decode cX3_init 30 = .ok (.return_, 1) := by decide +kernel
theorem dX3_becomeLike_0 : decode cX3_becomeLike 0 = .ok (.aload_n 0, 1) := by decide +kernel
theorem dX3_becomeLike_1 : decode cX3_becomeLike 1 = .ok (.aload_n 1, 1) := by decide +kernel
theorem dX3_becomeLike_2 : decode cX3_becomeLike 2 = .ok (.getfield 9, 3) := by decide +kernel
theorem dX3_becomeLike_5 : decode cX3_becomeLike 5 = .ok (.putfield 9, 3) := by decide +kernel
theorem dX3_becomeLike_8 : decode cX3_becomeLike 8 = .ok (.aload_n 1, 1) := by decide +kernel
theorem dX3_becomeLike_9 : decode cX3_becomeLike 9 = .ok (.getfield 15, 3) := by decide +kernel
theorem dX3_becomeLike_12 : decode cX3_becomeLike 12 = .ok (.iconst 0, 1) := by decide +kernel
theorem dX3_becomeLike_13 : decode cX3_becomeLike 13 = .ok (.aload_n 0, 1) := by decide +kernel
theorem dX3_becomeLike_14 : decode cX3_becomeLike 14 = .ok (.getfield 15, 3) := by decide +kernel
theorem dX3_becomeLike_17 : decode cX3_becomeLike 17 = .ok (.iconst 0, 1) := by decide +kernel
theorem dX3_becomeLike_18 : decode cX3_becomeLike 18 = .ok (.iconst 3, 1) := by decide +kernel
theorem dX3_becomeLike_19 : decode cX3_becomeLike 19 = .ok (.invokestatic 25, 3) := by decide +kernel
theorem dX3_becomeLike_22 : decode cX3_becomeLike 22 = .ok (.aload_n 1, 1) := by decide +kernel
theorem dX3_becomeLike_23 : decode cX3_becomeLike 23 = .ok (.getfield 19, 3) := by decide +kernel
theorem dX3_becomeLike_26 : decode cX3_becomeLike 26 = .ok (.iconst 0, 1) := by decide +kernel
theorem dX3_becomeLike_27 : decode cX3_becomeLike 27 = .ok (.aload_n 0, 1) := by decide +kernel
theorem dX3_becomeLike_28 : decode cX3_becomeLike 28 = .ok (.getfield 19, 3) := by decide +kernel
theorem dX3_becomeLike_31 : decode cX3_becomeLike 31 = .ok (.iconst 0, 1) := by decide +kernel
theorem dX3_becomeLike_32 : decode cX3_becomeLike 32 = .ok (.iconst 3, 1) := by decide +kernel
theorem dX3_becomeLike_33 : decode cX3_becomeLike 33 = .ok (.invokestatic 25, 3) := by decide +kernel
theorem dX3_becomeLike_36 : decode cX3_becomeLike 36 = .ok (.aload_n 1, 1) := by decide +kernel
theorem dX3_becomeLike_37 : decode cX3_becomeLike 37 = .ok (.getfield 22, 3) := by decide +kernel
theorem dX3_becomeLike_40 : decode cX3_becomeLike 40 = .ok (.iconst 0, 1) := by decide +kernel
theorem dX3_becomeLike_41 : decode cX3_becomeLike 41 = .ok (.aload_n 0, 1) := by decide +kernel
theorem dX3_becomeLike_42 : decode cX3_becomeLike 42 = .ok (.getfield 22, 3) := by decide +kernel
theorem dX3_becomeLike_45 : decode cX3_becomeLike 45 = .ok (.iconst 0, 1) := by decide +kernel
theorem dX3_becomeLike_46 : decode cX3_becomeLike 46 = .ok (.iconst 3, 1) := by decide +kernel
theorem dX3_becomeLike_47 : decode cX3_becomeLike 47 = .ok (.invokestatic 25, 3) := by decide +kernel
theorem dX3_becomeLike_50 : decode cX3_becomeLike 50 = .ok (.return_, 1) := by decide +kernel
theorem dX3_has_0 : decode cX3_has 0 = .ok (.iload_n 1, 1) := by decide +kernel
theorem dX3_has_1 : decode cX3_has 1 = .ok (.ifCond .lt 20, 3) := by decide +kernel
theorem dX3_has_4 : decode cX3_has 4 = .ok (.iload_n 1, 1) := by decide +kernel
theorem dX3_has_5 : decode cX3_has 5 = .ok (.aload_n 0, 1) := by decide +kernel
theorem dX3_has_6 : decode cX3_has 6 = .ok (.getfield 9, 3) := by decide +kernel
theorem dX3_has_9 : decode cX3_has 9 = .ok (.if_icmp .ge 12, 3) := by decide +kernel
theorem dX3_has_12 : decode cX3_has 12 = .ok (.iload_n 1, 1) := by decide +kernel
theorem dX3_has_13 : decode cX3_has 13 = .ok (.iconst 3, 1) := by decide +kernel
theorem dX3_has_14 : decode cX3_has 14 = .ok (.if_icmp .ge 7, 3) := by decide +kernel
theorem dX3_has_17 : decode cX3_has 17 = .ok (.iconst 1, 1) := by decide +kernel
theorem dX3_has_18 : decode cX3_has 18 = .ok (.goto 4, 3) := by decide +kernel
theorem dX3_has_21 : decode cX3_has 21 = .ok (.iconst 0, 1) := by decide +kernel
theorem dX3_has_22 : decode cX3_has 22 = .ok (.ireturn, 1) := by decide +kernel
theorem dX3_add_0 : decode cX3_add 0 = .ok (.aload_n 0, 1) := by decide +kernel
theorem dX3_add_1 : decode cX3_add 1 = .ok (.getfield 9, 3) := by decide +kernel
theorem dX3_add_4 : decode cX3_add 4 = .ok (.iconst 3, 1) := by decide +kernel
theorem dX3_add_5 : decode cX3_add 5 = .ok (.if_icmp .lt 5, 3) := by decide +kernel
theorem dX3_add_8 : decode cX3_add 8 = .ok (.iconst (-1), 1) := by decide +kernel
theorem dX3_add_9 : decode cX3_add 9 = .ok (.ireturn, 1) := by decide +kernel
theorem dX3_add_10 : decode cX3_add 10 = .ok (.aload_n 0, 1) := by decide +kernel
theorem dX3_add_11 : decode cX3_add 11 = .ok (.getfield 15, 3) := by decide +kernel
theorem dX3_add_14 : decode cX3_add 14 = .ok (.aload_n 0, 1) := by decide +kernel
theorem dX3_add_15 : decode cX3_add 15 = .ok (.getfield 9, 3) := by decide +kernel
theorem dX3_add_18 : decode cX3_add 18 = .ok (.iload_n 1, 1) := by decide +kernel
theorem dX3_add_19 : decode cX3_add 19 = .ok (.iastore, 1) := by decide +kernel
theorem dX3_add_20 : decode cX3_add 20 = .ok (.aload_n 0, 1) := by decide +kernel
theorem dX3_add_21 : decode cX3_add 21 = .ok (.getfield 19, 3) := by decide +kernel
theorem dX3_add_24 : decode cX3_add 24 = .ok (.aload_n 0, 1) := by decide +kernel
theorem dX3_add_25 : decode cX3_add 25 = .ok (.getfield 9, 3) := by decide +kernel
theorem dX3_add_28 : decode cX3_add 28 = .ok (.iconst (-1), 1) := by decide +kernel
theorem dX3_add_29 : decode cX3_add 29 = .ok (.iastore, 1) := by decide +kernel
theorem dX3_add_30 : decode cX3_add 30 = .ok (.aload_n 0, 1) := by decide +kernel
theorem dX3_add_31 : decode cX3_add 31 = .ok (.getfield 22, 3) := by decide +kernel
theorem dX3_add_34 : decode cX3_add 34 = .ok (.aload_n 0, 1) := by decide +kernel
theorem dX3_add_35 : decode cX3_add 35 = .ok (.getfield 9, 3) := by decide +kernel
theorem dX3_add_38 : decode cX3_add 38 = .ok (.iconst (-1), 1) := by decide +kernel
theorem dX3_add_39 : decode cX3_add 39 = .ok (.iastore, 1) := by decide +kernel
theorem dX3_add_40 : decode cX3_add 40 = .ok (.aload_n 0, 1) := by decide +kernel
theorem dX3_add_41 : decode cX3_add 41 = .ok (.dup, 1) := by decide +kernel
theorem dX3_add_42 : decode cX3_add 42 = .ok (.getfield 9, 3) := by decide +kernel
theorem dX3_add_45 : decode cX3_add 45 = .ok (.iconst 1, 1) := by decide +kernel
theorem dX3_add_46 : decode cX3_add 46 = .ok (.iadd, 1) := by decide +kernel
theorem dX3_add_47 : decode cX3_add 47 = .ok (.putfield 9, 3) := by decide +kernel
theorem dX3_add_50 : decode cX3_add 50 = .ok (.aload_n 0, 1) := by decide +kernel
theorem dX3_add_51 : decode cX3_add 51 = .ok (.getfield 9, 3) := by decide +kernel
theorem dX3_add_54 : decode cX3_add 54 = .ok (.iconst 1, 1) := by decide +kernel
theorem dX3_add_55 : decode cX3_add 55 = .ok (.isub, 1) := by decide +kernel
theorem dX3_add_56 : decode cX3_add 56 = .ok (.ireturn, 1) := by decide +kernel
set_option maxRecDepth 20000 in
theorem ggX3_skillOf_X3_has : GoodIn wsX3_skillOf wsX3_has := goodIn_r _ [6, 7, 8, 9, 10, 11] (by decide +kernel) (by decide +kernel)
set_option maxRecDepth 20000 in
theorem gX3_skillOf_X3_has : GoodIn wsX3_skillOf (wsV RX3 31 RX3 yX3_has wsX3_has) := goodIn_app (goodIn_of _ (by decide +kernel)) ggX3_skillOf_X3_has
theorem dX3_skillOf_0 : decode cX3_skillOf 0 = .ok (.aload_n 0, 1) := by decide +kernel
theorem dX3_skillOf_1 : decode cX3_skillOf 1 = .ok (.iload_n 1, 1) := by decide +kernel
theorem dX3_skillOf_2 : decode cX3_skillOf 2 = .ok (.invokevirtual 31, 3) := by decide +kernel
theorem dX3_skillOf_5 : decode cX3_skillOf 5 = .ok (.ifCond .eq 12, 3) := by decide +kernel
theorem dX3_skillOf_8 : decode cX3_skillOf 8 = .ok (.aload_n 0, 1) := by decide +kernel
theorem dX3_skillOf_9 : decode cX3_skillOf 9 = .ok (.getfield 15, 3) := by decide +kernel
theorem dX3_skillOf_12 : decode cX3_skillOf 12 = .ok (.iload_n 1, 1) := by decide +kernel
theorem dX3_skillOf_13 : decode cX3_skillOf 13 = .ok (.iaload, 1) := by decide +kernel
theorem dX3_skillOf_14 : decode cX3_skillOf 14 = .ok (.goto 4, 3) := by decide +kernel
theorem dX3_skillOf_17 : decode cX3_skillOf 17 = .ok (.iconst 0, 1) := by decide +kernel
theorem dX3_skillOf_18 : decode cX3_skillOf 18 = .ok (.ireturn, 1) := by decide +kernel
set_option maxRecDepth 20000 in
theorem ggX3_vatOf_X3_has : GoodIn wsX3_vatOf wsX3_has := goodIn_r _ [6, 7, 8, 9, 10, 11] (by decide +kernel) (by decide +kernel)
set_option maxRecDepth 20000 in
theorem gX3_vatOf_X3_has : GoodIn wsX3_vatOf (wsV RX3 31 RX3 yX3_has wsX3_has) := goodIn_app (goodIn_of _ (by decide +kernel)) ggX3_vatOf_X3_has
theorem dX3_vatOf_0 : decode cX3_vatOf 0 = .ok (.aload_n 0, 1) := by decide +kernel
theorem dX3_vatOf_1 : decode cX3_vatOf 1 = .ok (.iload_n 1, 1) := by decide +kernel
theorem dX3_vatOf_2 : decode cX3_vatOf 2 = .ok (.invokevirtual 31, 3) := by decide +kernel
theorem dX3_vatOf_5 : decode cX3_vatOf 5 = .ok (.ifCond .eq 12, 3) := by decide +kernel
theorem dX3_vatOf_8 : decode cX3_vatOf 8 = .ok (.aload_n 0, 1) := by decide +kernel
theorem dX3_vatOf_9 : decode cX3_vatOf 9 = .ok (.getfield 19, 3) := by decide +kernel
theorem dX3_vatOf_12 : decode cX3_vatOf 12 = .ok (.iload_n 1, 1) := by decide +kernel
theorem dX3_vatOf_13 : decode cX3_vatOf 13 = .ok (.iaload, 1) := by decide +kernel
theorem dX3_vatOf_14 : decode cX3_vatOf 14 = .ok (.goto 4, 3) := by decide +kernel
theorem dX3_vatOf_17 : decode cX3_vatOf 17 = .ok (.iconst (-1), 1) := by decide +kernel
theorem dX3_vatOf_18 : decode cX3_vatOf 18 = .ok (.ireturn, 1) := by decide +kernel
set_option maxRecDepth 20000 in
theorem ggX3_pairOf_X3_has : GoodIn wsX3_pairOf wsX3_has := goodIn_r _ [6, 7, 8, 9, 10, 11] (by decide +kernel) (by decide +kernel)
set_option maxRecDepth 20000 in
theorem gX3_pairOf_X3_has : GoodIn wsX3_pairOf (wsV RX3 31 RX3 yX3_has wsX3_has) := goodIn_app (goodIn_of _ (by decide +kernel)) ggX3_pairOf_X3_has
theorem dX3_pairOf_0 : decode cX3_pairOf 0 = .ok (.aload_n 0, 1) := by decide +kernel
theorem dX3_pairOf_1 : decode cX3_pairOf 1 = .ok (.iload_n 1, 1) := by decide +kernel
theorem dX3_pairOf_2 : decode cX3_pairOf 2 = .ok (.invokevirtual 31, 3) := by decide +kernel
theorem dX3_pairOf_5 : decode cX3_pairOf 5 = .ok (.ifCond .eq 12, 3) := by decide +kernel
theorem dX3_pairOf_8 : decode cX3_pairOf 8 = .ok (.aload_n 0, 1) := by decide +kernel
theorem dX3_pairOf_9 : decode cX3_pairOf 9 = .ok (.getfield 22, 3) := by decide +kernel
theorem dX3_pairOf_12 : decode cX3_pairOf 12 = .ok (.iload_n 1, 1) := by decide +kernel
theorem dX3_pairOf_13 : decode cX3_pairOf 13 = .ok (.iaload, 1) := by decide +kernel
theorem dX3_pairOf_14 : decode cX3_pairOf 14 = .ok (.goto 4, 3) := by decide +kernel
theorem dX3_pairOf_17 : decode cX3_pairOf 17 = .ok (.iconst (-1), 1) := by decide +kernel
theorem dX3_pairOf_18 : decode cX3_pairOf 18 = .ok (.ireturn, 1) := by decide +kernel
set_option maxRecDepth 20000 in
theorem ggX3_send_X3_has : GoodIn wsX3_send wsX3_has := goodIn_r _ [7, 8, 9, 10, 11, 12] (by decide +kernel) (by decide +kernel)
set_option maxRecDepth 20000 in
theorem gX3_send_X3_has : GoodIn wsX3_send (wsV RX3 31 RX3 yX3_has wsX3_has) := goodIn_app (goodIn_of _ (by decide +kernel)) ggX3_send_X3_has
theorem dX3_send_0 : decode cX3_send 0 = .ok (.aload_n 0, 1) := by decide +kernel
theorem dX3_send_1 : decode cX3_send 1 = .ok (.iload_n 1, 1) := by decide +kernel
theorem dX3_send_2 : decode cX3_send 2 = .ok (.invokevirtual 31, 3) := by decide +kernel
theorem dX3_send_5 : decode cX3_send 5 = .ok (.ifCond .eq 17, 3) := by decide +kernel
theorem dX3_send_8 : decode cX3_send 8 = .ok (.aload_n 0, 1) := by decide +kernel
theorem dX3_send_9 : decode cX3_send 9 = .ok (.getfield 19, 3) := by decide +kernel
theorem dX3_send_12 : decode cX3_send 12 = .ok (.iload_n 1, 1) := by decide +kernel
theorem dX3_send_13 : decode cX3_send 13 = .ok (.iload_n 2, 1) := by decide +kernel
theorem dX3_send_14 : decode cX3_send 14 = .ok (.iastore, 1) := by decide +kernel
theorem dX3_send_15 : decode cX3_send 15 = .ok (.aload_n 0, 1) := by decide +kernel
theorem dX3_send_16 : decode cX3_send 16 = .ok (.getfield 22, 3) := by decide +kernel
theorem dX3_send_19 : decode cX3_send 19 = .ok (.iload_n 1, 1) := by decide +kernel
theorem dX3_send_20 : decode cX3_send 20 = .ok (.iload_n 3, 1) := by decide +kernel
theorem dX3_send_21 : decode cX3_send 21 = .ok (.iastore, 1) := by decide +kernel
theorem dX3_send_22 : decode cX3_send 22 = .ok (.return_, 1) := by decide +kernel
set_option maxRecDepth 20000 in
theorem ggX3_holderOf_X3_pairOf : GoodIn wsX3_holderOf wsX3_pairOf := goodIn_r _ [6, 7, 8, 9, 10, 5, 11, 1, 12, 13, 14, 15] (by decide +kernel) (by decide +kernel)
set_option maxRecDepth 20000 in
theorem gX3_holderOf_X3_pairOf : GoodIn wsX3_holderOf (wsV RX3 35 RX3 yX3_pairOf wsX3_pairOf) := goodIn_app (goodIn_of _ (by decide +kernel)) ggX3_holderOf_X3_pairOf
theorem dX3_holderOf_0 : decode cX3_holderOf 0 = .ok (.iload_n 1, 1) := by decide +kernel
theorem dX3_holderOf_1 : decode cX3_holderOf 1 = .ok (.iconst (-1), 1) := by decide +kernel
theorem dX3_holderOf_2 : decode cX3_holderOf 2 = .ok (.if_icmp .ne 5, 3) := by decide +kernel
theorem dX3_holderOf_5 : decode cX3_holderOf 5 = .ok (.iconst (-1), 1) := by decide +kernel
theorem dX3_holderOf_6 : decode cX3_holderOf 6 = .ok (.ireturn, 1) := by decide +kernel
theorem dX3_holderOf_7 : decode cX3_holderOf 7 = .ok (.iconst 0, 1) := by decide +kernel
theorem dX3_holderOf_8 : decode cX3_holderOf 8 = .ok (.istore_n 2, 1) := by decide +kernel
theorem dX3_holderOf_9 : decode cX3_holderOf 9 = .ok (.iload_n 2, 1) := by decide +kernel
theorem dX3_holderOf_10 : decode cX3_holderOf 10 = .ok (.aload_n 0, 1) := by decide +kernel
theorem dX3_holderOf_11 : decode cX3_holderOf 11 = .ok (.getfield 9, 3) := by decide +kernel
theorem dX3_holderOf_14 : decode cX3_holderOf 14 = .ok (.if_icmp .ge 20, 3) := by decide +kernel
theorem dX3_holderOf_17 : decode cX3_holderOf 17 = .ok (.aload_n 0, 1) := by decide +kernel
theorem dX3_holderOf_18 : decode cX3_holderOf 18 = .ok (.iload_n 2, 1) := by decide +kernel
theorem dX3_holderOf_19 : decode cX3_holderOf 19 = .ok (.invokevirtual 35, 3) := by decide +kernel
theorem dX3_holderOf_22 : decode cX3_holderOf 22 = .ok (.iload_n 1, 1) := by decide +kernel
theorem dX3_holderOf_23 : decode cX3_holderOf 23 = .ok (.if_icmp .ne 5, 3) := by decide +kernel
theorem dX3_holderOf_26 : decode cX3_holderOf 26 = .ok (.iload_n 2, 1) := by decide +kernel
theorem dX3_holderOf_27 : decode cX3_holderOf 27 = .ok (.ireturn, 1) := by decide +kernel
theorem dX3_holderOf_28 : decode cX3_holderOf 28 = .ok (.iinc 2 1, 3) := by decide +kernel
theorem dX3_holderOf_31 : decode cX3_holderOf 31 = .ok (.goto (-22), 3) := by decide +kernel
theorem dX3_holderOf_34 : decode cX3_holderOf 34 = .ok (.iconst (-1), 1) := by decide +kernel
theorem dX3_holderOf_35 : decode cX3_holderOf 35 = .ok (.ireturn, 1) := by decide +kernel
end
section
theorem nmX4 : ∀ a, a < 3 → ∀ b, b < 3 → a ≠ b → (TX4 a).2.1 ≠ (TX4 b).2.1 := by decide +kernel
theorem tyX4_ok : ∀ k, k < 3 → parseFieldDescriptor (TX4 k).2.2.1 = some (tyX4 k) := by decide +kernel
theorem inlX4 : ∀ w ∈ wsX40, w ∈ wsL_law := fun _ h => List.mem_append_left _ (List.mem_append_left _ (List.mem_append_left _ (List.mem_append_left _ (List.mem_append_left _ (List.mem_append_left _ (List.mem_append_left _ (List.mem_append_right _ h)))))))
set_option maxRecDepth 20000 in
theorem ggX4_init_J7_fill_53178 : GoodIn wsX4_init wsJ7_fill_53178 := goodIn_r _ [11] (by decide +kernel) (by decide +kernel)
set_option maxRecDepth 20000 in
theorem gX4_init_J7_fill_53178 : GoodIn wsX4_init (va_wsS RX4 21 yJ7_fill_53178 wsJ7_fill_53178) := goodIn_app (goodIn_of _ (by decide +kernel)) ggX4_init_J7_fill_53178
theorem dX4_init_0 : decode cX4_init 0 = .ok (.aload_n 0, 1) := by decide +kernel
theorem dX4_init_1 : decode cX4_init 1 = .ok (.invokespecial 3, 3) := by decide +kernel
theorem dX4_init_4 : decode cX4_init 4 = .ok (.aload_n 0, 1) := by decide +kernel
theorem dX4_init_5 : decode cX4_init 5 = .ok (.iconst 4, 1) := by decide +kernel
theorem dX4_init_6 : decode cX4_init 6 = .ok (.newarray .int, 2) := by decide +kernel
theorem dX4_init_8 : decode cX4_init 8 = .ok (.putfield 9, 3) := by decide +kernel
theorem dX4_init_11 : decode cX4_init 11 = .ok (.aload_n 0, 1) := by decide +kernel
theorem dX4_init_12 : decode cX4_init 12 = .ok (.iconst 4, 1) := by decide +kernel
theorem dX4_init_13 : decode cX4_init 13 = .ok (.newarray .int, 2) := by decide +kernel
theorem dX4_init_15 : decode cX4_init 15 = .ok (.putfield 15, 3) := by decide +kernel
theorem dX4_init_18 : decode cX4_init 18 = .ok (.aload_n 0, 1) := by decide +kernel
theorem dX4_init_19 : decode cX4_init 19 = .ok (.iconst 4, 1) := by decide +kernel
theorem dX4_init_20 : decode cX4_init 20 = .ok (.newarray .int, 2) := by decide +kernel
theorem dX4_init_22 : decode cX4_init 22 = .ok (.putfield 18, 3) := by decide +kernel
theorem dX4_init_25 : decode cX4_init 25 = .ok (.aload_n 0, 1) := by decide +kernel
theorem dX4_init_26 : decode cX4_init 26 = .ok (.getfield 18, 3) := by decide +kernel
theorem dX4_init_29 : decode cX4_init 29 = .ok (.iconst (-1), 1) := by decide +kernel
theorem dX4_init_30 : decode cX4_init 30 = .ok (.invokestatic 21, 3) := by decide +kernel
theorem dX4_init_33 : decode cX4_init 33 = .ok (.return_, 1) := by decide +kernel
theorem dX4_becomeLike_0 : decode cX4_becomeLike 0 = .ok (.aload_n 1, 1) := by decide +kernel
theorem dX4_becomeLike_1 : decode cX4_becomeLike 1 = .ok (.getfield 9, 3) := by decide +kernel
theorem dX4_becomeLike_4 : decode cX4_becomeLike 4 = .ok (.iconst 0, 1) := by decide +kernel
theorem dX4_becomeLike_5 : decode cX4_becomeLike 5 = .ok (.aload_n 0, 1) := by decide +kernel
theorem dX4_becomeLike_6 : decode cX4_becomeLike 6 = .ok (.getfield 9, 3) := by decide +kernel
theorem dX4_becomeLike_9 : decode cX4_becomeLike 9 = .ok (.iconst 0, 1) := by decide +kernel
theorem dX4_becomeLike_10 : decode cX4_becomeLike 10 = .ok (.iconst 4, 1) := by decide +kernel
theorem dX4_becomeLike_11 : decode cX4_becomeLike 11 = .ok (.invokestatic 27, 3) := by decide +kernel
theorem dX4_becomeLike_14 : decode cX4_becomeLike 14 = .ok (.aload_n 1, 1) := by decide +kernel
theorem dX4_becomeLike_15 : decode cX4_becomeLike 15 = .ok (.getfield 15, 3) := by decide +kernel
theorem dX4_becomeLike_18 : decode cX4_becomeLike 18 = .ok (.iconst 0, 1) := by decide +kernel
theorem dX4_becomeLike_19 : decode cX4_becomeLike 19 = .ok (.aload_n 0, 1) := by decide +kernel
theorem dX4_becomeLike_20 : decode cX4_becomeLike 20 = .ok (.getfield 15, 3) := by decide +kernel
theorem dX4_becomeLike_23 : decode cX4_becomeLike 23 = .ok (.iconst 0, 1) := by decide +kernel
theorem dX4_becomeLike_24 : decode cX4_becomeLike 24 = .ok (.iconst 4, 1) := by decide +kernel
theorem dX4_becomeLike_25 : decode cX4_becomeLike 25 = .ok (.invokestatic 27, 3) := by decide +kernel
theorem dX4_becomeLike_28 : decode cX4_becomeLike 28 = .ok (.aload_n 1, 1) := by decide +kernel
theorem dX4_becomeLike_29 : decode cX4_becomeLike 29 = .ok (.getfield 18, 3) := by decide +kernel
theorem dX4_becomeLike_32 : decode cX4_becomeLike 32 = .ok (.iconst 0, 1) := by decide +kernel
theorem dX4_becomeLike_33 : decode cX4_becomeLike 33 = .ok (.aload_n 0, 1) := by decide +kernel
theorem dX4_becomeLike_34 : decode cX4_becomeLike 34 = .ok (.getfield 18, 3) := by decide +kernel
theorem dX4_becomeLike_37 : decode cX4_becomeLike 37 = .ok (.iconst 0, 1) := by decide +kernel
theorem dX4_becomeLike_38 : decode cX4_becomeLike 38 = .ok (.iconst 4, 1) := by decide +kernel
theorem dX4_becomeLike_39 : decode cX4_becomeLike 39 = .ok (.invokestatic 27, 3) := by decide +kernel
theorem dX4_becomeLike_42 : decode cX4_becomeLike 42 = .ok (.return_, 1) := by decide +kernel
set_option maxRecDepth 20000 in
theorem ggX4_pulpOf_X5_isBelow : GoodIn wsX4_pulpOf wsX5_isBelow := goodIn_r _ [4] (by decide +kernel) (by decide +kernel)
set_option maxRecDepth 20000 in
theorem gX4_pulpOf_X5_isBelow_n33 : GoodIn wsX4_pulpOf (wsX5_isBelow) := ggX4_pulpOf_X5_isBelow
theorem dX4_pulpOf_0 : decode cX4_pulpOf 0 = .ok (.iload_n 1, 1) := by decide +kernel
theorem dX4_pulpOf_1 : decode cX4_pulpOf 1 = .ok (.iconst 4, 1) := by decide +kernel
theorem dX4_pulpOf_2 : decode cX4_pulpOf 2 = .ok (.invokestatic 33, 3) := by decide +kernel
theorem dX4_pulpOf_5 : decode cX4_pulpOf 5 = .ok (.ifCond .eq 12, 3) := by decide +kernel
theorem dX4_pulpOf_8 : decode cX4_pulpOf 8 = .ok (.aload_n 0, 1) := by decide +kernel
theorem dX4_pulpOf_9 : decode cX4_pulpOf 9 = .ok (.getfield 9, 3) := by decide +kernel
theorem dX4_pulpOf_12 : decode cX4_pulpOf 12 = .ok (.iload_n 1, 1) := by decide +kernel
theorem dX4_pulpOf_13 : decode cX4_pulpOf 13 = .ok (.iaload, 1) := by decide +kernel
theorem dX4_pulpOf_14 : decode cX4_pulpOf 14 = .ok (.goto 4, 3) := by decide +kernel
theorem dX4_pulpOf_17 : decode cX4_pulpOf 17 = .ok (.iconst 0, 1) := by decide +kernel
theorem dX4_pulpOf_18 : decode cX4_pulpOf 18 = .ok (.ireturn, 1) := by decide +kernel
set_option maxRecDepth 20000 in
theorem ggX4_beatOf_X5_isBelow : GoodIn wsX4_beatOf wsX5_isBelow := goodIn_r _ [4] (by decide +kernel) (by decide +kernel)
set_option maxRecDepth 20000 in
theorem gX4_beatOf_X5_isBelow_n33 : GoodIn wsX4_beatOf (wsX5_isBelow) := ggX4_beatOf_X5_isBelow
theorem dX4_beatOf_0 : decode cX4_beatOf 0 = .ok (.iload_n 1, 1) := by decide +kernel
theorem dX4_beatOf_1 : decode cX4_beatOf 1 = .ok (.iconst 4, 1) := by decide +kernel
theorem dX4_beatOf_2 : decode cX4_beatOf 2 = .ok (.invokestatic 33, 3) := by decide +kernel
theorem dX4_beatOf_5 : decode cX4_beatOf 5 = .ok (.ifCond .eq 12, 3) := by decide +kernel
theorem dX4_beatOf_8 : decode cX4_beatOf 8 = .ok (.aload_n 0, 1) := by decide +kernel
theorem dX4_beatOf_9 : decode cX4_beatOf 9 = .ok (.getfield 15, 3) := by decide +kernel
theorem dX4_beatOf_12 : decode cX4_beatOf 12 = .ok (.iload_n 1, 1) := by decide +kernel
theorem dX4_beatOf_13 : decode cX4_beatOf 13 = .ok (.iaload, 1) := by decide +kernel
theorem dX4_beatOf_14 : decode cX4_beatOf 14 = .ok (.goto 4, 3) := by decide +kernel
theorem dX4_beatOf_17 : decode cX4_beatOf 17 = .ok (.iconst 0, 1) := by decide +kernel
theorem dX4_beatOf_18 : decode cX4_beatOf 18 = .ok (.ireturn, 1) := by decide +kernel
set_option maxRecDepth 20000 in
theorem ggX4_sortOf_X5_isBelow : GoodIn wsX4_sortOf wsX5_isBelow := goodIn_r _ [4] (by decide +kernel) (by decide +kernel)
set_option maxRecDepth 20000 in
theorem gX4_sortOf_X5_isBelow_n33 : GoodIn wsX4_sortOf (wsX5_isBelow) := ggX4_sortOf_X5_isBelow
theorem dX4_sortOf_0 : decode cX4_sortOf 0 = .ok (.iload_n 1, 1) := by decide +kernel
theorem dX4_sortOf_1 : decode cX4_sortOf 1 = .ok (.iconst 4, 1) := by decide +kernel
theorem dX4_sortOf_2 : decode cX4_sortOf 2 = .ok (.invokestatic 33, 3) := by decide +kernel
theorem dX4_sortOf_5 : decode cX4_sortOf 5 = .ok (.ifCond .eq 12, 3) := by decide +kernel
theorem dX4_sortOf_8 : decode cX4_sortOf 8 = .ok (.aload_n 0, 1) := by decide +kernel
theorem dX4_sortOf_9 : decode cX4_sortOf 9 = .ok (.getfield 18, 3) := by decide +kernel
theorem dX4_sortOf_12 : decode cX4_sortOf 12 = .ok (.iload_n 1, 1) := by decide +kernel
theorem dX4_sortOf_13 : decode cX4_sortOf 13 = .ok (.iaload, 1) := by decide +kernel
theorem dX4_sortOf_14 : decode cX4_sortOf 14 = .ok (.goto 4, 3) := by decide +kernel
theorem dX4_sortOf_17 : decode cX4_sortOf 17 = .ok (.iconst (-1), 1) := by decide +kernel
theorem dX4_sortOf_18 : decode cX4_sortOf 18 = .ok (.ireturn, 1) := by decide +kernel
set_option maxRecDepth 20000 in
theorem ggX4_tell_X4_pulpOf : GoodIn wsX4_tell wsX4_pulpOf := goodIn_r _ [5, 6, 7, 8, 9, 20, 21, 22] (by decide +kernel) (by decide +kernel)
set_option maxRecDepth 20000 in
theorem gX4_tell_X4_pulpOf : GoodIn wsX4_tell (wsV RX4 37 RX4 yX4_pulpOf wsX4_pulpOf) := goodIn_app (goodIn_of _ (by decide +kernel)) ggX4_tell_X4_pulpOf
set_option maxRecDepth 20000 in
theorem ggX4_tell_X4_beatOf : GoodIn wsX4_tell wsX4_beatOf := goodIn_r _ [13, 14, 7, 8, 9, 20, 21, 22] (by decide +kernel) (by decide +kernel)
set_option maxRecDepth 20000 in
theorem gX4_tell_X4_beatOf : GoodIn wsX4_tell (wsV RX4 41 RX4 yX4_beatOf wsX4_beatOf) := goodIn_app (goodIn_of _ (by decide +kernel)) ggX4_tell_X4_beatOf
set_option maxRecDepth 20000 in
theorem ggX4_tell_X4_sortOf : GoodIn wsX4_tell wsX4_sortOf := goodIn_r _ [18, 19, 7, 8, 9, 20, 21, 22] (by decide +kernel) (by decide +kernel)
set_option maxRecDepth 20000 in
theorem gX4_tell_X4_sortOf : GoodIn wsX4_tell (wsV RX4 44 RX4 yX4_sortOf wsX4_sortOf) := goodIn_app (goodIn_of _ (by decide +kernel)) ggX4_tell_X4_sortOf
theorem dX4_tell_0 : decode cX4_tell 0 = .ok (.iload_n 2, 1) := by decide +kernel
theorem dX4_tell_1 : decode cX4_tell 1 = .ok (.lookupswitch 39 #[(0, 27), (1, 33)], 27) := by decide +kernel
theorem dX4_tell_28 : decode cX4_tell 28 = .ok (.aload_n 0, 1) := by decide +kernel
theorem dX4_tell_29 : decode cX4_tell 29 = .ok (.iload_n 1, 1) := by decide +kernel
theorem dX4_tell_30 : decode cX4_tell 30 = .ok (.invokevirtual 37, 3) := by decide +kernel
theorem dX4_tell_33 : decode cX4_tell 33 = .ok (.ireturn, 1) := by decide +kernel
theorem dX4_tell_34 : decode cX4_tell 34 = .ok (.aload_n 0, 1) := by decide +kernel
theorem dX4_tell_35 : decode cX4_tell 35 = .ok (.iload_n 1, 1) := by decide +kernel
theorem dX4_tell_36 : decode cX4_tell 36 = .ok (.invokevirtual 41, 3) := by decide +kernel
theorem dX4_tell_39 : decode cX4_tell 39 = .ok (.ireturn, 1) := by decide +kernel
theorem dX4_tell_40 : decode cX4_tell 40 = .ok (.aload_n 0, 1) := by decide +kernel
theorem dX4_tell_41 : decode cX4_tell 41 = .ok (.iload_n 1, 1) := by decide +kernel
theorem dX4_tell_42 : decode cX4_tell 42 = .ok (.invokevirtual 44, 3) := by decide +kernel
theorem dX4_tell_45 : decode cX4_tell 45 = .ok (.ireturn, 1) := by decide +kernel
set_option maxRecDepth 20000 in
theorem ggX4_charge_X5_isBelow : GoodIn wsX4_charge wsX5_isBelow := goodIn_r _ [6] (by decide +kernel) (by decide +kernel)
set_option maxRecDepth 20000 in
theorem gX4_charge_X5_isBelow_n33 : GoodIn wsX4_charge (wsX5_isBelow) := ggX4_charge_X5_isBelow
theorem dX4_charge_0 : decode cX4_charge 0 = .ok (.iload_n 1, 1) := by decide +kernel
theorem dX4_charge_1 : decode cX4_charge 1 = .ok (.iconst 4, 1) := by decide +kernel
theorem dX4_charge_2 : decode cX4_charge 2 = .ok (.invokestatic 33, 3) := by decide +kernel
theorem dX4_charge_5 : decode cX4_charge 5 = .ok (.ifCond .eq 24, 3) := by decide +kernel
theorem dX4_charge_8 : decode cX4_charge 8 = .ok (.aload_n 0, 1) := by decide +kernel
theorem dX4_charge_9 : decode cX4_charge 9 = .ok (.getfield 9, 3) := by decide +kernel
theorem dX4_charge_12 : decode cX4_charge 12 = .ok (.iload_n 1, 1) := by decide +kernel
theorem dX4_charge_13 : decode cX4_charge 13 = .ok (.iload_n 3, 1) := by decide +kernel
theorem dX4_charge_14 : decode cX4_charge 14 = .ok (.iastore, 1) := by decide +kernel
theorem dX4_charge_15 : decode cX4_charge 15 = .ok (.aload_n 0, 1) := by decide +kernel
theorem dX4_charge_16 : decode cX4_charge 16 = .ok (.getfield 15, 3) := by decide +kernel
theorem dX4_charge_19 : decode cX4_charge 19 = .ok (.iload_n 1, 1) := by decide +kernel
theorem dX4_charge_20 : decode cX4_charge 20 = .ok (.iconst 0, 1) := by decide +kernel
theorem dX4_charge_21 : decode cX4_charge 21 = .ok (.iastore, 1) := by decide +kernel
theorem dX4_charge_22 : decode cX4_charge 22 = .ok (.aload_n 0, 1) := by decide +kernel
theorem dX4_charge_23 : decode cX4_charge 23 = .ok (.getfield 18, 3) := by decide +kernel
theorem dX4_charge_26 : decode cX4_charge 26 = .ok (.iload_n 1, 1) := by decide +kernel
theorem dX4_charge_27 : decode cX4_charge 27 = .ok (.iload_n 2, 1) := by decide +kernel
theorem dX4_charge_28 : decode cX4_charge 28 = .ok (.iastore, 1) := by decide +kernel
theorem dX4_charge_29 : decode cX4_charge 29 = .ok (.return_, 1) := by decide +kernel
set_option maxRecDepth 20000 in
theorem ggX4_takeOut_X5_isBelow : GoodIn wsX4_takeOut wsX5_isBelow := goodIn_r _ [4] (by decide +kernel) (by decide +kernel)
set_option maxRecDepth 20000 in
theorem gX4_takeOut_X5_isBelow_n33 : GoodIn wsX4_takeOut (wsX5_isBelow) := ggX4_takeOut_X5_isBelow
set_option maxRecDepth 20000 in
theorem ggX4_takeOut_X4_charge : GoodIn wsX4_takeOut wsX4_charge := goodIn_r _ [9, 1, 10, 11, 2, 3, 4, 12, 13, 14] (by decide +kernel) (by decide +kernel)
set_option maxRecDepth 20000 in
theorem gX4_takeOut_X4_charge : GoodIn wsX4_takeOut (wsV RX4 47 RX4 yX4_charge wsX4_charge) := goodIn_app (goodIn_of _ (by decide +kernel)) ggX4_takeOut_X4_charge
theorem dX4_takeOut_0 : decode cX4_takeOut 0 = .ok (.iload_n 1, 1) := by decide +kernel
theorem dX4_takeOut_1 : decode cX4_takeOut 1 = .ok (.iconst 4, 1) := by decide +kernel
theorem dX4_takeOut_2 : decode cX4_takeOut 2 = .ok (.invokestatic 33, 3) := by decide +kernel
theorem dX4_takeOut_5 : decode cX4_takeOut 5 = .ok (.ifCond .ne 4, 3) := by decide +kernel
theorem dX4_takeOut_8 : decode cX4_takeOut 8 = .ok (.return_, 1) := by decide +kernel
theorem dX4_takeOut_9 : decode cX4_takeOut 9 = .ok (.aload_n 0, 1) := by decide +kernel
theorem dX4_takeOut_10 : decode cX4_takeOut 10 = .ok (.getfield 9, 3) := by decide +kernel
theorem dX4_takeOut_13 : decode cX4_takeOut 13 = .ok (.iload_n 1, 1) := by decide +kernel
theorem dX4_takeOut_14 : decode cX4_takeOut 14 = .ok (.dup2, 1) := by decide +kernel
theorem dX4_takeOut_15 : decode cX4_takeOut 15 = .ok (.iaload, 1) := by decide +kernel
theorem dX4_takeOut_16 : decode cX4_takeOut 16 = .ok (.iload_n 2, 1) := by decide +kernel
theorem dX4_takeOut_17 : decode cX4_takeOut 17 = .ok (.isub, 1) := by decide +kernel
theorem dX4_takeOut_18 : decode cX4_takeOut 18 = .ok (.iastore, 1) := by decide +kernel
theorem dX4_takeOut_19 : decode cX4_takeOut 19 = .ok (.aload_n 0, 1) := by decide +kernel
theorem dX4_takeOut_20 : decode cX4_takeOut 20 = .ok (.getfield 9, 3) := by decide +kernel
theorem dX4_takeOut_23 : decode cX4_takeOut 23 = .ok (.iload_n 1, 1) := by decide +kernel
theorem dX4_takeOut_24 : decode cX4_takeOut 24 = .ok (.iaload, 1) := by decide +kernel
theorem dX4_takeOut_25 : decode cX4_takeOut 25 = .ok (.ifCond .gt 10, 3) := by decide +kernel
theorem dX4_takeOut_28 : decode cX4_takeOut 28 = .ok (.aload_n 0, 1) := by decide +kernel
theorem dX4_takeOut_29 : decode cX4_takeOut 29 = .ok (.iload_n 1, 1) := by decide +kernel
theorem dX4_takeOut_30 : decode cX4_takeOut 30 = .ok (.iconst (-1), 1) := by decide +kernel
theorem dX4_takeOut_31 : decode cX4_takeOut 31 = .ok (.iconst 0, 1) := by decide +kernel
theorem dX4_takeOut_32 : decode cX4_takeOut 32 = .ok (.invokevirtual 47, 3) := by decide +kernel
theorem dX4_takeOut_35 : decode cX4_takeOut 35 = .ok (.return_, 1) := by decide +kernel
theorem dX4_allPulp_0 : decode cX4_allPulp 0 = .ok (.iconst 0, 1) := by decide +kernel
theorem dX4_allPulp_1 : decode cX4_allPulp 1 = .ok (.istore_n 1, 1) := by decide +kernel
theorem dX4_allPulp_2 : decode cX4_allPulp 2 = .ok (.iconst 0, 1) := by decide +kernel
theorem dX4_allPulp_3 : decode cX4_allPulp 3 = .ok (.istore_n 2, 1) := by decide +kernel
theorem dX4_allPulp_4 : decode cX4_allPulp 4 = .ok (.iload_n 2, 1) := by decide +kernel
theorem dX4_allPulp_5 : decode cX4_allPulp 5 = .ok (.iconst 4, 1) := by decide +kernel
theorem dX4_allPulp_6 : decode cX4_allPulp 6 = .ok (.if_icmp .ge 18, 3) := by decide +kernel
theorem dX4_allPulp_9 : decode cX4_allPulp 9 = .ok (.iload_n 1, 1) := by decide +kernel
theorem dX4_allPulp_10 : decode cX4_allPulp 10 = .ok (.aload_n 0, 1) := by decide +kernel
theorem dX4_allPulp_11 : decode cX4_allPulp 11 = .ok (.getfield 9, 3) := by decide +kernel
theorem dX4_allPulp_14 : decode cX4_allPulp 14 = .ok (.iload_n 2, 1) := by decide +kernel
theorem dX4_allPulp_15 : decode cX4_allPulp 15 = .ok (.iaload, 1) := by decide +kernel
theorem dX4_allPulp_16 : decode cX4_allPulp 16 = .ok (.iadd, 1) := by decide +kernel
theorem dX4_allPulp_17 : decode cX4_allPulp 17 = .ok (.istore_n 1, 1) := by decide +kernel
theorem dX4_allPulp_18 : decode cX4_allPulp 18 = .ok (.iinc 2 1, 3) := by decide +kernel
theorem dX4_allPulp_21 : decode cX4_allPulp 21 = .ok (.goto (-17), 3) := by decide +kernel
theorem dX4_allPulp_24 : decode cX4_allPulp 24 = .ok (.iload_n 1, 1) := by decide +kernel
theorem dX4_allPulp_25 : decode cX4_allPulp 25 = .ok (.ireturn, 1) := by decide +kernel
set_option maxRecDepth 20000 in
theorem ggX4_beatAll_X4_numberWithPulp : GoodIn wsX4_beatAll wsX4_numberWithPulp := goodIn_r _ [11, 1, 12, 13, 14] (by decide +kernel) (by decide +kernel)
set_option maxRecDepth 20000 in
theorem gX4_beatAll_X4_numberWithPulp : GoodIn wsX4_beatAll (wsV RX4 51 RX4 yX4_numberWithPulp wsX4_numberWithPulp) := goodIn_app (goodIn_of _ (by decide +kernel)) ggX4_beatAll_X4_numberWithPulp
theorem dX4_beatAll_0 : decode cX4_beatAll 0 = .ok (.aload_n 0, 1) := by decide +kernel
theorem dX4_beatAll_1 : decode cX4_beatAll 1 = .ok (.invokevirtual 51, 3) := by decide +kernel
theorem dX4_beatAll_4 : decode cX4_beatAll 4 = .ok (.istore_n 2, 1) := by decide +kernel
theorem dX4_beatAll_5 : decode cX4_beatAll 5 = .ok (.iload_n 2, 1) := by decide +kernel
theorem dX4_beatAll_6 : decode cX4_beatAll 6 = .ok (.ifCond .ne 4, 3) := by decide +kernel
theorem dX4_beatAll_9 : decode cX4_beatAll 9 = .ok (.return_, 1) := by decide +kernel
theorem dX4_beatAll_10 : decode cX4_beatAll 10 = .ok (.iconst 3, 1) := by decide +kernel
theorem dX4_beatAll_11 : decode cX4_beatAll 11 = .ok (.iload_n 1, 1) := by decide +kernel
theorem dX4_beatAll_12 : decode cX4_beatAll 12 = .ok (.imul, 1) := by decide +kernel
theorem dX4_beatAll_13 : decode cX4_beatAll 13 = .ok (.iload_n 2, 1) := by decide +kernel
theorem dX4_beatAll_14 : decode cX4_beatAll 14 = .ok (.idiv, 1) := by decide +kernel
theorem dX4_beatAll_15 : decode cX4_beatAll 15 = .ok (.istore_n 3, 1) := by decide +kernel
theorem dX4_beatAll_16 : decode cX4_beatAll 16 = .ok (.iconst 0, 1) := by decide +kernel
theorem dX4_beatAll_17 : decode cX4_beatAll 17 = .ok (.istore 4, 2) := by decide +kernel
theorem dX4_beatAll_19 : decode cX4_beatAll 19 = .ok (.iload 4, 2) := by decide +kernel
theorem dX4_beatAll_21 : decode cX4_beatAll 21 = .ok (.iconst 4, 1) := by decide +kernel
theorem dX4_beatAll_22 : decode cX4_beatAll 22 = .ok (.if_icmp .ge 40, 3) := by decide +kernel
theorem dX4_beatAll_25 : decode cX4_beatAll 25 = .ok (.aload_n 0, 1) := by decide +kernel
theorem dX4_beatAll_26 : decode cX4_beatAll 26 = .ok (.getfield 9, 3) := by decide +kernel
theorem dX4_beatAll_29 : decode cX4_beatAll 29 = .ok (.iload 4, 2) := by decide +kernel
theorem dX4_beatAll_31 : decode cX4_beatAll 31 = .ok (.iaload, 1) := by decide +kernel
theorem dX4_beatAll_32 : decode cX4_beatAll 32 = .ok (.ifCond .le 24, 3) := by decide +kernel
theorem dX4_beatAll_35 : decode cX4_beatAll 35 = .ok (.aload_n 0, 1) := by decide +kernel
theorem dX4_beatAll_36 : decode cX4_beatAll 36 = .ok (.getfield 15, 3) := by decide +kernel
theorem dX4_beatAll_39 : decode cX4_beatAll 39 = .ok (.iload 4, 2) := by decide +kernel
theorem dX4_beatAll_41 : decode cX4_beatAll 41 = .ok (.bipush 99, 2) := by decide +kernel
theorem dX4_beatAll_43 : decode cX4_beatAll 43 = .ok (.aload_n 0, 1) := by decide +kernel
theorem dX4_beatAll_44 : decode cX4_beatAll 44 = .ok (.getfield 15, 3) := by decide +kernel
theorem dX4_beatAll_47 : decode cX4_beatAll 47 = .ok (.iload 4, 2) := by decide +kernel
theorem dX4_beatAll_49 : decode cX4_beatAll 49 = .ok (.iaload, 1) := by decide +kernel
theorem dX4_beatAll_50 : decode cX4_beatAll 50 = .ok (.iload_n 3, 1) := by decide +kernel
theorem dX4_beatAll_51 : decode cX4_beatAll 51 = .ok (.iadd, 1) := by decide +kernel
theorem dX4_beatAll_52 : decode cX4_beatAll 52 = .ok (.invokestatic 55, 3) := by decide +kernel
theorem dX4_beatAll_55 : decode cX4_beatAll 55 = .ok (.iastore, 1) := by decide +kernel
theorem dX4_beatAll_56 : decode cX4_beatAll 56 = .ok (.iinc 4 1, 3) := by decide +kernel
theorem dX4_beatAll_59 : decode cX4_beatAll 59 = .ok (.goto (-40), 3) := by decide +kernel
theorem dX4_beatAll_62 : decode cX4_beatAll 62 = .ok (.return_, 1) := by decide +kernel
theorem dX4_numberWithPulp_0 : decode cX4_numberWithPulp 0 = .ok (.iconst 0, 1) := by decide +kernel
theorem dX4_numberWithPulp_1 : decode cX4_numberWithPulp 1 = .ok (.istore_n 1, 1) := by decide +kernel
theorem dX4_numberWithPulp_2 : decode cX4_numberWithPulp 2 = .ok (.iconst 0, 1) := by decide +kernel
theorem dX4_numberWithPulp_3 : decode cX4_numberWithPulp 3 = .ok (.istore_n 2, 1) := by decide +kernel
theorem dX4_numberWithPulp_4 : decode cX4_numberWithPulp 4 = .ok (.iload_n 2, 1) := by decide +kernel
theorem dX4_numberWithPulp_5 : decode cX4_numberWithPulp 5 = .ok (.iconst 4, 1) := by decide +kernel
theorem dX4_numberWithPulp_6 : decode cX4_numberWithPulp 6 = .ok (.if_icmp .ge 21, 3) := by decide +kernel
theorem dX4_numberWithPulp_9 : decode cX4_numberWithPulp 9 = .ok (.aload_n 0, 1) := by decide +kernel
theorem dX4_numberWithPulp_10 : decode cX4_numberWithPulp 10 = .ok (.getfield 9, 3) := by decide +kernel
theorem dX4_numberWithPulp_13 : decode cX4_numberWithPulp 13 = .ok (.iload_n 2, 1) := by decide +kernel
theorem dX4_numberWithPulp_14 : decode cX4_numberWithPulp 14 = .ok (.iaload, 1) := by decide +kernel
theorem dX4_numberWithPulp_15 : decode cX4_numberWithPulp 15 = .ok (.ifCond .le 6, 3) := by decide +kernel
theorem dX4_numberWithPulp_18 : decode cX4_numberWithPulp 18 = .ok (.iinc 1 1, 3) := by decide +kernel
theorem dX4_numberWithPulp_21 : decode cX4_numberWithPulp 21 = .ok (.iinc 2 1, 3) := by decide +kernel
theorem dX4_numberWithPulp_24 : decode cX4_numberWithPulp 24 = .ok (.goto (-20), 3) := by decide +kernel
theorem dX4_numberWithPulp_27 : decode cX4_numberWithPulp 27 = .ok (.iload_n 1, 1) := by decide +kernel
theorem dX4_numberWithPulp_28 : decode cX4_numberWithPulp 28 = .ok (.ireturn, 1) := by decide +kernel
theorem nmX5 : ∀ a, a < 2 → ∀ b, b < 2 → a ≠ b → (TX5 a).2.1 ≠ (TX5 b).2.1 := by decide +kernel
theorem tyX5_ok : ∀ k, k < 2 → parseFieldDescriptor (TX5 k).2.2.1 = some (tyX5 k) := by decide +kernel
theorem inlX5 : ∀ w ∈ wsX50, w ∈ wsL_law := fun _ h => List.mem_append_left _ (List.mem_append_left _ (List.mem_append_left _ (List.mem_append_left _ (List.mem_append_left _ (List.mem_append_left _ (List.mem_append_left _ (List.mem_append_left _ (List.mem_append_left _ (List.mem_append_left _ (List.mem_append_right _ h))))))))))
set_option maxRecDepth 20000 in
theorem ggX5_init_X0_init : GoodIn wsX5_init wsX0_init := goodIn_r _ [11, 12, 2, 3, 13, 14, 15, 16, 17, 18, 19, 20, 21, 22, 23, 24, 25, 26, 27, 28, 29, 30, 31, 32, 33, 34, 35, 36, 37, 38, 39, 40, 41, 42, 43, 44, 45, 46, 47, 48, 49, 50, 51, 52, 53, 54, 55, 56, 57, 58, 59, 60, 61, 62, 63, 64, 65, 66, 67, 68, 69, 70, 71, 72, 73, 74, 75, 76, 77, 78, 79, 80, 81, 82, 83, 86, 87, 88, 89, 90, 91, 92, 93, 94, 95, 96, 97, 98, 99, 100, 101] (by decide +kernel) (by decide +kernel)
set_option maxRecDepth 20000 in
theorem gX5_init_X0_init : GoodIn wsX5_init (wsX0_init) := ggX5_init_X0_init
theorem dX5_init_0 : decode cX5_init 0 = .ok (.aload_n 0, 1) := by decide +kernel
theorem dX5_init_1 : decode cX5_init 1 = .ok (.invokespecial 1, 3) := by decide +kernel
theorem dX5_init_4 : decode cX5_init 4 = .ok (.aload_n 0, 1) := by decide +kernel
theorem dX5_init_5 : decode cX5_init 5 = .ok (.new 7, 3) := by decide +kernel
theorem dX5_init_8 : decode cX5_init 8 = .ok (.dup, 1) := by decide +kernel
theorem dX5_init_9 : decode cX5_init 9 = .ok (.invokespecial 9, 3) := by decide +kernel
theorem dX5_init_12 : decode cX5_init 12 = .ok (.putfield 10, 3) := by decide +kernel
theorem dX5_init_15 : decode cX5_init 15 = .ok (.aload_n 0, 1) := by decide +kernel
theorem dX5_init_16 : decode cX5_init 16 = .ok (.new 7, 3) := by decide +kernel
theorem dX5_init_19 : decode cX5_init 19 = .ok (.dup, 1) := by decide +kernel
theorem dX5_init_20 : decode cX5_init 20 = .ok (.invokespecial 9, 3) := by decide +kernel
theorem dX5_init_23 : decode cX5_init 23 = .ok (.putfield 16, 3) := by decide +kernel
theorem dX5_init_26 : decode cX5_init 26 = .ok (.return_, 1) := by decide +kernel
set_option maxRecDepth 20000 in
theorem ggX5_buy_X5_isBelow : GoodIn wsX5_buy wsX5_isBelow := goodIn_r _ [12] (by decide +kernel) (by decide +kernel)
set_option maxRecDepth 20000 in
theorem gX5_buy_X5_isBelow : GoodIn wsX5_buy (va_wsS RX5 19 yX5_isBelow wsX5_isBelow) := goodIn_app (goodIn_of _ (by decide +kernel)) ggX5_buy_X5_isBelow
set_option maxRecDepth 20000 in
theorem ggX5_buy_X5_isFrom1To : GoodIn wsX5_buy wsX5_isFrom1To := goodIn_r _ [15] (by decide +kernel) (by decide +kernel)
set_option maxRecDepth 20000 in
theorem gX5_buy_X5_isFrom1To : GoodIn wsX5_buy (va_wsS RX5 30 yX5_isFrom1To wsX5_isFrom1To) := goodIn_app (goodIn_of _ (by decide +kernel)) ggX5_buy_X5_isFrom1To
set_option maxRecDepth 20000 in
theorem ggX5_buy_X0_takeIn : GoodIn wsX5_buy wsX0_takeIn := goodIn_r _ [20, 21, 22, 10, 11, 12, 25, 26, 27, 28, 29, 30, 31, 32, 33, 34, 35, 36] (by decide +kernel) (by decide +kernel)
set_option maxRecDepth 20000 in
theorem gX5_buy_X0_takeIn : GoodIn wsX5_buy (wsV RX5 56 RX0 yX0_takeIn wsX0_takeIn) := goodIn_app (goodIn_of _ (by decide +kernel)) ggX5_buy_X0_takeIn
theorem dX5_buy_0 : decode cX5_buy 0 = .ok (.iload_n 1, 1) := by decide +kernel
theorem dX5_buy_1 : decode cX5_buy 1 = .ok (.iconst 4, 1) := by decide +kernel
theorem dX5_buy_2 : decode cX5_buy 2 = .ok (.invokestatic 19, 3) := by decide +kernel
theorem dX5_buy_5 : decode cX5_buy 5 = .ok (.ifCond .ne 13, 3) := by decide +kernel
theorem dX5_buy_8 : decode cX5_buy 8 = .ok (.new 23, 3) := by decide +kernel
theorem dX5_buy_11 : decode cX5_buy 11 = .ok (.dup, 1) := by decide +kernel
theorem dX5_buy_12 : decode cX5_buy 12 = .ok (.ldc 25, 2) := by decide +kernel
theorem dX5_buy_14 : decode cX5_buy 14 = .ok (.invokespecial 27, 3) := by decide +kernel
theorem dX5_buy_17 : decode cX5_buy 17 = .ok (.athrow, 1) := by decide +kernel
theorem dX5_buy_18 : decode cX5_buy 18 = .ok (.iload_n 2, 1) := by decide +kernel
theorem dX5_buy_19 : decode cX5_buy 19 = .ok (.bipush 99, 2) := by decide +kernel
theorem dX5_buy_21 : decode cX5_buy 21 = .ok (.invokestatic 30, 3) := by decide +kernel
theorem dX5_buy_24 : decode cX5_buy 24 = .ok (.ifCond .ne 13, 3) := by decide +kernel
theorem dX5_buy_27 : decode cX5_buy 27 = .ok (.new 33, 3) := by decide +kernel
theorem dX5_buy_30 : decode cX5_buy 30 = .ok (.dup, 1) := by decide +kernel
theorem dX5_buy_31 : decode cX5_buy 31 = .ok (.ldc 35, 2) := by decide +kernel
theorem dX5_buy_33 : decode cX5_buy 33 = .ok (.invokespecial 37, 3) := by decide +kernel
theorem dX5_buy_36 : decode cX5_buy 36 = .ok (.athrow, 1) := by decide +kernel
theorem dX5_buy_37 : decode cX5_buy 37 = .ok (.getstatic 38, 3) := by decide +kernel
theorem dX5_buy_40 : decode cX5_buy 40 = .ok (.iload_n 1, 1) := by decide +kernel
theorem dX5_buy_41 : decode cX5_buy 41 = .ok (.iaload, 1) := by decide +kernel
theorem dX5_buy_42 : decode cX5_buy 42 = .ok (.iload_n 2, 1) := by decide +kernel
theorem dX5_buy_43 : decode cX5_buy 43 = .ok (.imul, 1) := by decide +kernel
theorem dX5_buy_44 : decode cX5_buy 44 = .ok (.istore_n 3, 1) := by decide +kernel
theorem dX5_buy_45 : decode cX5_buy 45 = .ok (.aload_n 0, 1) := by decide +kernel
theorem dX5_buy_46 : decode cX5_buy 46 = .ok (.getfield 10, 3) := by decide +kernel
theorem dX5_buy_49 : decode cX5_buy 49 = .ok (.getfield 42, 3) := by decide +kernel
theorem dX5_buy_52 : decode cX5_buy 52 = .ok (.iload_n 3, 1) := by decide +kernel
theorem dX5_buy_53 : decode cX5_buy 53 = .ok (.if_icmp .ge 13, 3) := by decide +kernel
theorem dX5_buy_56 : decode cX5_buy 56 = .ok (.new 46, 3) := by decide +kernel
theorem dX5_buy_59 : decode cX5_buy 59 = .ok (.dup, 1) := by decide +kernel
theorem dX5_buy_60 : decode cX5_buy 60 = .ok (.ldc 48, 2) := by decide +kernel
theorem dX5_buy_62 : decode cX5_buy 62 = .ok (.invokespecial 50, 3) := by decide +kernel
theorem dX5_buy_65 : decode cX5_buy 65 = .ok (.athrow, 1) := by decide +kernel
theorem dX5_buy_66 : decode cX5_buy 66 = .ok (.iload_n 1, 1) := by decide +kernel
theorem dX5_buy_67 : decode cX5_buy 67 = .ok (.iconst 3, 1) := by decide +kernel
theorem dX5_buy_68 : decode cX5_buy 68 = .ok (.if_icmp .ne 27, 3) := by decide +kernel
theorem dX5_buy_71 : decode cX5_buy 71 = .ok (.aload_n 0, 1) := by decide +kernel
theorem dX5_buy_72 : decode cX5_buy 72 = .ok (.getfield 10, 3) := by decide +kernel
theorem dX5_buy_75 : decode cX5_buy 75 = .ok (.getfield 51, 3) := by decide +kernel
theorem dX5_buy_78 : decode cX5_buy 78 = .ok (.iload_n 2, 1) := by decide +kernel
theorem dX5_buy_79 : decode cX5_buy 79 = .ok (.iadd, 1) := by decide +kernel
theorem dX5_buy_80 : decode cX5_buy 80 = .ok (.bipush 90, 2) := by decide +kernel
theorem dX5_buy_82 : decode cX5_buy 82 = .ok (.if_icmp .le 13, 3) := by decide +kernel
theorem dX5_buy_85 : decode cX5_buy 85 = .ok (.new 46, 3) := by decide +kernel
theorem dX5_buy_88 : decode cX5_buy 88 = .ok (.dup, 1) := by decide +kernel
theorem dX5_buy_89 : decode cX5_buy 89 = .ok (.ldc 54, 2) := by decide +kernel
theorem dX5_buy_91 : decode cX5_buy 91 = .ok (.invokespecial 50, 3) := by decide +kernel
theorem dX5_buy_94 : decode cX5_buy 94 = .ok (.athrow, 1) := by decide +kernel
theorem dX5_buy_95 : decode cX5_buy 95 = .ok (.aload_n 0, 1) := by decide +kernel
theorem dX5_buy_96 : decode cX5_buy 96 = .ok (.getfield 10, 3) := by decide +kernel
theorem dX5_buy_99 : decode cX5_buy 99 = .ok (.dup, 1) := by decide +kernel
theorem dX5_buy_100 : decode cX5_buy 100 = .ok (.getfield 42, 3) := by decide +kernel
theorem dX5_buy_103 : decode cX5_buy 103 = .ok (.iload_n 3, 1) := by decide +kernel
theorem dX5_buy_104 : decode cX5_buy 104 = .ok (.isub, 1) := by decide +kernel
theorem dX5_buy_105 : decode cX5_buy 105 = .ok (.putfield 42, 3) := by decide +kernel
theorem dX5_buy_108 : decode cX5_buy 108 = .ok (.aload_n 0, 1) := by decide +kernel
theorem dX5_buy_109 : decode cX5_buy 109 = .ok (.getfield 10, 3) := by decide +kernel
theorem dX5_buy_112 : decode cX5_buy 112 = .ok (.iload_n 1, 1) := by decide +kernel
theorem dX5_buy_113 : decode cX5_buy 113 = .ok (.iload_n 2, 1) := by decide +kernel
theorem dX5_buy_114 : decode cX5_buy 114 = .ok (.invokevirtual 56, 3) := by decide +kernel
theorem dX5_buy_117 : decode cX5_buy 117 = .ok (.ireturn, 1) := by decide +kernel
set_option maxRecDepth 20000 in
theorem ggX5_sell_X5_isBelow : GoodIn wsX5_sell wsX5_isBelow := goodIn_r _ [11] (by decide +kernel) (by decide +kernel)
set_option maxRecDepth 20000 in
theorem gX5_sell_X5_isBelow : GoodIn wsX5_sell (va_wsS RX5 19 yX5_isBelow wsX5_isBelow) := goodIn_app (goodIn_of _ (by decide +kernel)) ggX5_sell_X5_isBelow
set_option maxRecDepth 20000 in
theorem ggX5_sell_X5_isFrom1To : GoodIn wsX5_sell wsX5_isFrom1To := goodIn_r _ [14] (by decide +kernel) (by decide +kernel)
set_option maxRecDepth 20000 in
theorem gX5_sell_X5_isFrom1To : GoodIn wsX5_sell (va_wsS RX5 30 yX5_isFrom1To wsX5_isFrom1To) := goodIn_app (goodIn_of _ (by decide +kernel)) ggX5_sell_X5_isFrom1To
set_option maxRecDepth 20000 in
theorem ggX5_sell_X0_hanging : GoodIn wsX5_sell wsX0_hanging := goodIn_r _ [19, 20, 9, 10, 11, 31, 32, 33, 34, 35, 36, 37, 38, 39, 40, 41, 42] (by decide +kernel) (by decide +kernel)
set_option maxRecDepth 20000 in
theorem gX5_sell_X0_hanging : GoodIn wsX5_sell (wsV RX5 64 RX0 yX0_hanging wsX0_hanging) := goodIn_app (goodIn_of _ (by decide +kernel)) ggX5_sell_X0_hanging
set_option maxRecDepth 20000 in
theorem ggX5_sell_X5_worthOf : GoodIn wsX5_sell wsX5_worthOf := goodIn_r _ [23, 24, 8, 9, 10, 11] (by decide +kernel) (by decide +kernel)
set_option maxRecDepth 20000 in
theorem gX5_sell_X5_worthOf : GoodIn wsX5_sell (va_wsS RX5 69 yX5_worthOf wsX5_worthOf) := goodIn_app (goodIn_of _ (by decide +kernel)) ggX5_sell_X5_worthOf
set_option maxRecDepth 20000 in
theorem ggX5_sell_X0_hang : GoodIn wsX5_sell wsX0_hang := goodIn_r _ [28, 20, 9, 10, 11, 31, 32, 33, 34, 35, 36, 37, 38, 39, 40, 41, 42] (by decide +kernel) (by decide +kernel)
set_option maxRecDepth 20000 in
theorem gX5_sell_X0_hang : GoodIn wsX5_sell (wsV RX5 73 RX0 yX0_hang wsX0_hang) := goodIn_app (goodIn_of _ (by decide +kernel)) ggX5_sell_X0_hang
theorem dX5_sell_0 : decode cX5_sell 0 = .ok (.iload_n 1, 1) := by decide +kernel
theorem dX5_sell_1 : decode cX5_sell 1 = .ok (.bipush 10, 2) := by decide +kernel
theorem dX5_sell_3 : decode cX5_sell 3 = .ok (.invokestatic 19, 3) := by decide +kernel
theorem dX5_sell_6 : decode cX5_sell 6 = .ok (.ifCond .eq 11, 3) := by decide +kernel
theorem dX5_sell_9 : decode cX5_sell 9 = .ok (.iload_n 2, 1) := by decide +kernel
theorem dX5_sell_10 : decode cX5_sell 10 = .ok (.iconst 3, 1) := by decide +kernel
theorem dX5_sell_11 : decode cX5_sell 11 = .ok (.invokestatic 19, 3) := by decide +kernel
theorem dX5_sell_14 : decode cX5_sell 14 = .ok (.ifCond .ne 13, 3) := by decide +kernel
theorem dX5_sell_17 : decode cX5_sell 17 = .ok (.new 23, 3) := by decide +kernel
theorem dX5_sell_20 : decode cX5_sell 20 = .ok (.dup, 1) := by decide +kernel
theorem dX5_sell_21 : decode cX5_sell 21 = .ok (.ldc 60, 2) := by decide +kernel
theorem dX5_sell_23 : decode cX5_sell 23 = .ok (.invokespecial 27, 3) := by decide +kernel
theorem dX5_sell_26 : decode cX5_sell 26 = .ok (.athrow, 1) := by decide +kernel
theorem dX5_sell_27 : decode cX5_sell 27 = .ok (.iload_n 3, 1) := by decide +kernel
theorem dX5_sell_28 : decode cX5_sell 28 = .ok (.bipush 9, 2) := by decide +kernel
theorem dX5_sell_30 : decode cX5_sell 30 = .ok (.invokestatic 30, 3) := by decide +kernel
theorem dX5_sell_33 : decode cX5_sell 33 = .ok (.ifCond .ne 13, 3) := by decide +kernel
theorem dX5_sell_36 : decode cX5_sell 36 = .ok (.new 33, 3) := by decide +kernel
theorem dX5_sell_39 : decode cX5_sell 39 = .ok (.dup, 1) := by decide +kernel
theorem dX5_sell_40 : decode cX5_sell 40 = .ok (.ldc 62, 2) := by decide +kernel
theorem dX5_sell_42 : decode cX5_sell 42 = .ok (.invokespecial 37, 3) := by decide +kernel
theorem dX5_sell_45 : decode cX5_sell 45 = .ok (.athrow, 1) := by decide +kernel
theorem dX5_sell_46 : decode cX5_sell 46 = .ok (.iload_n 3, 1) := by decide +kernel
theorem dX5_sell_47 : decode cX5_sell 47 = .ok (.bipush 24, 2) := by decide +kernel
theorem dX5_sell_49 : decode cX5_sell 49 = .ok (.imul, 1) := by decide +kernel
theorem dX5_sell_50 : decode cX5_sell 50 = .ok (.istore 4, 2) := by decide +kernel
theorem dX5_sell_52 : decode cX5_sell 52 = .ok (.aload_n 0, 1) := by decide +kernel
theorem dX5_sell_53 : decode cX5_sell 53 = .ok (.getfield 10, 3) := by decide +kernel
theorem dX5_sell_56 : decode cX5_sell 56 = .ok (.iload_n 1, 1) := by decide +kernel
theorem dX5_sell_57 : decode cX5_sell 57 = .ok (.iload_n 2, 1) := by decide +kernel
theorem dX5_sell_58 : decode cX5_sell 58 = .ok (.invokevirtual 64, 3) := by decide +kernel
theorem dX5_sell_61 : decode cX5_sell 61 = .ok (.iload 4, 2) := by decide +kernel
theorem dX5_sell_63 : decode cX5_sell 63 = .ok (.if_icmp .ge 13, 3) := by decide +kernel
theorem dX5_sell_66 : decode cX5_sell 66 = .ok (.new 46, 3) := by decide +kernel
theorem dX5_sell_69 : decode cX5_sell 69 = .ok (.dup, 1) := by decide +kernel
theorem dX5_sell_70 : decode cX5_sell 70 = .ok (.ldc 67, 2) := by decide +kernel
theorem dX5_sell_72 : decode cX5_sell 72 = .ok (.invokespecial 50, 3) := by decide +kernel
theorem dX5_sell_75 : decode cX5_sell 75 = .ok (.athrow, 1) := by decide +kernel
theorem dX5_sell_76 : decode cX5_sell 76 = .ok (.iload_n 3, 1) := by decide +kernel
theorem dX5_sell_77 : decode cX5_sell 77 = .ok (.iload_n 2, 1) := by decide +kernel
theorem dX5_sell_78 : decode cX5_sell 78 = .ok (.invokestatic 69, 3) := by decide +kernel
theorem dX5_sell_81 : decode cX5_sell 81 = .ok (.imul, 1) := by decide +kernel
theorem dX5_sell_82 : decode cX5_sell 82 = .ok (.istore 5, 2) := by decide +kernel
theorem dX5_sell_84 : decode cX5_sell 84 = .ok (.aload_n 0, 1) := by decide +kernel
theorem dX5_sell_85 : decode cX5_sell 85 = .ok (.getfield 10, 3) := by decide +kernel
theorem dX5_sell_88 : decode cX5_sell 88 = .ok (.iload_n 1, 1) := by decide +kernel
theorem dX5_sell_89 : decode cX5_sell 89 = .ok (.iload_n 2, 1) := by decide +kernel
theorem dX5_sell_90 : decode cX5_sell 90 = .ok (.iload 4, 2) := by decide +kernel
theorem dX5_sell_92 : decode cX5_sell 92 = .ok (.ineg, 1) := by decide +kernel
theorem dX5_sell_93 : decode cX5_sell 93 = .ok (.invokevirtual 73, 3) := by decide +kernel
theorem dX5_sell_96 : decode cX5_sell 96 = .ok (.aload_n 0, 1) := by decide +kernel
theorem dX5_sell_97 : decode cX5_sell 97 = .ok (.getfield 10, 3) := by decide +kernel
theorem dX5_sell_100 : decode cX5_sell 100 = .ok (.dup, 1) := by decide +kernel
theorem dX5_sell_101 : decode cX5_sell 101 = .ok (.getfield 42, 3) := by decide +kernel
theorem dX5_sell_104 : decode cX5_sell 104 = .ok (.iload 5, 2) := by decide +kernel
theorem dX5_sell_106 : decode cX5_sell 106 = .ok (.iadd, 1) := by decide +kernel
theorem dX5_sell_107 : decode cX5_sell 107 = .ok (.putfield 42, 3) := by decide +kernel
theorem dX5_sell_110 : decode cX5_sell 110 = .ok (.iload 5, 2) := by decide +kernel
theorem dX5_sell_112 : decode cX5_sell 112 = .ok (.ireturn, 1) := by decide +kernel
set_option maxRecDepth 20000 in
theorem ggX5_fill_X5_isBelow : GoodIn wsX5_fill wsX5_isBelow := goodIn_r _ [11] (by decide +kernel) (by decide +kernel)
set_option maxRecDepth 20000 in
theorem gX5_fill_X5_isBelow : GoodIn wsX5_fill (va_wsS RX5 19 yX5_isBelow wsX5_isBelow) := goodIn_app (goodIn_of _ (by decide +kernel)) ggX5_fill_X5_isBelow
set_option maxRecDepth 20000 in
theorem ggX5_fill_X5_isFrom1To : GoodIn wsX5_fill wsX5_isFrom1To := goodIn_r _ [14] (by decide +kernel) (by decide +kernel)
set_option maxRecDepth 20000 in
theorem gX5_fill_X5_isFrom1To : GoodIn wsX5_fill (va_wsS RX5 30 yX5_isFrom1To wsX5_isFrom1To) := goodIn_app (goodIn_of _ (by decide +kernel)) ggX5_fill_X5_isFrom1To
set_option maxRecDepth 20000 in
theorem ggX5_fill_X4_pulpOf : GoodIn wsX5_fill wsX4_pulpOf := goodIn_r _ [19, 20, 9, 10, 11, 41, 42, 43] (by decide +kernel) (by decide +kernel)
set_option maxRecDepth 20000 in
theorem gX5_fill_X4_pulpOf : GoodIn wsX5_fill (wsV RX5 85 RX4 yX4_pulpOf wsX4_pulpOf) := goodIn_app (goodIn_of _ (by decide +kernel)) ggX5_fill_X4_pulpOf
set_option maxRecDepth 20000 in
theorem ggX5_fill_X4_charge : GoodIn wsX5_fill wsX4_charge := goodIn_r _ [24, 20, 25, 26, 9, 10, 11, 41, 42, 43] (by decide +kernel) (by decide +kernel)
set_option maxRecDepth 20000 in
theorem gX5_fill_X4_charge : GoodIn wsX5_fill (wsV RX5 97 RX4 yX4_charge wsX4_charge) := goodIn_app (goodIn_of _ (by decide +kernel)) ggX5_fill_X4_charge
theorem dX5_fill_0 : decode cX5_fill 0 = .ok (.iload_n 1, 1) := by decide +kernel
theorem dX5_fill_1 : decode cX5_fill 1 = .ok (.iconst 4, 1) := by decide +kernel
theorem dX5_fill_2 : decode cX5_fill 2 = .ok (.invokestatic 19, 3) := by decide +kernel
theorem dX5_fill_5 : decode cX5_fill 5 = .ok (.ifCond .eq 11, 3) := by decide +kernel
theorem dX5_fill_8 : decode cX5_fill 8 = .ok (.iload_n 2, 1) := by decide +kernel
theorem dX5_fill_9 : decode cX5_fill 9 = .ok (.iconst 3, 1) := by decide +kernel
theorem dX5_fill_10 : decode cX5_fill 10 = .ok (.invokestatic 19, 3) := by decide +kernel
theorem dX5_fill_13 : decode cX5_fill 13 = .ok (.ifCond .ne 13, 3) := by decide +kernel
theorem dX5_fill_16 : decode cX5_fill 16 = .ok (.new 23, 3) := by decide +kernel
theorem dX5_fill_19 : decode cX5_fill 19 = .ok (.dup, 1) := by decide +kernel
theorem dX5_fill_20 : decode cX5_fill 20 = .ok (.ldc 77, 2) := by decide +kernel
theorem dX5_fill_22 : decode cX5_fill 22 = .ok (.invokespecial 27, 3) := by decide +kernel
theorem dX5_fill_25 : decode cX5_fill 25 = .ok (.athrow, 1) := by decide +kernel
theorem dX5_fill_26 : decode cX5_fill 26 = .ok (.iload_n 3, 1) := by decide +kernel
theorem dX5_fill_27 : decode cX5_fill 27 = .ok (.bipush 40, 2) := by decide +kernel
theorem dX5_fill_29 : decode cX5_fill 29 = .ok (.invokestatic 30, 3) := by decide +kernel
theorem dX5_fill_32 : decode cX5_fill 32 = .ok (.ifCond .ne 13, 3) := by decide +kernel
theorem dX5_fill_35 : decode cX5_fill 35 = .ok (.new 33, 3) := by decide +kernel
theorem dX5_fill_38 : decode cX5_fill 38 = .ok (.dup, 1) := by decide +kernel
theorem dX5_fill_39 : decode cX5_fill 39 = .ok (.ldc 79, 2) := by decide +kernel
theorem dX5_fill_41 : decode cX5_fill 41 = .ok (.invokespecial 37, 3) := by decide +kernel
theorem dX5_fill_44 : decode cX5_fill 44 = .ok (.athrow, 1) := by decide +kernel
theorem dX5_fill_45 : decode cX5_fill 45 = .ok (.aload_n 0, 1) := by decide +kernel
theorem dX5_fill_46 : decode cX5_fill 46 = .ok (.getfield 10, 3) := by decide +kernel
theorem dX5_fill_49 : decode cX5_fill 49 = .ok (.getfield 81, 3) := by decide +kernel
theorem dX5_fill_52 : decode cX5_fill 52 = .ok (.iload_n 1, 1) := by decide +kernel
theorem dX5_fill_53 : decode cX5_fill 53 = .ok (.invokevirtual 85, 3) := by decide +kernel
theorem dX5_fill_56 : decode cX5_fill 56 = .ok (.ifCond .le 13, 3) := by decide +kernel
theorem dX5_fill_59 : decode cX5_fill 59 = .ok (.new 46, 3) := by decide +kernel
theorem dX5_fill_62 : decode cX5_fill 62 = .ok (.dup, 1) := by decide +kernel
theorem dX5_fill_63 : decode cX5_fill 63 = .ok (.ldc 90, 2) := by decide +kernel
theorem dX5_fill_65 : decode cX5_fill 65 = .ok (.invokespecial 50, 3) := by decide +kernel
theorem dX5_fill_68 : decode cX5_fill 68 = .ok (.athrow, 1) := by decide +kernel
theorem dX5_fill_69 : decode cX5_fill 69 = .ok (.aload_n 0, 1) := by decide +kernel
theorem dX5_fill_70 : decode cX5_fill 70 = .ok (.getfield 10, 3) := by decide +kernel
theorem dX5_fill_73 : decode cX5_fill 73 = .ok (.getfield 92, 3) := by decide +kernel
theorem dX5_fill_76 : decode cX5_fill 76 = .ok (.iload_n 2, 1) := by decide +kernel
theorem dX5_fill_77 : decode cX5_fill 77 = .ok (.iaload, 1) := by decide +kernel
theorem dX5_fill_78 : decode cX5_fill 78 = .ok (.iload_n 3, 1) := by decide +kernel
theorem dX5_fill_79 : decode cX5_fill 79 = .ok (.if_icmp .ge 13, 3) := by decide +kernel
theorem dX5_fill_82 : decode cX5_fill 82 = .ok (.new 46, 3) := by decide +kernel
theorem dX5_fill_85 : decode cX5_fill 85 = .ok (.dup, 1) := by decide +kernel
theorem dX5_fill_86 : decode cX5_fill 86 = .ok (.ldc 95, 2) := by decide +kernel
theorem dX5_fill_88 : decode cX5_fill 88 = .ok (.invokespecial 50, 3) := by decide +kernel
theorem dX5_fill_91 : decode cX5_fill 91 = .ok (.athrow, 1) := by decide +kernel
theorem dX5_fill_92 : decode cX5_fill 92 = .ok (.aload_n 0, 1) := by decide +kernel
theorem dX5_fill_93 : decode cX5_fill 93 = .ok (.getfield 10, 3) := by decide +kernel
theorem dX5_fill_96 : decode cX5_fill 96 = .ok (.getfield 92, 3) := by decide +kernel
theorem dX5_fill_99 : decode cX5_fill 99 = .ok (.iload_n 2, 1) := by decide +kernel
theorem dX5_fill_100 : decode cX5_fill 100 = .ok (.dup2, 1) := by decide +kernel
theorem dX5_fill_101 : decode cX5_fill 101 = .ok (.iaload, 1) := by decide +kernel
theorem dX5_fill_102 : decode cX5_fill 102 = .ok (.iload_n 3, 1) := by decide +kernel
theorem dX5_fill_103 : decode cX5_fill 103 = .ok (.isub, 1) := by decide +kernel
theorem dX5_fill_104 : decode cX5_fill 104 = .ok (.iastore, 1) := by decide +kernel
theorem dX5_fill_105 : decode cX5_fill 105 = .ok (.aload_n 0, 1) := by decide +kernel
theorem dX5_fill_106 : decode cX5_fill 106 = .ok (.getfield 10, 3) := by decide +kernel
theorem dX5_fill_109 : decode cX5_fill 109 = .ok (.getfield 81, 3) := by decide +kernel
theorem dX5_fill_112 : decode cX5_fill 112 = .ok (.iload_n 1, 1) := by decide +kernel
theorem dX5_fill_113 : decode cX5_fill 113 = .ok (.iload_n 2, 1) := by decide +kernel
theorem dX5_fill_114 : decode cX5_fill 114 = .ok (.iload_n 3, 1) := by decide +kernel
theorem dX5_fill_115 : decode cX5_fill 115 = .ok (.invokevirtual 97, 3) := by decide +kernel
theorem dX5_fill_118 : decode cX5_fill 118 = .ok (.aload_n 0, 1) := by decide +kernel
theorem dX5_fill_119 : decode cX5_fill 119 = .ok (.getfield 10, 3) := by decide +kernel
theorem dX5_fill_122 : decode cX5_fill 122 = .ok (.getfield 92, 3) := by decide +kernel
theorem dX5_fill_125 : decode cX5_fill 125 = .ok (.iload_n 2, 1) := by decide +kernel
theorem dX5_fill_126 : decode cX5_fill 126 = .ok (.iaload, 1) := by decide +kernel
theorem dX5_fill_127 : decode cX5_fill 127 = .ok (.ireturn, 1) := by decide +kernel
set_option maxRecDepth 20000 in
theorem ggX5_drain_X5_isBelow : GoodIn wsX5_drain wsX5_isBelow := goodIn_r _ [9] (by decide +kernel) (by decide +kernel)
set_option maxRecDepth 20000 in
theorem gX5_drain_X5_isBelow : GoodIn wsX5_drain (va_wsS RX5 19 yX5_isBelow wsX5_isBelow) := goodIn_app (goodIn_of _ (by decide +kernel)) ggX5_drain_X5_isBelow
set_option maxRecDepth 20000 in
theorem ggX5_drain_X4_pulpOf : GoodIn wsX5_drain wsX4_pulpOf := goodIn_r _ [14, 15, 7, 8, 9, 40, 41, 42] (by decide +kernel) (by decide +kernel)
set_option maxRecDepth 20000 in
theorem gX5_drain_X4_pulpOf : GoodIn wsX5_drain (wsV RX5 85 RX4 yX4_pulpOf wsX4_pulpOf) := goodIn_app (goodIn_of _ (by decide +kernel)) ggX5_drain_X4_pulpOf
set_option maxRecDepth 20000 in
theorem ggX5_drain_X4_takeOut : GoodIn wsX5_drain wsX4_takeOut := goodIn_r _ [19, 15, 7, 8, 9, 20, 21, 22, 13, 23, 24, 25, 40, 41, 42] (by decide +kernel) (by decide +kernel)
set_option maxRecDepth 20000 in
theorem gX5_drain_X4_takeOut : GoodIn wsX5_drain (wsV RX5 104 RX4 yX4_takeOut wsX4_takeOut) := goodIn_app (goodIn_of _ (by decide +kernel)) ggX5_drain_X4_takeOut
theorem dX5_drain_0 : decode cX5_drain 0 = .ok (.iload_n 1, 1) := by decide +kernel
theorem dX5_drain_1 : decode cX5_drain 1 = .ok (.iconst 4, 1) := by decide +kernel
theorem dX5_drain_2 : decode cX5_drain 2 = .ok (.invokestatic 19, 3) := by decide +kernel
theorem dX5_drain_5 : decode cX5_drain 5 = .ok (.ifCond .ne 13, 3) := by decide +kernel
theorem dX5_drain_8 : decode cX5_drain 8 = .ok (.new 23, 3) := by decide +kernel
theorem dX5_drain_11 : decode cX5_drain 11 = .ok (.dup, 1) := by decide +kernel
theorem dX5_drain_12 : decode cX5_drain 12 = .ok (.ldc 100, 2) := by decide +kernel
theorem dX5_drain_14 : decode cX5_drain 14 = .ok (.invokespecial 27, 3) := by decide +kernel
theorem dX5_drain_17 : decode cX5_drain 17 = .ok (.athrow, 1) := by decide +kernel
theorem dX5_drain_18 : decode cX5_drain 18 = .ok (.aload_n 0, 1) := by decide +kernel
theorem dX5_drain_19 : decode cX5_drain 19 = .ok (.getfield 10, 3) := by decide +kernel
theorem dX5_drain_22 : decode cX5_drain 22 = .ok (.getfield 81, 3) := by decide +kernel
theorem dX5_drain_25 : decode cX5_drain 25 = .ok (.iload_n 1, 1) := by decide +kernel
theorem dX5_drain_26 : decode cX5_drain 26 = .ok (.invokevirtual 85, 3) := by decide +kernel
theorem dX5_drain_29 : decode cX5_drain 29 = .ok (.istore_n 2, 1) := by decide +kernel
theorem dX5_drain_30 : decode cX5_drain 30 = .ok (.iload_n 2, 1) := by decide +kernel
theorem dX5_drain_31 : decode cX5_drain 31 = .ok (.ifCond .ne 13, 3) := by decide +kernel
theorem dX5_drain_34 : decode cX5_drain 34 = .ok (.new 46, 3) := by decide +kernel
theorem dX5_drain_37 : decode cX5_drain 37 = .ok (.dup, 1) := by decide +kernel
theorem dX5_drain_38 : decode cX5_drain 38 = .ok (.ldc 102, 2) := by decide +kernel
theorem dX5_drain_40 : decode cX5_drain 40 = .ok (.invokespecial 50, 3) := by decide +kernel
theorem dX5_drain_43 : decode cX5_drain 43 = .ok (.athrow, 1) := by decide +kernel
theorem dX5_drain_44 : decode cX5_drain 44 = .ok (.aload_n 0, 1) := by decide +kernel
theorem dX5_drain_45 : decode cX5_drain 45 = .ok (.getfield 10, 3) := by decide +kernel
theorem dX5_drain_48 : decode cX5_drain 48 = .ok (.getfield 81, 3) := by decide +kernel
theorem dX5_drain_51 : decode cX5_drain 51 = .ok (.iload_n 1, 1) := by decide +kernel
theorem dX5_drain_52 : decode cX5_drain 52 = .ok (.iload_n 2, 1) := by decide +kernel
theorem dX5_drain_53 : decode cX5_drain 53 = .ok (.invokevirtual 104, 3) := by decide +kernel
theorem dX5_drain_56 : decode cX5_drain 56 = .ok (.iload_n 2, 1) := by decide +kernel
theorem dX5_drain_57 : decode cX5_drain 57 = .ok (.ireturn, 1) := by decide +kernel
set_option maxRecDepth 20000 in
theorem ggX5_pair_X5_isBelow : GoodIn wsX5_pair wsX5_isBelow := goodIn_r _ [11] (by decide +kernel) (by decide +kernel)
set_option maxRecDepth 20000 in
theorem gX5_pair_X5_isBelow : GoodIn wsX5_pair (va_wsS RX5 19 yX5_isBelow wsX5_isBelow) := goodIn_app (goodIn_of _ (by decide +kernel)) ggX5_pair_X5_isBelow
set_option maxRecDepth 20000 in
theorem ggX5_pair_X5_isFrom1To : GoodIn wsX5_pair wsX5_isFrom1To := goodIn_r _ [14] (by decide +kernel) (by decide +kernel)
set_option maxRecDepth 20000 in
theorem gX5_pair_X5_isFrom1To : GoodIn wsX5_pair (va_wsS RX5 30 yX5_isFrom1To wsX5_isFrom1To) := goodIn_app (goodIn_of _ (by decide +kernel)) ggX5_pair_X5_isFrom1To
set_option maxRecDepth 20000 in
theorem ggX5_pair_X1_add : GoodIn wsX5_pair wsX1_add := goodIn_r _ [19, 20, 21, 22, 23, 38, 39, 40, 41] (by decide +kernel) (by decide +kernel)
set_option maxRecDepth 20000 in
theorem gX5_pair_X1_add : GoodIn wsX5_pair (wsV RX5 123 RX1 yX1_add wsX1_add) := goodIn_app (goodIn_of _ (by decide +kernel)) ggX5_pair_X1_add
theorem dX5_pair_0 : decode cX5_pair 0 = .ok (.iload_n 1, 1) := by decide +kernel
theorem dX5_pair_1 : decode cX5_pair 1 = .ok (.bipush 10, 2) := by decide +kernel
theorem dX5_pair_3 : decode cX5_pair 3 = .ok (.invokestatic 19, 3) := by decide +kernel
theorem dX5_pair_6 : decode cX5_pair 6 = .ok (.ifCond .ne 13, 3) := by decide +kernel
theorem dX5_pair_9 : decode cX5_pair 9 = .ok (.new 23, 3) := by decide +kernel
theorem dX5_pair_12 : decode cX5_pair 12 = .ok (.dup, 1) := by decide +kernel
theorem dX5_pair_13 : decode cX5_pair 13 = .ok (.ldc 108, 2) := by decide +kernel
theorem dX5_pair_15 : decode cX5_pair 15 = .ok (.invokespecial 27, 3) := by decide +kernel
theorem dX5_pair_18 : decode cX5_pair 18 = .ok (.athrow, 1) := by decide +kernel
theorem dX5_pair_19 : decode cX5_pair 19 = .ok (.iload_n 2, 1) := by decide +kernel
theorem dX5_pair_20 : decode cX5_pair 20 = .ok (.iconst 3, 1) := by decide +kernel
theorem dX5_pair_21 : decode cX5_pair 21 = .ok (.invokestatic 30, 3) := by decide +kernel
theorem dX5_pair_24 : decode cX5_pair 24 = .ok (.ifCond .ne 13, 3) := by decide +kernel
theorem dX5_pair_27 : decode cX5_pair 27 = .ok (.new 33, 3) := by decide +kernel
theorem dX5_pair_30 : decode cX5_pair 30 = .ok (.dup, 1) := by decide +kernel
theorem dX5_pair_31 : decode cX5_pair 31 = .ok (.ldc 110, 2) := by decide +kernel
theorem dX5_pair_33 : decode cX5_pair 33 = .ok (.invokespecial 37, 3) := by decide +kernel
theorem dX5_pair_36 : decode cX5_pair 36 = .ok (.athrow, 1) := by decide +kernel
theorem dX5_pair_37 : decode cX5_pair 37 = .ok (.aload_n 0, 1) := by decide +kernel
theorem dX5_pair_38 : decode cX5_pair 38 = .ok (.getfield 10, 3) := by decide +kernel
theorem dX5_pair_41 : decode cX5_pair 41 = .ok (.getfield 112, 3) := by decide +kernel
theorem dX5_pair_44 : decode cX5_pair 44 = .ok (.getfield 116, 3) := by decide +kernel
theorem dX5_pair_47 : decode cX5_pair 47 = .ok (.iconst 5, 1) := by decide +kernel
theorem dX5_pair_48 : decode cX5_pair 48 = .ok (.if_icmp .lt 13, 3) := by decide +kernel
theorem dX5_pair_51 : decode cX5_pair 51 = .ok (.new 46, 3) := by decide +kernel
theorem dX5_pair_54 : decode cX5_pair 54 = .ok (.dup, 1) := by decide +kernel
theorem dX5_pair_55 : decode cX5_pair 55 = .ok (.ldc 121, 2) := by decide +kernel
theorem dX5_pair_57 : decode cX5_pair 57 = .ok (.invokespecial 50, 3) := by decide +kernel
theorem dX5_pair_60 : decode cX5_pair 60 = .ok (.athrow, 1) := by decide +kernel
theorem dX5_pair_61 : decode cX5_pair 61 = .ok (.aload_n 0, 1) := by decide +kernel
theorem dX5_pair_62 : decode cX5_pair 62 = .ok (.getfield 10, 3) := by decide +kernel
theorem dX5_pair_65 : decode cX5_pair 65 = .ok (.getfield 112, 3) := by decide +kernel
theorem dX5_pair_68 : decode cX5_pair 68 = .ok (.iload_n 1, 1) := by decide +kernel
theorem dX5_pair_69 : decode cX5_pair 69 = .ok (.iload_n 2, 1) := by decide +kernel
theorem dX5_pair_70 : decode cX5_pair 70 = .ok (.invokevirtual 123, 3) := by decide +kernel
theorem dX5_pair_73 : decode cX5_pair 73 = .ok (.ireturn, 1) := by decide +kernel
set_option maxRecDepth 20000 in
theorem ggX5_wire_X1_has : GoodIn wsX5_wire wsX1_has := goodIn_r _ [10, 11, 36, 37, 38, 39] (by decide +kernel) (by decide +kernel)
set_option maxRecDepth 20000 in
theorem gX5_wire_X1_has : GoodIn wsX5_wire (wsV RX5 126 RX1 yX1_has wsX1_has) := goodIn_app (goodIn_of _ (by decide +kernel)) ggX5_wire_X1_has
set_option maxRecDepth 20000 in
theorem ggX5_wire_X1_wornOf : GoodIn wsX5_wire wsX1_wornOf := goodIn_r _ [15, 16, 17, 7, 8, 9, 10, 11, 36, 37, 38, 39] (by decide +kernel) (by decide +kernel)
set_option maxRecDepth 20000 in
theorem gX5_wire_X1_wornOf : GoodIn wsX5_wire (wsV RX5 132 RX1 yX1_wornOf wsX1_wornOf) := goodIn_app (goodIn_of _ (by decide +kernel)) ggX5_wire_X1_wornOf
set_option maxRecDepth 20000 in
theorem ggX5_wire_X1_makeNew : GoodIn wsX5_wire wsX1_makeNew := goodIn_r _ [21, 16, 17, 7, 8, 9, 10, 11, 36, 37, 38, 39] (by decide +kernel) (by decide +kernel)
set_option maxRecDepth 20000 in
theorem gX5_wire_X1_makeNew : GoodIn wsX5_wire (wsV RX5 137 RX1 yX1_makeNew wsX1_makeNew) := goodIn_app (goodIn_of _ (by decide +kernel)) ggX5_wire_X1_makeNew
theorem dX5_wire_0 : decode cX5_wire 0 = .ok (.aload_n 0, 1) := by decide +kernel
theorem dX5_wire_1 : decode cX5_wire 1 = .ok (.getfield 10, 3) := by decide +kernel
theorem dX5_wire_4 : decode cX5_wire 4 = .ok (.getfield 112, 3) := by decide +kernel
theorem dX5_wire_7 : decode cX5_wire 7 = .ok (.iload_n 1, 1) := by decide +kernel
theorem dX5_wire_8 : decode cX5_wire 8 = .ok (.invokevirtual 126, 3) := by decide +kernel
theorem dX5_wire_11 : decode cX5_wire 11 = .ok (.ifCond .ne 13, 3) := by decide +kernel
theorem dX5_wire_14 : decode cX5_wire 14 = .ok (.new 23, 3) := by decide +kernel
theorem dX5_wire_17 : decode cX5_wire 17 = .ok (.dup, 1) := by decide +kernel
theorem dX5_wire_18 : decode cX5_wire 18 = .ok (.ldc 130, 2) := by decide +kernel
theorem dX5_wire_20 : decode cX5_wire 20 = .ok (.invokespecial 27, 3) := by decide +kernel
theorem dX5_wire_23 : decode cX5_wire 23 = .ok (.athrow, 1) := by decide +kernel
theorem dX5_wire_24 : decode cX5_wire 24 = .ok (.aload_n 0, 1) := by decide +kernel
theorem dX5_wire_25 : decode cX5_wire 25 = .ok (.getfield 10, 3) := by decide +kernel
theorem dX5_wire_28 : decode cX5_wire 28 = .ok (.getfield 112, 3) := by decide +kernel
theorem dX5_wire_31 : decode cX5_wire 31 = .ok (.iload_n 1, 1) := by decide +kernel
theorem dX5_wire_32 : decode cX5_wire 32 = .ok (.invokevirtual 132, 3) := by decide +kernel
theorem dX5_wire_35 : decode cX5_wire 35 = .ok (.istore_n 2, 1) := by decide +kernel
theorem dX5_wire_36 : decode cX5_wire 36 = .ok (.iload_n 2, 1) := by decide +kernel
theorem dX5_wire_37 : decode cX5_wire 37 = .ok (.ifCond .ne 13, 3) := by decide +kernel
theorem dX5_wire_40 : decode cX5_wire 40 = .ok (.new 46, 3) := by decide +kernel
theorem dX5_wire_43 : decode cX5_wire 43 = .ok (.dup, 1) := by decide +kernel
theorem dX5_wire_44 : decode cX5_wire 44 = .ok (.ldc 135, 2) := by decide +kernel
theorem dX5_wire_46 : decode cX5_wire 46 = .ok (.invokespecial 50, 3) := by decide +kernel
theorem dX5_wire_49 : decode cX5_wire 49 = .ok (.athrow, 1) := by decide +kernel
theorem dX5_wire_50 : decode cX5_wire 50 = .ok (.aload_n 0, 1) := by decide +kernel
theorem dX5_wire_51 : decode cX5_wire 51 = .ok (.getfield 10, 3) := by decide +kernel
theorem dX5_wire_54 : decode cX5_wire 54 = .ok (.getfield 42, 3) := by decide +kernel
theorem dX5_wire_57 : decode cX5_wire 57 = .ok (.iconst 5, 1) := by decide +kernel
theorem dX5_wire_58 : decode cX5_wire 58 = .ok (.if_icmp .ge 13, 3) := by decide +kernel
theorem dX5_wire_61 : decode cX5_wire 61 = .ok (.new 46, 3) := by decide +kernel
theorem dX5_wire_64 : decode cX5_wire 64 = .ok (.dup, 1) := by decide +kernel
theorem dX5_wire_65 : decode cX5_wire 65 = .ok (.ldc 48, 2) := by decide +kernel
theorem dX5_wire_67 : decode cX5_wire 67 = .ok (.invokespecial 50, 3) := by decide +kernel
theorem dX5_wire_70 : decode cX5_wire 70 = .ok (.athrow, 1) := by decide +kernel
theorem dX5_wire_71 : decode cX5_wire 71 = .ok (.aload_n 0, 1) := by decide +kernel
theorem dX5_wire_72 : decode cX5_wire 72 = .ok (.getfield 10, 3) := by decide +kernel
theorem dX5_wire_75 : decode cX5_wire 75 = .ok (.dup, 1) := by decide +kernel
theorem dX5_wire_76 : decode cX5_wire 76 = .ok (.getfield 42, 3) := by decide +kernel
theorem dX5_wire_79 : decode cX5_wire 79 = .ok (.iconst 5, 1) := by decide +kernel
theorem dX5_wire_80 : decode cX5_wire 80 = .ok (.isub, 1) := by decide +kernel
theorem dX5_wire_81 : decode cX5_wire 81 = .ok (.putfield 42, 3) := by decide +kernel
theorem dX5_wire_84 : decode cX5_wire 84 = .ok (.aload_n 0, 1) := by decide +kernel
theorem dX5_wire_85 : decode cX5_wire 85 = .ok (.getfield 10, 3) := by decide +kernel
theorem dX5_wire_88 : decode cX5_wire 88 = .ok (.getfield 112, 3) := by decide +kernel
theorem dX5_wire_91 : decode cX5_wire 91 = .ok (.iload_n 1, 1) := by decide +kernel
theorem dX5_wire_92 : decode cX5_wire 92 = .ok (.invokevirtual 137, 3) := by decide +kernel
theorem dX5_wire_95 : decode cX5_wire 95 = .ok (.iload_n 2, 1) := by decide +kernel
theorem dX5_wire_96 : decode cX5_wire 96 = .ok (.ireturn, 1) := by decide +kernel
set_option maxRecDepth 20000 in
theorem ggX5_team_X5_isFrom1To : GoodIn wsX5_team wsX5_isFrom1To := goodIn_r _ [9] (by decide +kernel) (by decide +kernel)
set_option maxRecDepth 20000 in
theorem gX5_team_X5_isFrom1To : GoodIn wsX5_team (va_wsS RX5 30 yX5_isFrom1To wsX5_isFrom1To) := goodIn_app (goodIn_of _ (by decide +kernel)) ggX5_team_X5_isFrom1To
set_option maxRecDepth 20000 in
theorem ggX5_team_X3_add : GoodIn wsX5_team wsX3_add := goodIn_r _ [14, 15, 16, 17, 18, 33, 34, 35, 36] (by decide +kernel) (by decide +kernel)
set_option maxRecDepth 20000 in
theorem gX5_team_X3_add : GoodIn wsX5_team (wsV RX5 152 RX3 yX3_add wsX3_add) := goodIn_app (goodIn_of _ (by decide +kernel)) ggX5_team_X3_add
theorem dX5_team_0 : decode cX5_team 0 = .ok (.iload_n 1, 1) := by decide +kernel
theorem dX5_team_1 : decode cX5_team 1 = .ok (.bipush 12, 2) := by decide +kernel
theorem dX5_team_3 : decode cX5_team 3 = .ok (.invokestatic 30, 3) := by decide +kernel
theorem dX5_team_6 : decode cX5_team 6 = .ok (.ifCond .ne 13, 3) := by decide +kernel
theorem dX5_team_9 : decode cX5_team 9 = .ok (.new 33, 3) := by decide +kernel
theorem dX5_team_12 : decode cX5_team 12 = .ok (.dup, 1) := by decide +kernel
theorem dX5_team_13 : decode cX5_team 13 = .ok (.ldc 141, 2) := by decide +kernel
theorem dX5_team_15 : decode cX5_team 15 = .ok (.invokespecial 37, 3) := by decide +kernel
theorem dX5_team_18 : decode cX5_team 18 = .ok (.athrow, 1) := by decide +kernel
theorem dX5_team_19 : decode cX5_team 19 = .ok (.aload_n 0, 1) := by decide +kernel
theorem dX5_team_20 : decode cX5_team 20 = .ok (.getfield 10, 3) := by decide +kernel
theorem dX5_team_23 : decode cX5_team 23 = .ok (.getfield 143, 3) := by decide +kernel
theorem dX5_team_26 : decode cX5_team 26 = .ok (.getfield 147, 3) := by decide +kernel
theorem dX5_team_29 : decode cX5_team 29 = .ok (.iconst 3, 1) := by decide +kernel
theorem dX5_team_30 : decode cX5_team 30 = .ok (.if_icmp .lt 13, 3) := by decide +kernel
theorem dX5_team_33 : decode cX5_team 33 = .ok (.new 46, 3) := by decide +kernel
theorem dX5_team_36 : decode cX5_team 36 = .ok (.dup, 1) := by decide +kernel
theorem dX5_team_37 : decode cX5_team 37 = .ok (.ldc 150, 2) := by decide +kernel
theorem dX5_team_39 : decode cX5_team 39 = .ok (.invokespecial 50, 3) := by decide +kernel
theorem dX5_team_42 : decode cX5_team 42 = .ok (.athrow, 1) := by decide +kernel
theorem dX5_team_43 : decode cX5_team 43 = .ok (.aload_n 0, 1) := by decide +kernel
theorem dX5_team_44 : decode cX5_team 44 = .ok (.getfield 10, 3) := by decide +kernel
theorem dX5_team_47 : decode cX5_team 47 = .ok (.getfield 143, 3) := by decide +kernel
theorem dX5_team_50 : decode cX5_team 50 = .ok (.iload_n 1, 1) := by decide +kernel
theorem dX5_team_51 : decode cX5_team 51 = .ok (.invokevirtual 152, 3) := by decide +kernel
theorem dX5_team_54 : decode cX5_team 54 = .ok (.ireturn, 1) := by decide +kernel
set_option maxRecDepth 20000 in
theorem ggX5_place_X3_has : GoodIn wsX5_place wsX3_has := goodIn_r _ [10, 11, 96, 97, 98, 99] (by decide +kernel) (by decide +kernel)
set_option maxRecDepth 20000 in
theorem gX5_place_X3_has : GoodIn wsX5_place (wsV RX5 154 RX3 yX3_has wsX3_has) := goodIn_app (goodIn_of _ (by decide +kernel)) ggX5_place_X3_has
set_option maxRecDepth 20000 in
theorem ggX5_place_X5_isBelow : GoodIn wsX5_place wsX5_isBelow := goodIn_r _ [15] (by decide +kernel) (by decide +kernel)
set_option maxRecDepth 20000 in
theorem gX5_place_X5_isBelow : GoodIn wsX5_place (va_wsS RX5 19 yX5_isBelow wsX5_isBelow) := goodIn_app (goodIn_of _ (by decide +kernel)) ggX5_place_X5_isBelow
set_option maxRecDepth 20000 in
theorem ggX5_place_X1_has : GoodIn wsX5_place wsX1_has := goodIn_r _ [20, 21, 100, 101, 102, 103] (by decide +kernel) (by decide +kernel)
set_option maxRecDepth 20000 in
theorem gX5_place_X1_has : GoodIn wsX5_place (wsV RX5 126 RX1 yX1_has wsX1_has) := goodIn_app (goodIn_of _ (by decide +kernel)) ggX5_place_X1_has
set_option maxRecDepth 20000 in
theorem ggX5_place_X3_holderOf : GoodIn wsX5_place wsX3_holderOf := goodIn_r _ [25, 11, 26, 27, 28, 9, 29, 30, 31, 7, 8, 10, 96, 97, 98, 99] (by decide +kernel) (by decide +kernel)
set_option maxRecDepth 20000 in
theorem gX5_place_X3_holderOf : GoodIn wsX5_place (wsV RX5 157 RX3 yX3_holderOf wsX3_holderOf) := goodIn_app (goodIn_of _ (by decide +kernel)) ggX5_place_X3_holderOf
set_option maxRecDepth 20000 in
theorem ggX5_place_X3_send : GoodIn wsX5_place wsX3_send := goodIn_r _ [35, 36, 30, 31, 7, 8, 9, 10, 11, 96, 97, 98, 99] (by decide +kernel) (by decide +kernel)
set_option maxRecDepth 20000 in
theorem gX5_place_X3_send : GoodIn wsX5_place (wsV RX5 162 RX3 yX3_send wsX3_send) := goodIn_app (goodIn_of _ (by decide +kernel)) ggX5_place_X3_send
set_option maxRecDepth 20000 in
theorem ggX5_place_X0_sheetsOf : GoodIn wsX5_place wsX0_sheetsOf := goodIn_r _ [41, 42, 43, 44, 45, 46, 47, 48, 49, 50, 51, 9, 52, 36, 31, 7, 8, 10, 11, 53, 27, 28, 29, 30, 54, 55, 56, 57, 58, 59, 13, 14, 15, 60, 61, 62, 19, 63, 64, 65, 17, 18, 20, 21, 66, 67, 68, 69, 70, 71, 72, 73, 40, 74, 75, 76, 77, 78, 79, 80, 81, 84, 85, 86, 87, 88, 89, 90, 91, 92, 93, 94, 95, 96, 97, 98, 99, 104, 105, 106, 100, 101, 102, 103, 107, 108, 109, 110, 111] (by decide +kernel) (by decide +kernel)
set_option maxRecDepth 20000 in
theorem gX5_place_X0_sheetsOf : GoodIn wsX5_place (wsV RX5 165 RX0 yX0_sheetsOf wsX0_sheetsOf) := goodIn_app (goodIn_of _ (by decide +kernel)) ggX5_place_X0_sheetsOf
theorem dX5_place_0 : decode cX5_place 0 = .ok (.aload_n 0, 1) := by decide +kernel
theorem dX5_place_1 : decode cX5_place 1 = .ok (.getfield 10, 3) := by decide +kernel
theorem dX5_place_4 : decode cX5_place 4 = .ok (.getfield 143, 3) := by decide +kernel
theorem dX5_place_7 : decode cX5_place 7 = .ok (.iload_n 1, 1) := by decide +kernel
theorem dX5_place_8 : decode cX5_place 8 = .ok (.invokevirtual 154, 3) := by decide +kernel
theorem dX5_place_11 : decode cX5_place 11 = .ok (.ifCond .ne 13, 3) := by decide +kernel
theorem dX5_place_14 : decode cX5_place 14 = .ok (.new 23, 3) := by decide +kernel
theorem dX5_place_17 : decode cX5_place 17 = .ok (.dup, 1) := by decide +kernel
theorem dX5_place_18 : decode cX5_place 18 = .ok (.ldc 155, 2) := by decide +kernel
theorem dX5_place_20 : decode cX5_place 20 = .ok (.invokespecial 27, 3) := by decide +kernel
theorem dX5_place_23 : decode cX5_place 23 = .ok (.athrow, 1) := by decide +kernel
theorem dX5_place_24 : decode cX5_place 24 = .ok (.iload_n 2, 1) := by decide +kernel
theorem dX5_place_25 : decode cX5_place 25 = .ok (.iconst (-1), 1) := by decide +kernel
theorem dX5_place_26 : decode cX5_place 26 = .ok (.if_icmp .eq 21, 3) := by decide +kernel
theorem dX5_place_29 : decode cX5_place 29 = .ok (.iload_n 2, 1) := by decide +kernel
theorem dX5_place_30 : decode cX5_place 30 = .ok (.iconst 4, 1) := by decide +kernel
theorem dX5_place_31 : decode cX5_place 31 = .ok (.invokestatic 19, 3) := by decide +kernel
theorem dX5_place_34 : decode cX5_place 34 = .ok (.ifCond .ne 13, 3) := by decide +kernel
theorem dX5_place_37 : decode cX5_place 37 = .ok (.new 23, 3) := by decide +kernel
theorem dX5_place_40 : decode cX5_place 40 = .ok (.dup, 1) := by decide +kernel
theorem dX5_place_41 : decode cX5_place 41 = .ok (.ldc 100, 2) := by decide +kernel
theorem dX5_place_43 : decode cX5_place 43 = .ok (.invokespecial 27, 3) := by decide +kernel
theorem dX5_place_46 : decode cX5_place 46 = .ok (.athrow, 1) := by decide +kernel
theorem dX5_place_47 : decode cX5_place 47 = .ok (.iload_n 3, 1) := by decide +kernel
theorem dX5_place_48 : decode cX5_place 48 = .ok (.iconst (-1), 1) := by decide +kernel
theorem dX5_place_49 : decode cX5_place 49 = .ok (.if_icmp .eq 27, 3) := by decide +kernel
theorem dX5_place_52 : decode cX5_place 52 = .ok (.aload_n 0, 1) := by decide +kernel
theorem dX5_place_53 : decode cX5_place 53 = .ok (.getfield 10, 3) := by decide +kernel
theorem dX5_place_56 : decode cX5_place 56 = .ok (.getfield 112, 3) := by decide +kernel
theorem dX5_place_59 : decode cX5_place 59 = .ok (.iload_n 3, 1) := by decide +kernel
theorem dX5_place_60 : decode cX5_place 60 = .ok (.invokevirtual 126, 3) := by decide +kernel
theorem dX5_place_63 : decode cX5_place 63 = .ok (.ifCond .ne 13, 3) := by decide +kernel
theorem dX5_place_66 : decode cX5_place 66 = .ok (.new 23, 3) := by decide +kernel
theorem dX5_place_69 : decode cX5_place 69 = .ok (.dup, 1) := by decide +kernel
theorem dX5_place_70 : decode cX5_place 70 = .ok (.ldc 130, 2) := by decide +kernel
theorem dX5_place_72 : decode cX5_place 72 = .ok (.invokespecial 27, 3) := by decide +kernel
theorem dX5_place_75 : decode cX5_place 75 = .ok (.athrow, 1) := by decide +kernel
theorem dX5_place_76 : decode cX5_place 76 = .ok (.aload_n 0, 1) := by decide +kernel
theorem dX5_place_77 : decode cX5_place 77 = .ok (.getfield 10, 3) := by decide +kernel
theorem dX5_place_80 : decode cX5_place 80 = .ok (.getfield 143, 3) := by decide +kernel
theorem dX5_place_83 : decode cX5_place 83 = .ok (.iload_n 3, 1) := by decide +kernel
theorem dX5_place_84 : decode cX5_place 84 = .ok (.invokevirtual 157, 3) := by decide +kernel
theorem dX5_place_87 : decode cX5_place 87 = .ok (.istore 4, 2) := by decide +kernel
theorem dX5_place_89 : decode cX5_place 89 = .ok (.iload 4, 2) := by decide +kernel
theorem dX5_place_91 : decode cX5_place 91 = .ok (.iconst (-1), 1) := by decide +kernel
theorem dX5_place_92 : decode cX5_place 92 = .ok (.if_icmp .eq 19, 3) := by decide +kernel
theorem dX5_place_95 : decode cX5_place 95 = .ok (.iload 4, 2) := by decide +kernel
theorem dX5_place_97 : decode cX5_place 97 = .ok (.iload_n 1, 1) := by decide +kernel
theorem dX5_place_98 : decode cX5_place 98 = .ok (.if_icmp .eq 13, 3) := by decide +kernel
theorem dX5_place_101 : decode cX5_place 101 = .ok (.new 46, 3) := by decide +kernel
theorem dX5_place_104 : decode cX5_place 104 = .ok (.dup, 1) := by decide +kernel
theorem dX5_place_105 : decode cX5_place 105 = .ok (.ldc 160, 2) := by decide +kernel
theorem dX5_place_107 : decode cX5_place 107 = .ok (.invokespecial 50, 3) := by decide +kernel
theorem dX5_place_110 : decode cX5_place 110 = .ok (.athrow, 1) := by decide +kernel
theorem dX5_place_111 : decode cX5_place 111 = .ok (.aload_n 0, 1) := by decide +kernel
theorem dX5_place_112 : decode cX5_place 112 = .ok (.getfield 10, 3) := by decide +kernel
theorem dX5_place_115 : decode cX5_place 115 = .ok (.getfield 143, 3) := by decide +kernel
theorem dX5_place_118 : decode cX5_place 118 = .ok (.iload_n 1, 1) := by decide +kernel
theorem dX5_place_119 : decode cX5_place 119 = .ok (.iload_n 2, 1) := by decide +kernel
theorem dX5_place_120 : decode cX5_place 120 = .ok (.iload_n 3, 1) := by decide +kernel
theorem dX5_place_121 : decode cX5_place 121 = .ok (.invokevirtual 162, 3) := by decide +kernel
theorem dX5_place_124 : decode cX5_place 124 = .ok (.aload_n 0, 1) := by decide +kernel
theorem dX5_place_125 : decode cX5_place 125 = .ok (.getfield 10, 3) := by decide +kernel
theorem dX5_place_128 : decode cX5_place 128 = .ok (.iload_n 1, 1) := by decide +kernel
theorem dX5_place_129 : decode cX5_place 129 = .ok (.invokevirtual 165, 3) := by decide +kernel
theorem dX5_place_132 : decode cX5_place 132 = .ok (.ireturn, 1) := by decide +kernel
set_option maxRecDepth 20000 in
theorem ggX5_setWater_X5_isBelow : GoodIn wsX5_setWater wsX5_isBelow := goodIn_r _ [9] (by decide +kernel) (by decide +kernel)
set_option maxRecDepth 20000 in
theorem gX5_setWater_X5_isBelow : GoodIn wsX5_setWater (va_wsS RX5 19 yX5_isBelow wsX5_isBelow) := goodIn_app (goodIn_of _ (by decide +kernel)) ggX5_setWater_X5_isBelow
theorem dX5_setWater_0 : decode cX5_setWater 0 = .ok (.iload_n 1, 1) := by decide +kernel
theorem dX5_setWater_1 : decode cX5_setWater 1 = .ok (.bipush 7, 2) := by decide +kernel
theorem dX5_setWater_3 : decode cX5_setWater 3 = .ok (.invokestatic 19, 3) := by decide +kernel
theorem dX5_setWater_6 : decode cX5_setWater 6 = .ok (.ifCond .ne 13, 3) := by decide +kernel
theorem dX5_setWater_9 : decode cX5_setWater 9 = .ok (.new 23, 3) := by decide +kernel
theorem dX5_setWater_12 : decode cX5_setWater 12 = .ok (.dup, 1) := by decide +kernel
theorem dX5_setWater_13 : decode cX5_setWater 13 = .ok (.ldc 168, 2) := by decide +kernel
theorem dX5_setWater_15 : decode cX5_setWater 15 = .ok (.invokespecial 27, 3) := by decide +kernel
theorem dX5_setWater_18 : decode cX5_setWater 18 = .ok (.athrow, 1) := by decide +kernel
theorem dX5_setWater_19 : decode cX5_setWater 19 = .ok (.iload_n 2, 1) := by decide +kernel
theorem dX5_setWater_20 : decode cX5_setWater 20 = .ok (.ifCond .lt 9, 3) := by decide +kernel
theorem dX5_setWater_23 : decode cX5_setWater 23 = .ok (.iload_n 2, 1) := by decide +kernel
theorem dX5_setWater_24 : decode cX5_setWater 24 = .ok (.bipush 9, 2) := by decide +kernel
theorem dX5_setWater_26 : decode cX5_setWater 26 = .ok (.if_icmp .le 13, 3) := by decide +kernel
theorem dX5_setWater_29 : decode cX5_setWater 29 = .ok (.new 33, 3) := by decide +kernel
theorem dX5_setWater_32 : decode cX5_setWater 32 = .ok (.dup, 1) := by decide +kernel
theorem dX5_setWater_33 : decode cX5_setWater 33 = .ok (.ldc 170, 2) := by decide +kernel
theorem dX5_setWater_35 : decode cX5_setWater 35 = .ok (.invokespecial 37, 3) := by decide +kernel
theorem dX5_setWater_38 : decode cX5_setWater 38 = .ok (.athrow, 1) := by decide +kernel
theorem dX5_setWater_39 : decode cX5_setWater 39 = .ok (.aload_n 0, 1) := by decide +kernel
theorem dX5_setWater_40 : decode cX5_setWater 40 = .ok (.getfield 10, 3) := by decide +kernel
theorem dX5_setWater_43 : decode cX5_setWater 43 = .ok (.getfield 172, 3) := by decide +kernel
theorem dX5_setWater_46 : decode cX5_setWater 46 = .ok (.iload_n 1, 1) := by decide +kernel
theorem dX5_setWater_47 : decode cX5_setWater 47 = .ok (.iaload, 1) := by decide +kernel
theorem dX5_setWater_48 : decode cX5_setWater 48 = .ok (.istore_n 3, 1) := by decide +kernel
theorem dX5_setWater_49 : decode cX5_setWater 49 = .ok (.aload_n 0, 1) := by decide +kernel
theorem dX5_setWater_50 : decode cX5_setWater 50 = .ok (.getfield 10, 3) := by decide +kernel
theorem dX5_setWater_53 : decode cX5_setWater 53 = .ok (.getfield 172, 3) := by decide +kernel
theorem dX5_setWater_56 : decode cX5_setWater 56 = .ok (.iload_n 1, 1) := by decide +kernel
theorem dX5_setWater_57 : decode cX5_setWater 57 = .ok (.iload_n 2, 1) := by decide +kernel
theorem dX5_setWater_58 : decode cX5_setWater 58 = .ok (.iastore, 1) := by decide +kernel
theorem dX5_setWater_59 : decode cX5_setWater 59 = .ok (.iload_n 3, 1) := by decide +kernel
theorem dX5_setWater_60 : decode cX5_setWater 60 = .ok (.ireturn, 1) := by decide +kernel
set_option maxRecDepth 20000 in
theorem ggX5_about_X5_isBelow : GoodIn wsX5_about wsX5_isBelow := goodIn_r _ [7] (by decide +kernel) (by decide +kernel)
set_option maxRecDepth 20000 in
theorem gX5_about_X5_isBelow : GoodIn wsX5_about (va_wsS RX5 19 yX5_isBelow wsX5_isBelow) := goodIn_app (goodIn_of _ (by decide +kernel)) ggX5_about_X5_isBelow
set_option maxRecDepth 20000 in
theorem ggX5_about_X4_tell : GoodIn wsX5_about wsX4_tell := goodIn_r _ [12, 13, 14, 15, 11, 16, 17, 5, 6, 7, 18, 19, 20, 21, 22, 23, 24, 25, 26, 27, 42, 43, 44] (by decide +kernel) (by decide +kernel)
set_option maxRecDepth 20000 in
theorem gX5_about_X4_tell : GoodIn wsX5_about (wsV RX5 177 RX4 yX4_tell wsX4_tell) := goodIn_app (goodIn_of _ (by decide +kernel)) ggX5_about_X4_tell
theorem dX5_about_0 : decode cX5_about 0 = .ok (.iload_n 1, 1) := by decide +kernel
theorem dX5_about_1 : decode cX5_about 1 = .ok (.iconst 4, 1) := by decide +kernel
theorem dX5_about_2 : decode cX5_about 2 = .ok (.invokestatic 19, 3) := by decide +kernel
theorem dX5_about_5 : decode cX5_about 5 = .ok (.ifCond .eq 11, 3) := by decide +kernel
theorem dX5_about_8 : decode cX5_about 8 = .ok (.iload_n 2, 1) := by decide +kernel
theorem dX5_about_9 : decode cX5_about 9 = .ok (.iconst 3, 1) := by decide +kernel
theorem dX5_about_10 : decode cX5_about 10 = .ok (.invokestatic 19, 3) := by decide +kernel
theorem dX5_about_13 : decode cX5_about 13 = .ok (.ifCond .ne 13, 3) := by decide +kernel
theorem dX5_about_16 : decode cX5_about 16 = .ok (.new 23, 3) := by decide +kernel
theorem dX5_about_19 : decode cX5_about 19 = .ok (.dup, 1) := by decide +kernel
theorem dX5_about_20 : decode cX5_about 20 = .ok (.ldc 175, 2) := by decide +kernel
theorem dX5_about_22 : decode cX5_about 22 = .ok (.invokespecial 27, 3) := by decide +kernel
theorem dX5_about_25 : decode cX5_about 25 = .ok (.athrow, 1) := by decide +kernel
theorem dX5_about_26 : decode cX5_about 26 = .ok (.aload_n 0, 1) := by decide +kernel
theorem dX5_about_27 : decode cX5_about 27 = .ok (.getfield 10, 3) := by decide +kernel
theorem dX5_about_30 : decode cX5_about 30 = .ok (.getfield 81, 3) := by decide +kernel
theorem dX5_about_33 : decode cX5_about 33 = .ok (.iload_n 1, 1) := by decide +kernel
theorem dX5_about_34 : decode cX5_about 34 = .ok (.iload_n 2, 1) := by decide +kernel
theorem dX5_about_35 : decode cX5_about 35 = .ok (.invokevirtual 177, 3) := by decide +kernel
theorem dX5_about_38 : decode cX5_about 38 = .ok (.ireturn, 1) := by decide +kernel
set_option maxRecDepth 20000 in
theorem ggX5_mould_X1_has : GoodIn wsX5_mould wsX1_has := goodIn_r _ [8, 9, 66, 67, 68, 69] (by decide +kernel) (by decide +kernel)
set_option maxRecDepth 20000 in
theorem gX5_mould_X1_has : GoodIn wsX5_mould (wsV RX5 126 RX1 yX1_has wsX1_has) := goodIn_app (goodIn_of _ (by decide +kernel)) ggX5_mould_X1_has
set_option maxRecDepth 20000 in
theorem ggX5_mould_X5_isBelow : GoodIn wsX5_mould wsX5_isBelow := goodIn_r _ [13] (by decide +kernel) (by decide +kernel)
set_option maxRecDepth 20000 in
theorem gX5_mould_X5_isBelow : GoodIn wsX5_mould (va_wsS RX5 19 yX5_isBelow wsX5_isBelow) := goodIn_app (goodIn_of _ (by decide +kernel)) ggX5_mould_X5_isBelow
set_option maxRecDepth 20000 in
theorem ggX5_mould_X0_tellPair : GoodIn wsX5_mould wsX0_tellPair := goodIn_r _ [18, 19, 20, 21, 22, 23, 7, 24, 25, 26, 5, 6, 8, 9, 27, 28, 29, 30, 31, 32, 33, 34, 35, 36, 37, 38, 39, 40, 41, 42, 43, 44, 45, 46, 47, 48, 49, 50, 51, 54, 55, 56, 57, 58, 59, 60, 61, 62, 63, 64, 65, 66, 67, 68, 69, 70, 71, 72, 73] (by decide +kernel) (by decide +kernel)
set_option maxRecDepth 20000 in
theorem gX5_mould_X0_tellPair : GoodIn wsX5_mould (wsV RX5 182 RX0 yX0_tellPair wsX0_tellPair) := goodIn_app (goodIn_of _ (by decide +kernel)) ggX5_mould_X0_tellPair
theorem dX5_mould_0 : decode cX5_mould 0 = .ok (.aload_n 0, 1) := by decide +kernel
theorem dX5_mould_1 : decode cX5_mould 1 = .ok (.getfield 10, 3) := by decide +kernel
theorem dX5_mould_4 : decode cX5_mould 4 = .ok (.getfield 112, 3) := by decide +kernel
theorem dX5_mould_7 : decode cX5_mould 7 = .ok (.iload_n 1, 1) := by decide +kernel
theorem dX5_mould_8 : decode cX5_mould 8 = .ok (.invokevirtual 126, 3) := by decide +kernel
theorem dX5_mould_11 : decode cX5_mould 11 = .ok (.ifCond .eq 11, 3) := by decide +kernel
theorem dX5_mould_14 : decode cX5_mould 14 = .ok (.iload_n 2, 1) := by decide +kernel
theorem dX5_mould_15 : decode cX5_mould 15 = .ok (.iconst 4, 1) := by decide +kernel
theorem dX5_mould_16 : decode cX5_mould 16 = .ok (.invokestatic 19, 3) := by decide +kernel
theorem dX5_mould_19 : decode cX5_mould 19 = .ok (.ifCond .ne 13, 3) := by decide +kernel
theorem dX5_mould_22 : decode cX5_mould 22 = .ok (.new 23, 3) := by decide +kernel
theorem dX5_mould_25 : decode cX5_mould 25 = .ok (.dup, 1) := by decide +kernel
theorem dX5_mould_26 : decode cX5_mould 26 = .ok (.ldc 180, 2) := by decide +kernel
theorem dX5_mould_28 : decode cX5_mould 28 = .ok (.invokespecial 27, 3) := by decide +kernel
theorem dX5_mould_31 : decode cX5_mould 31 = .ok (.athrow, 1) := by decide +kernel
theorem dX5_mould_32 : decode cX5_mould 32 = .ok (.aload_n 0, 1) := by decide +kernel
theorem dX5_mould_33 : decode cX5_mould 33 = .ok (.getfield 10, 3) := by decide +kernel
theorem dX5_mould_36 : decode cX5_mould 36 = .ok (.iload_n 1, 1) := by decide +kernel
theorem dX5_mould_37 : decode cX5_mould 37 = .ok (.iload_n 2, 1) := by decide +kernel
theorem dX5_mould_38 : decode cX5_mould 38 = .ok (.invokevirtual 182, 3) := by decide +kernel
theorem dX5_mould_41 : decode cX5_mould 41 = .ok (.ireturn, 1) := by decide +kernel
set_option maxRecDepth 20000 in
theorem ggX5_told_X3_has : GoodIn wsX5_told wsX3_has := goodIn_r _ [8, 9, 88, 89, 90, 91] (by decide +kernel) (by decide +kernel)
set_option maxRecDepth 20000 in
theorem gX5_told_X3_has : GoodIn wsX5_told (wsV RX5 154 RX3 yX3_has wsX3_has) := goodIn_app (goodIn_of _ (by decide +kernel)) ggX5_told_X3_has
set_option maxRecDepth 20000 in
theorem ggX5_told_X5_isBelow : GoodIn wsX5_told wsX5_isBelow := goodIn_r _ [13] (by decide +kernel) (by decide +kernel)
set_option maxRecDepth 20000 in
theorem gX5_told_X5_isBelow : GoodIn wsX5_told (va_wsS RX5 19 yX5_isBelow wsX5_isBelow) := goodIn_app (goodIn_of _ (by decide +kernel)) ggX5_told_X5_isBelow
set_option maxRecDepth 20000 in
theorem ggX5_told_X0_tellTeam : GoodIn wsX5_told wsX0_tellTeam := goodIn_r _ [18, 19, 20, 21, 22, 7, 23, 24, 25, 5, 6, 8, 9, 26, 27, 28, 29, 30, 31, 32, 33, 34, 35, 36, 37, 38, 17, 39, 40, 41, 42, 43, 44, 45, 46, 47, 48, 49, 50, 51, 11, 12, 13, 52, 53, 54, 55, 56, 57, 58, 59, 60, 61, 62, 63, 64, 65, 66, 67, 68, 69, 70, 71, 72, 73, 76, 77, 78, 79, 80, 81, 82, 83, 84, 85, 86, 87, 88, 89, 90, 91, 92, 93, 94, 95, 96, 97, 98, 99, 100, 101, 102, 103] (by decide +kernel) (by decide +kernel)
set_option maxRecDepth 20000 in
theorem gX5_told_X0_tellTeam : GoodIn wsX5_told (wsV RX5 187 RX0 yX0_tellTeam wsX0_tellTeam) := goodIn_app (goodIn_of _ (by decide +kernel)) ggX5_told_X0_tellTeam
theorem dX5_told_0 : decode cX5_told 0 = .ok (.aload_n 0, 1) := by decide +kernel
theorem dX5_told_1 : decode cX5_told 1 = .ok (.getfield 10, 3) := by decide +kernel
theorem dX5_told_4 : decode cX5_told 4 = .ok (.getfield 143, 3) := by decide +kernel
theorem dX5_told_7 : decode cX5_told 7 = .ok (.iload_n 1, 1) := by decide +kernel
theorem dX5_told_8 : decode cX5_told 8 = .ok (.invokevirtual 154, 3) := by decide +kernel
theorem dX5_told_11 : decode cX5_told 11 = .ok (.ifCond .eq 11, 3) := by decide +kernel
theorem dX5_told_14 : decode cX5_told 14 = .ok (.iload_n 2, 1) := by decide +kernel
theorem dX5_told_15 : decode cX5_told 15 = .ok (.iconst 4, 1) := by decide +kernel
theorem dX5_told_16 : decode cX5_told 16 = .ok (.invokestatic 19, 3) := by decide +kernel
theorem dX5_told_19 : decode cX5_told 19 = .ok (.ifCond .ne 13, 3) := by decide +kernel
theorem dX5_told_22 : decode cX5_told 22 = .ok (.new 23, 3) := by decide +kernel
theorem dX5_told_25 : decode cX5_told 25 = .ok (.dup, 1) := by decide +kernel
theorem dX5_told_26 : decode cX5_told 26 = .ok (.ldc 185, 2) := by decide +kernel
theorem dX5_told_28 : decode cX5_told 28 = .ok (.invokespecial 27, 3) := by decide +kernel
theorem dX5_told_31 : decode cX5_told 31 = .ok (.athrow, 1) := by decide +kernel
theorem dX5_told_32 : decode cX5_told 32 = .ok (.aload_n 0, 1) := by decide +kernel
theorem dX5_told_33 : decode cX5_told 33 = .ok (.getfield 10, 3) := by decide +kernel
theorem dX5_told_36 : decode cX5_told 36 = .ok (.iload_n 1, 1) := by decide +kernel
theorem dX5_told_37 : decode cX5_told 37 = .ok (.iload_n 2, 1) := by decide +kernel
theorem dX5_told_38 : decode cX5_told 38 = .ok (.invokevirtual 187, 3) := by decide +kernel
theorem dX5_told_41 : decode cX5_told 41 = .ok (.ireturn, 1) := by decide +kernel
set_option maxRecDepth 20000 in
theorem ggX5_post_X2_has : GoodIn wsX5_post wsX2_has := goodIn_r _ [8, 9, 48, 49, 50, 51, 52] (by decide +kernel) (by decide +kernel)
set_option maxRecDepth 20000 in
theorem gX5_post_X2_has : GoodIn wsX5_post (wsV RX5 194 RX2 yX2_has wsX2_has) := goodIn_app (goodIn_of _ (by decide +kernel)) ggX5_post_X2_has
set_option maxRecDepth 20000 in
theorem ggX5_post_X5_isBelow : GoodIn wsX5_post wsX5_isBelow := goodIn_r _ [13] (by decide +kernel) (by decide +kernel)
set_option maxRecDepth 20000 in
theorem gX5_post_X5_isBelow : GoodIn wsX5_post (va_wsS RX5 19 yX5_isBelow wsX5_isBelow) := goodIn_app (goodIn_of _ (by decide +kernel)) ggX5_post_X5_isBelow
set_option maxRecDepth 20000 in
theorem ggX5_post_X2_tell : GoodIn wsX5_post wsX2_tell := goodIn_r _ [17, 18, 19, 20, 7, 21, 22, 23, 5, 6, 8, 9, 24, 25, 26, 27, 28, 29, 30, 31, 32, 33, 48, 49, 50, 51, 52] (by decide +kernel) (by decide +kernel)
set_option maxRecDepth 20000 in
theorem gX5_post_X2_tell : GoodIn wsX5_post (wsV RX5 199 RX2 yX2_tell wsX2_tell) := goodIn_app (goodIn_of _ (by decide +kernel)) ggX5_post_X2_tell
theorem dX5_post_0 : decode cX5_post 0 = .ok (.aload_n 0, 1) := by decide +kernel
theorem dX5_post_1 : decode cX5_post 1 = .ok (.getfield 10, 3) := by decide +kernel
theorem dX5_post_4 : decode cX5_post 4 = .ok (.getfield 190, 3) := by decide +kernel
theorem dX5_post_7 : decode cX5_post 7 = .ok (.iload_n 1, 1) := by decide +kernel
theorem dX5_post_8 : decode cX5_post 8 = .ok (.invokevirtual 194, 3) := by decide +kernel
theorem dX5_post_11 : decode cX5_post 11 = .ok (.ifCond .eq 11, 3) := by decide +kernel
theorem dX5_post_14 : decode cX5_post 14 = .ok (.iload_n 2, 1) := by decide +kernel
theorem dX5_post_15 : decode cX5_post 15 = .ok (.iconst 3, 1) := by decide +kernel
theorem dX5_post_16 : decode cX5_post 16 = .ok (.invokestatic 19, 3) := by decide +kernel
theorem dX5_post_19 : decode cX5_post 19 = .ok (.ifCond .ne 13, 3) := by decide +kernel
theorem dX5_post_22 : decode cX5_post 22 = .ok (.new 23, 3) := by decide +kernel
theorem dX5_post_25 : decode cX5_post 25 = .ok (.dup, 1) := by decide +kernel
theorem dX5_post_26 : decode cX5_post 26 = .ok (.ldc 197, 2) := by decide +kernel
theorem dX5_post_28 : decode cX5_post 28 = .ok (.invokespecial 27, 3) := by decide +kernel
theorem dX5_post_31 : decode cX5_post 31 = .ok (.athrow, 1) := by decide +kernel
theorem dX5_post_32 : decode cX5_post 32 = .ok (.aload_n 0, 1) := by decide +kernel
theorem dX5_post_33 : decode cX5_post 33 = .ok (.getfield 10, 3) := by decide +kernel
theorem dX5_post_36 : decode cX5_post 36 = .ok (.getfield 190, 3) := by decide +kernel
theorem dX5_post_39 : decode cX5_post 39 = .ok (.iload_n 1, 1) := by decide +kernel
theorem dX5_post_40 : decode cX5_post 40 = .ok (.iload_n 2, 1) := by decide +kernel
theorem dX5_post_41 : decode cX5_post 41 = .ok (.invokevirtual 199, 3) := by decide +kernel
theorem dX5_post_44 : decode cX5_post 44 = .ok (.ireturn, 1) := by decide +kernel
set_option maxRecDepth 20000 in
theorem ggX5_loft_X5_isBelow : GoodIn wsX5_loft wsX5_isBelow := goodIn_r _ [7] (by decide +kernel) (by decide +kernel)
set_option maxRecDepth 20000 in
theorem gX5_loft_X5_isBelow : GoodIn wsX5_loft (va_wsS RX5 19 yX5_isBelow wsX5_isBelow) := goodIn_app (goodIn_of _ (by decide +kernel)) ggX5_loft_X5_isBelow
set_option maxRecDepth 20000 in
theorem ggX5_loft_X0_hanging : GoodIn wsX5_loft wsX0_hanging := goodIn_r _ [12, 13, 5, 6, 7, 16, 17, 18, 19, 20, 21, 22, 23, 24, 25, 26, 27] (by decide +kernel) (by decide +kernel)
set_option maxRecDepth 20000 in
theorem gX5_loft_X0_hanging : GoodIn wsX5_loft (wsV RX5 64 RX0 yX0_hanging wsX0_hanging) := goodIn_app (goodIn_of _ (by decide +kernel)) ggX5_loft_X0_hanging
theorem dX5_loft_0 : decode cX5_loft 0 = .ok (.iload_n 1, 1) := by decide +kernel
theorem dX5_loft_1 : decode cX5_loft 1 = .ok (.bipush 10, 2) := by decide +kernel
theorem dX5_loft_3 : decode cX5_loft 3 = .ok (.invokestatic 19, 3) := by decide +kernel
theorem dX5_loft_6 : decode cX5_loft 6 = .ok (.ifCond .eq 11, 3) := by decide +kernel
theorem dX5_loft_9 : decode cX5_loft 9 = .ok (.iload_n 2, 1) := by decide +kernel
theorem dX5_loft_10 : decode cX5_loft 10 = .ok (.iconst 3, 1) := by decide +kernel
theorem dX5_loft_11 : decode cX5_loft 11 = .ok (.invokestatic 19, 3) := by decide +kernel
theorem dX5_loft_14 : decode cX5_loft 14 = .ok (.ifCond .ne 13, 3) := by decide +kernel
theorem dX5_loft_17 : decode cX5_loft 17 = .ok (.new 23, 3) := by decide +kernel
theorem dX5_loft_20 : decode cX5_loft 20 = .ok (.dup, 1) := by decide +kernel
theorem dX5_loft_21 : decode cX5_loft 21 = .ok (.ldc 60, 2) := by decide +kernel
theorem dX5_loft_23 : decode cX5_loft 23 = .ok (.invokespecial 27, 3) := by decide +kernel
theorem dX5_loft_26 : decode cX5_loft 26 = .ok (.athrow, 1) := by decide +kernel
theorem dX5_loft_27 : decode cX5_loft 27 = .ok (.aload_n 0, 1) := by decide +kernel
theorem dX5_loft_28 : decode cX5_loft 28 = .ok (.getfield 10, 3) := by decide +kernel
theorem dX5_loft_31 : decode cX5_loft 31 = .ok (.iload_n 1, 1) := by decide +kernel
theorem dX5_loft_32 : decode cX5_loft 32 = .ok (.iload_n 2, 1) := by decide +kernel
theorem dX5_loft_33 : decode cX5_loft 33 = .ok (.invokevirtual 64, 3) := by decide +kernel
theorem dX5_loft_36 : decode cX5_loft 36 = .ok (.ireturn, 1) := by decide +kernel
set_option maxRecDepth 20000 in
theorem ggX5_count_X5_isBelow : GoodIn wsX5_count wsX5_isBelow := goodIn_r _ [7] (by decide +kernel) (by decide +kernel)
set_option maxRecDepth 20000 in
theorem gX5_count_X5_isBelow : GoodIn wsX5_count (va_wsS RX5 19 yX5_isBelow wsX5_isBelow) := goodIn_app (goodIn_of _ (by decide +kernel)) ggX5_count_X5_isBelow
set_option maxRecDepth 20000 in
theorem ggX5_count_X0_tell : GoodIn wsX5_count wsX0_tell := goodIn_r _ [12, 13, 14, 15, 16, 17, 18, 19, 20, 21, 22, 11, 23, 24, 25, 26, 27, 28, 29, 30, 31, 32, 33, 34, 35, 36, 37, 38, 39, 5, 6, 7, 42, 43, 44, 45, 46, 47, 48, 49, 50, 51, 52, 53, 54, 55, 56, 57, 58, 59, 60, 61] (by decide +kernel) (by decide +kernel)
set_option maxRecDepth 20000 in
theorem gX5_count_X0_tell : GoodIn wsX5_count (wsV RX5 202 RX0 yX0_tell wsX0_tell) := goodIn_app (goodIn_of _ (by decide +kernel)) ggX5_count_X0_tell
theorem dX5_count_0 : decode cX5_count 0 = .ok (.iload_n 1, 1) := by decide +kernel
theorem dX5_count_1 : decode cX5_count 1 = .ok (.bipush 12, 2) := by decide +kernel
theorem dX5_count_3 : decode cX5_count 3 = .ok (.invokestatic 19, 3) := by decide +kernel
theorem dX5_count_6 : decode cX5_count 6 = .ok (.ifCond .ne 13, 3) := by decide +kernel
theorem dX5_count_9 : decode cX5_count 9 = .ok (.new 23, 3) := by decide +kernel
theorem dX5_count_12 : decode cX5_count 12 = .ok (.dup, 1) := by decide +kernel
theorem dX5_count_13 : decode cX5_count 13 = .ok (.ldc 200, 2) := by decide +kernel
theorem dX5_count_15 : decode cX5_count 15 = .ok (.invokespecial 27, 3) := by decide +kernel
theorem dX5_count_18 : decode cX5_count 18 = .ok (.athrow, 1) := by decide +kernel
theorem dX5_count_19 : decode cX5_count 19 = .ok (.aload_n 0, 1) := by decide +kernel
theorem dX5_count_20 : decode cX5_count 20 = .ok (.getfield 10, 3) := by decide +kernel
theorem dX5_count_23 : decode cX5_count 23 = .ok (.iload_n 1, 1) := by decide +kernel
theorem dX5_count_24 : decode cX5_count 24 = .ok (.invokevirtual 202, 3) := by decide +kernel
theorem dX5_count_27 : decode cX5_count 27 = .ok (.ireturn, 1) := by decide +kernel
set_option maxRecDepth 20000 in
theorem ggX5_pass_X5_isFrom1To : GoodIn wsX5_pass wsX5_isFrom1To := goodIn_r _ [7] (by decide +kernel) (by decide +kernel)
set_option maxRecDepth 20000 in
theorem gX5_pass_X5_isFrom1To : GoodIn wsX5_pass (va_wsS RX5 30 yX5_isFrom1To wsX5_isFrom1To) := goodIn_app (goodIn_of _ (by decide +kernel)) ggX5_pass_X5_isFrom1To
set_option maxRecDepth 20000 in
theorem ggX5_pass_X0_liveDays : GoodIn wsX5_pass wsX0_liveDays := goodIn_r _ [12, 13, 14, 15, 11, 16, 17, 18, 19, 20, 21, 22, 23, 24, 25, 26, 27, 28, 29, 30, 31, 32, 33, 34, 35, 36, 37, 38, 39, 40, 41, 42, 43, 44, 45, 46, 47, 48, 49, 50, 51, 52, 53, 54, 55, 56, 57, 58, 59, 60, 61, 62, 63, 64, 65, 66, 67, 68, 69, 70, 71, 72, 73, 6, 74, 75, 76, 77, 78, 79, 80, 81, 82, 83, 84, 85, 86, 87, 88, 89, 90, 91, 92, 93, 94, 95, 96, 97, 98, 99, 100, 101, 102, 103, 104, 105, 106, 107, 108, 109, 110, 111, 112, 113, 114, 115, 116, 117, 118, 119, 120, 121, 122, 123, 124, 125, 126, 127, 128, 129, 130, 131, 132, 133, 134, 135, 136, 137, 138, 139, 140, 141, 142, 143, 144, 145, 146, 147, 148, 149, 150, 151, 152, 153, 154, 155, 156, 157, 158, 159, 160, 161, 162, 163, 164, 165, 166, 167, 168, 169, 170, 171, 172, 173, 174, 175, 176, 177, 178, 179, 180, 181, 184, 185, 186, 187, 188, 189, 190, 191, 192, 193, 194, 195, 196, 197, 198, 199, 200, 201, 202, 203, 204, 205, 206, 207, 208, 209, 210, 211] (by decide +kernel) (by decide +kernel)
set_option maxRecDepth 20000 in
theorem gX5_pass_X0_liveDays : GoodIn wsX5_pass (wsV RX5 209 RX0 yX0_liveDays wsX0_liveDays) := goodIn_app (goodIn_of _ (by decide +kernel)) ggX5_pass_X0_liveDays
theorem dX5_pass_0 : decode cX5_pass 0 = .ok (.iload_n 1, 1) := by decide +kernel
theorem dX5_pass_1 : decode cX5_pass 1 = .ok (.bipush 40, 2) := by decide +kernel
theorem dX5_pass_3 : decode cX5_pass 3 = .ok (.invokestatic 30, 3) := by decide +kernel
theorem dX5_pass_6 : decode cX5_pass 6 = .ok (.ifCond .ne 13, 3) := by decide +kernel
theorem dX5_pass_9 : decode cX5_pass 9 = .ok (.new 33, 3) := by decide +kernel
theorem dX5_pass_12 : decode cX5_pass 12 = .ok (.dup, 1) := by decide +kernel
theorem dX5_pass_13 : decode cX5_pass 13 = .ok (.ldc 204, 2) := by decide +kernel
theorem dX5_pass_15 : decode cX5_pass 15 = .ok (.invokespecial 37, 3) := by decide +kernel
theorem dX5_pass_18 : decode cX5_pass 18 = .ok (.athrow, 1) := by decide +kernel
theorem dX5_pass_19 : decode cX5_pass 19 = .ok (.aload_n 0, 1) := by decide +kernel
theorem dX5_pass_20 : decode cX5_pass 20 = .ok (.getfield 10, 3) := by decide +kernel
theorem dX5_pass_23 : decode cX5_pass 23 = .ok (.getfield 206, 3) := by decide +kernel
theorem dX5_pass_26 : decode cX5_pass 26 = .ok (.istore_n 2, 1) := by decide +kernel
theorem dX5_pass_27 : decode cX5_pass 27 = .ok (.aload_n 0, 1) := by decide +kernel
theorem dX5_pass_28 : decode cX5_pass 28 = .ok (.getfield 10, 3) := by decide +kernel
theorem dX5_pass_31 : decode cX5_pass 31 = .ok (.iload_n 1, 1) := by decide +kernel
theorem dX5_pass_32 : decode cX5_pass 32 = .ok (.invokevirtual 209, 3) := by decide +kernel
theorem dX5_pass_35 : decode cX5_pass 35 = .ok (.aload_n 0, 1) := by decide +kernel
theorem dX5_pass_36 : decode cX5_pass 36 = .ok (.getfield 10, 3) := by decide +kernel
theorem dX5_pass_39 : decode cX5_pass 39 = .ok (.getfield 206, 3) := by decide +kernel
theorem dX5_pass_42 : decode cX5_pass 42 = .ok (.iload_n 2, 1) := by decide +kernel
theorem dX5_pass_43 : decode cX5_pass 43 = .ok (.isub, 1) := by decide +kernel
theorem dX5_pass_44 : decode cX5_pass 44 = .ok (.ireturn, 1) := by decide +kernel
set_option maxRecDepth 20000 in
theorem ggX5_ripe_X5_isBelow : GoodIn wsX5_ripe wsX5_isBelow := goodIn_r _ [10] (by decide +kernel) (by decide +kernel)
set_option maxRecDepth 20000 in
theorem gX5_ripe_X5_isBelow : GoodIn wsX5_ripe (va_wsS RX5 19 yX5_isBelow wsX5_isBelow) := goodIn_app (goodIn_of _ (by decide +kernel)) ggX5_ripe_X5_isBelow
set_option maxRecDepth 20000 in
theorem ggX5_ripe_X5_isFrom1To : GoodIn wsX5_ripe wsX5_isFrom1To := goodIn_r _ [13] (by decide +kernel) (by decide +kernel)
set_option maxRecDepth 20000 in
theorem gX5_ripe_X5_isFrom1To : GoodIn wsX5_ripe (va_wsS RX5 30 yX5_isFrom1To wsX5_isFrom1To) := goodIn_app (goodIn_of _ (by decide +kernel)) ggX5_ripe_X5_isFrom1To
set_option maxRecDepth 20000 in
theorem ggX5_ripe_X0_becomeLike : GoodIn wsX5_ripe wsX0_becomeLike := goodIn_r _ [18, 19, 20, 21, 22, 23, 24, 25, 26, 27, 28, 29, 30, 31, 32, 33, 34, 35, 36, 37, 38, 39, 40, 41, 42, 43, 44, 45, 46, 47, 48, 49, 50, 51, 52, 53, 54, 55, 56, 57, 58, 59, 60, 61, 62, 63, 64, 65, 66, 67, 68, 69, 70, 71, 72, 73, 74, 214, 215, 216, 217, 218, 219, 220, 221, 222, 223, 224, 225, 226, 227, 228, 229, 230, 231, 232, 233, 234, 235, 236, 237, 238, 239, 240, 241] (by decide +kernel) (by decide +kernel)
set_option maxRecDepth 20000 in
theorem gX5_ripe_X0_becomeLike : GoodIn wsX5_ripe (wsV RX5 214 RX0 yX0_becomeLike wsX0_becomeLike) := goodIn_app (goodIn_of _ (by decide +kernel)) ggX5_ripe_X0_becomeLike
set_option maxRecDepth 20000 in
theorem ggX5_ripe_X4_beatOf : GoodIn wsX5_ripe wsX4_beatOf := goodIn_r _ [78, 42, 8, 9, 10, 226, 227, 228] (by decide +kernel) (by decide +kernel)
set_option maxRecDepth 20000 in
theorem gX5_ripe_X4_beatOf : GoodIn wsX5_ripe (wsV RX5 218 RX4 yX4_beatOf wsX4_beatOf) := goodIn_app (goodIn_of _ (by decide +kernel)) ggX5_ripe_X4_beatOf
set_option maxRecDepth 20000 in
theorem ggX5_ripe_X0_liveDay : GoodIn wsX5_ripe wsX0_liveDay := goodIn_r _ [82, 30, 29, 19, 32, 83, 84, 85, 86, 87, 88, 89, 38, 90, 40, 42, 91, 92, 93, 94, 95, 96, 97, 98, 99, 100, 101, 17, 102, 33, 31, 22, 23, 103, 104, 105, 106, 107, 108, 109, 110, 57, 111, 62, 112, 113, 114, 115, 59, 116, 117, 118, 119, 63, 120, 76, 77, 78, 8, 9, 10, 121, 122, 123, 47, 124, 52, 125, 126, 127, 128, 49, 129, 130, 131, 132, 60, 133, 134, 135, 136, 21, 137, 138, 139, 140, 141, 142, 143, 144, 145, 146, 147, 148, 43, 149, 150, 151, 152, 153, 154, 155, 53, 156, 157, 158, 159, 50, 160, 161, 162, 67, 163, 69, 71, 73, 74, 70, 164, 165, 166, 7, 167, 168, 169, 170, 171, 172, 173, 174, 175, 176, 177, 178, 179, 180, 181, 182, 183, 184, 185, 186, 187, 188, 189, 190, 191, 192, 193, 194, 195, 196, 197, 198, 199, 200, 201, 202, 203, 34, 204, 205, 206, 207, 208, 209, 210, 211, 214, 215, 216, 217, 218, 219, 220, 221, 222, 223, 224, 225, 233, 234, 235, 236, 226, 227, 228, 229, 230, 231, 232, 237, 238, 239, 240, 241] (by decide +kernel) (by decide +kernel)
set_option maxRecDepth 20000 in
theorem gX5_ripe_X0_liveDay : GoodIn wsX5_ripe (wsV RX5 221 RX0 yX0_liveDay wsX0_liveDay) := goodIn_app (goodIn_of _ (by decide +kernel)) ggX5_ripe_X0_liveDay
theorem dX5_ripe_0 : decode cX5_ripe 0 = .ok (.iload_n 1, 1) := by decide +kernel
theorem dX5_ripe_1 : decode cX5_ripe 1 = .ok (.iconst 4, 1) := by decide +kernel
theorem dX5_ripe_2 : decode cX5_ripe 2 = .ok (.invokestatic 19, 3) := by decide +kernel
theorem dX5_ripe_5 : decode cX5_ripe 5 = .ok (.ifCond .ne 13, 3) := by decide +kernel
theorem dX5_ripe_8 : decode cX5_ripe 8 = .ok (.new 23, 3) := by decide +kernel
theorem dX5_ripe_11 : decode cX5_ripe 11 = .ok (.dup, 1) := by decide +kernel
theorem dX5_ripe_12 : decode cX5_ripe 12 = .ok (.ldc 100, 2) := by decide +kernel
theorem dX5_ripe_14 : decode cX5_ripe 14 = .ok (.invokespecial 27, 3) := by decide +kernel
theorem dX5_ripe_17 : decode cX5_ripe 17 = .ok (.athrow, 1) := by decide +kernel
theorem dX5_ripe_18 : decode cX5_ripe 18 = .ok (.iload_n 2, 1) := by decide +kernel
theorem dX5_ripe_19 : decode cX5_ripe 19 = .ok (.bipush 99, 2) := by decide +kernel
theorem dX5_ripe_21 : decode cX5_ripe 21 = .ok (.invokestatic 30, 3) := by decide +kernel
theorem dX5_ripe_24 : decode cX5_ripe 24 = .ok (.ifCond .ne 13, 3) := by decide +kernel
theorem dX5_ripe_27 : decode cX5_ripe 27 = .ok (.new 33, 3) := by decide +kernel
theorem dX5_ripe_30 : decode cX5_ripe 30 = .ok (.dup, 1) := by decide +kernel
theorem dX5_ripe_31 : decode cX5_ripe 31 = .ok (.ldc 212, 2) := by decide +kernel
theorem dX5_ripe_33 : decode cX5_ripe 33 = .ok (.invokespecial 37, 3) := by decide +kernel
theorem dX5_ripe_36 : decode cX5_ripe 36 = .ok (.athrow, 1) := by decide +kernel
theorem dX5_ripe_37 : decode cX5_ripe 37 = .ok (.aload_n 0, 1) := by decide +kernel
theorem dX5_ripe_38 : decode cX5_ripe 38 = .ok (.getfield 16, 3) := by decide +kernel
theorem dX5_ripe_41 : decode cX5_ripe 41 = .ok (.aload_n 0, 1) := by decide +kernel
theorem dX5_ripe_42 : decode cX5_ripe 42 = .ok (.getfield 10, 3) := by decide +kernel
theorem dX5_ripe_45 : decode cX5_ripe 45 = .ok (.invokevirtual 214, 3) := by decide +kernel
theorem dX5_ripe_48 : decode cX5_ripe 48 = .ok (.iconst 0, 1) := by decide +kernel
theorem dX5_ripe_49 : decode cX5_ripe 49 = .ok (.istore_n 3, 1) := by decide +kernel
theorem dX5_ripe_50 : decode cX5_ripe 50 = .ok (.iload_n 3, 1) := by decide +kernel
theorem dX5_ripe_51 : decode cX5_ripe 51 = .ok (.bipush 60, 2) := by decide +kernel
theorem dX5_ripe_53 : decode cX5_ripe 53 = .ok (.if_icmp .gt 33, 3) := by decide +kernel
theorem dX5_ripe_56 : decode cX5_ripe 56 = .ok (.aload_n 0, 1) := by decide +kernel
theorem dX5_ripe_57 : decode cX5_ripe 57 = .ok (.getfield 16, 3) := by decide +kernel
theorem dX5_ripe_60 : decode cX5_ripe 60 = .ok (.getfield 81, 3) := by decide +kernel
theorem dX5_ripe_63 : decode cX5_ripe 63 = .ok (.iload_n 1, 1) := by decide +kernel
theorem dX5_ripe_64 : decode cX5_ripe 64 = .ok (.invokevirtual 218, 3) := by decide +kernel
theorem dX5_ripe_67 : decode cX5_ripe 67 = .ok (.iload_n 2, 1) := by decide +kernel
theorem dX5_ripe_68 : decode cX5_ripe 68 = .ok (.if_icmp .lt 5, 3) := by decide +kernel
theorem dX5_ripe_71 : decode cX5_ripe 71 = .ok (.iload_n 3, 1) := by decide +kernel
theorem dX5_ripe_72 : decode cX5_ripe 72 = .ok (.ireturn, 1) := by decide +kernel
theorem dX5_ripe_73 : decode cX5_ripe 73 = .ok (.aload_n 0, 1) := by decide +kernel
theorem dX5_ripe_74 : decode cX5_ripe 74 = .ok (.getfield 16, 3) := by decide +kernel
theorem dX5_ripe_77 : decode cX5_ripe 77 = .ok (.invokevirtual 221, 3) := by decide +kernel
theorem dX5_ripe_80 : decode cX5_ripe 80 = .ok (.iinc 3 1, 3) := by decide +kernel
theorem dX5_ripe_83 : decode cX5_ripe 83 = .ok (.goto (-33), 3) := by decide +kernel
theorem dX5_ripe_86 : decode cX5_ripe 86 = .ok (.iconst (-1), 1) := by decide +kernel
theorem dX5_ripe_87 : decode cX5_ripe 87 = .ok (.ireturn, 1) := by decide +kernel
set_option maxRecDepth 20000 in
theorem ggX5_foresee_X5_isFrom1To : GoodIn wsX5_foresee wsX5_isFrom1To := goodIn_r _ [10] (by decide +kernel) (by decide +kernel)
set_option maxRecDepth 20000 in
theorem gX5_foresee_X5_isFrom1To : GoodIn wsX5_foresee (va_wsS RX5 30 yX5_isFrom1To wsX5_isFrom1To) := goodIn_app (goodIn_of _ (by decide +kernel)) ggX5_foresee_X5_isFrom1To
set_option maxRecDepth 20000 in
theorem ggX5_foresee_X5_isBelow : GoodIn wsX5_foresee wsX5_isBelow := goodIn_r _ [13] (by decide +kernel) (by decide +kernel)
set_option maxRecDepth 20000 in
theorem gX5_foresee_X5_isBelow : GoodIn wsX5_foresee (va_wsS RX5 19 yX5_isBelow wsX5_isBelow) := goodIn_app (goodIn_of _ (by decide +kernel)) ggX5_foresee_X5_isBelow
set_option maxRecDepth 20000 in
theorem ggX5_foresee_X0_becomeLike : GoodIn wsX5_foresee wsX0_becomeLike := goodIn_r _ [18, 19, 20, 21, 22, 23, 24, 25, 26, 27, 28, 29, 30, 31, 32, 33, 34, 35, 36, 37, 38, 39, 40, 41, 42, 43, 44, 45, 46, 47, 48, 49, 50, 51, 52, 53, 54, 55, 56, 57, 58, 59, 60, 61, 62, 63, 64, 65, 66, 67, 68, 69, 70, 71, 72, 73, 74, 233, 234, 235, 236, 237, 238, 239, 240, 241, 242, 243, 244, 245, 246, 247, 248, 249, 250, 251, 252, 253, 254, 255, 256, 257, 258, 259, 260] (by decide +kernel) (by decide +kernel)
set_option maxRecDepth 20000 in
theorem gX5_foresee_X0_becomeLike : GoodIn wsX5_foresee (wsV RX5 214 RX0 yX0_becomeLike wsX0_becomeLike) := goodIn_app (goodIn_of _ (by decide +kernel)) ggX5_foresee_X0_becomeLike
set_option maxRecDepth 20000 in
theorem ggX5_foresee_X0_liveDays : GoodIn wsX5_foresee wsX0_liveDays := goodIn_r _ [78, 79, 80, 81, 17, 82, 30, 29, 19, 32, 83, 84, 85, 86, 87, 88, 89, 38, 90, 40, 42, 91, 92, 93, 94, 95, 96, 97, 98, 99, 100, 101, 102, 33, 31, 22, 23, 103, 104, 105, 106, 107, 108, 109, 110, 57, 111, 62, 112, 113, 114, 115, 59, 116, 117, 118, 119, 63, 120, 121, 122, 123, 12, 9, 13, 124, 125, 126, 47, 127, 52, 128, 129, 130, 131, 49, 132, 133, 134, 135, 60, 136, 137, 138, 139, 21, 140, 141, 142, 143, 144, 145, 146, 147, 148, 149, 150, 151, 43, 152, 153, 154, 155, 156, 157, 158, 53, 159, 160, 161, 162, 50, 163, 164, 165, 67, 166, 69, 71, 73, 74, 70, 167, 168, 169, 11, 170, 171, 172, 173, 174, 175, 176, 177, 178, 179, 180, 181, 182, 183, 184, 185, 186, 187, 188, 189, 190, 191, 192, 193, 194, 195, 196, 197, 198, 199, 200, 201, 202, 203, 204, 205, 206, 34, 207, 208, 209, 210, 211, 212, 213, 214, 233, 234, 235, 236, 237, 238, 239, 240, 241, 242, 243, 244, 252, 253, 254, 255, 245, 246, 247, 248, 249, 250, 251, 256, 257, 258, 259, 260] (by decide +kernel) (by decide +kernel)
set_option maxRecDepth 20000 in
theorem gX5_foresee_X0_liveDays : GoodIn wsX5_foresee (wsV RX5 209 RX0 yX0_liveDays wsX0_liveDays) := goodIn_app (goodIn_of _ (by decide +kernel)) ggX5_foresee_X0_liveDays
set_option maxRecDepth 20000 in
theorem ggX5_foresee_X0_tell : GoodIn wsX5_foresee wsX0_tell := goodIn_r _ [218, 19, 20, 21, 22, 23, 33, 30, 136, 137, 138, 17, 139, 219, 220, 221, 222, 34, 223, 224, 225, 38, 226, 40, 227, 228, 229, 230, 24, 12, 9, 13, 233, 234, 235, 236, 237, 238, 239, 240, 241, 242, 243, 244, 256, 257, 258, 259, 260, 245, 246, 247] (by decide +kernel) (by decide +kernel)
set_option maxRecDepth 20000 in
theorem gX5_foresee_X0_tell : GoodIn wsX5_foresee (wsV RX5 202 RX0 yX0_tell wsX0_tell) := goodIn_app (goodIn_of _ (by decide +kernel)) ggX5_foresee_X0_tell
theorem dX5_foresee_0 : decode cX5_foresee 0 = .ok (.iload_n 1, 1) := by decide +kernel
theorem dX5_foresee_1 : decode cX5_foresee 1 = .ok (.bipush 40, 2) := by decide +kernel
theorem dX5_foresee_3 : decode cX5_foresee 3 = .ok (.invokestatic 30, 3) := by decide +kernel
theorem dX5_foresee_6 : decode cX5_foresee 6 = .ok (.ifCond .ne 13, 3) := by decide +kernel
theorem dX5_foresee_9 : decode cX5_foresee 9 = .ok (.new 33, 3) := by decide +kernel
theorem dX5_foresee_12 : decode cX5_foresee 12 = .ok (.dup, 1) := by decide +kernel
theorem dX5_foresee_13 : decode cX5_foresee 13 = .ok (.ldc 204, 2) := by decide +kernel
theorem dX5_foresee_15 : decode cX5_foresee 15 = .ok (.invokespecial 37, 3) := by decide +kernel
theorem dX5_foresee_18 : decode cX5_foresee 18 = .ok (.athrow, 1) := by decide +kernel
theorem dX5_foresee_19 : decode cX5_foresee 19 = .ok (.iload_n 2, 1) := by decide +kernel
theorem dX5_foresee_20 : decode cX5_foresee 20 = .ok (.bipush 12, 2) := by decide +kernel
theorem dX5_foresee_22 : decode cX5_foresee 22 = .ok (.invokestatic 19, 3) := by decide +kernel
theorem dX5_foresee_25 : decode cX5_foresee 25 = .ok (.ifCond .ne 13, 3) := by decide +kernel
theorem dX5_foresee_28 : decode cX5_foresee 28 = .ok (.new 23, 3) := by decide +kernel
theorem dX5_foresee_31 : decode cX5_foresee 31 = .ok (.dup, 1) := by decide +kernel
theorem dX5_foresee_32 : decode cX5_foresee 32 = .ok (.ldc 200, 2) := by decide +kernel
theorem dX5_foresee_34 : decode cX5_foresee 34 = .ok (.invokespecial 27, 3) := by decide +kernel
theorem dX5_foresee_37 : decode cX5_foresee 37 = .ok (.athrow, 1) := by decide +kernel
theorem dX5_foresee_38 : decode cX5_foresee 38 = .ok (.aload_n 0, 1) := by decide +kernel
theorem dX5_foresee_39 : decode cX5_foresee 39 = .ok (.getfield 16, 3) := by decide +kernel
theorem dX5_foresee_42 : decode cX5_foresee 42 = .ok (.aload_n 0, 1) := by decide +kernel
theorem dX5_foresee_43 : decode cX5_foresee 43 = .ok (.getfield 10, 3) := by decide +kernel
theorem dX5_foresee_46 : decode cX5_foresee 46 = .ok (.invokevirtual 214, 3) := by decide +kernel
theorem dX5_foresee_49 : decode cX5_foresee 49 = .ok (.aload_n 0, 1) := by decide +kernel
theorem dX5_foresee_50 : decode cX5_foresee 50 = .ok (.getfield 16, 3) := by decide +kernel
theorem dX5_foresee_53 : decode cX5_foresee 53 = .ok (.iload_n 1, 1) := by decide +kernel
theorem dX5_foresee_54 : decode cX5_foresee 54 = .ok (.invokevirtual 209, 3) := by decide +kernel
theorem dX5_foresee_57 : decode cX5_foresee 57 = .ok (.aload_n 0, 1) := by decide +kernel
theorem dX5_foresee_58 : decode cX5_foresee 58 = .ok (.getfield 16, 3) := by decide +kernel
theorem dX5_foresee_61 : decode cX5_foresee 61 = .ok (.iload_n 2, 1) := by decide +kernel
theorem dX5_foresee_62 : decode cX5_foresee 62 = .ok (.invokevirtual 202, 3) := by decide +kernel
theorem dX5_foresee_65 : decode cX5_foresee 65 = .ok (.ireturn, 1) := by decide +kernel
set_option maxRecDepth 20000 in
theorem ggX5_mean_X1_wornOf : GoodIn wsX5_mean wsX1_wornOf := goodIn_r _ [6, 7, 8, 9, 10, 5, 11, 12, 27, 28, 29, 30] (by decide +kernel) (by decide +kernel)
set_option maxRecDepth 20000 in
theorem gX5_mean_X1_wornOf : GoodIn wsX5_mean (wsV RX5 132 RX1 yX1_wornOf wsX1_wornOf) := goodIn_app (goodIn_of _ (by decide +kernel)) ggX5_mean_X1_wornOf
theorem dX5_mean_0 : decode cX5_mean 0 = .ok (.aload_n 0, 1) := by decide +kernel
theorem dX5_mean_1 : decode cX5_mean 1 = .ok (.getfield 10, 3) := by decide +kernel
theorem dX5_mean_4 : decode cX5_mean 4 = .ok (.getfield 112, 3) := by decide +kernel
theorem dX5_mean_7 : decode cX5_mean 7 = .ok (.getfield 116, 3) := by decide +kernel
theorem dX5_mean_10 : decode cX5_mean 10 = .ok (.istore_n 1, 1) := by decide +kernel
theorem dX5_mean_11 : decode cX5_mean 11 = .ok (.iload_n 1, 1) := by decide +kernel
theorem dX5_mean_12 : decode cX5_mean 12 = .ok (.ifCond .ne 5, 3) := by decide +kernel
theorem dX5_mean_15 : decode cX5_mean 15 = .ok (.dconst 0, 1) := by decide +kernel
theorem dX5_mean_16 : decode cX5_mean 16 = .ok (.dreturn, 1) := by decide +kernel
theorem dX5_mean_17 : decode cX5_mean 17 = .ok (.iconst 0, 1) := by decide +kernel
theorem dX5_mean_18 : decode cX5_mean 18 = .ok (.istore_n 2, 1) := by decide +kernel
theorem dX5_mean_19 : decode cX5_mean 19 = .ok (.iconst 0, 1) := by decide +kernel
theorem dX5_mean_20 : decode cX5_mean 20 = .ok (.istore_n 3, 1) := by decide +kernel
theorem dX5_mean_21 : decode cX5_mean 21 = .ok (.iload_n 3, 1) := by decide +kernel
theorem dX5_mean_22 : decode cX5_mean 22 = .ok (.iload_n 1, 1) := by decide +kernel
theorem dX5_mean_23 : decode cX5_mean 23 = .ok (.if_icmp .ge 23, 3) := by decide +kernel
theorem dX5_mean_26 : decode cX5_mean 26 = .ok (.iload_n 2, 1) := by decide +kernel
theorem dX5_mean_27 : decode cX5_mean 27 = .ok (.aload_n 0, 1) := by decide +kernel
theorem dX5_mean_28 : decode cX5_mean 28 = .ok (.getfield 10, 3) := by decide +kernel
theorem dX5_mean_31 : decode cX5_mean 31 = .ok (.getfield 112, 3) := by decide +kernel
theorem dX5_mean_34 : decode cX5_mean 34 = .ok (.iload_n 3, 1) := by decide +kernel
theorem dX5_mean_35 : decode cX5_mean 35 = .ok (.invokevirtual 132, 3) := by decide +kernel
theorem dX5_mean_38 : decode cX5_mean 38 = .ok (.iadd, 1) := by decide +kernel
theorem dX5_mean_39 : decode cX5_mean 39 = .ok (.istore_n 2, 1) := by decide +kernel
theorem dX5_mean_40 : decode cX5_mean 40 = .ok (.iinc 3 1, 3) := by decide +kernel
theorem dX5_mean_43 : decode cX5_mean 43 = .ok (.goto (-22), 3) := by decide +kernel
theorem dX5_mean_46 : decode cX5_mean 46 = .ok (.iload_n 2, 1) := by decide +kernel
theorem dX5_mean_47 : decode cX5_mean 47 = .ok (.i2d, 1) := by decide +kernel
theorem dX5_mean_48 : decode cX5_mean 48 = .ok (.iload_n 1, 1) := by decide +kernel
theorem dX5_mean_49 : decode cX5_mean 49 = .ok (.i2d, 1) := by decide +kernel
theorem dX5_mean_50 : decode cX5_mean 50 = .ok (.ddiv, 1) := by decide +kernel
theorem dX5_mean_51 : decode cX5_mean 51 = .ok (.dreturn, 1) := by decide +kernel
theorem dX5_isBelow_0 : decode cX5_isBelow 0 = .ok (.iload_n 0, 1) := by decide +kernel
theorem dX5_isBelow_1 : decode cX5_isBelow 1 = .ok (.ifCond .lt 12, 3) := by decide +kernel
theorem dX5_isBelow_4 : decode cX5_isBelow 4 = .ok (.iload_n 0, 1) := by decide +kernel
theorem dX5_isBelow_5 : decode cX5_isBelow 5 = .ok (.iload_n 1, 1) := by decide +kernel
theorem dX5_isBelow_6 : decode cX5_isBelow 6 = .ok (.if_icmp .ge 7, 3) := by decide +kernel
theorem dX5_isBelow_9 : decode cX5_isBelow 9 = .ok (.iconst 1, 1) := by decide +kernel
theorem dX5_isBelow_10 : decode cX5_isBelow 10 = .ok (.goto 4, 3) := by decide +kernel
theorem dX5_isBelow_13 : decode cX5_isBelow 13 = .ok (.iconst 0, 1) := by decide +kernel
theorem dX5_isBelow_14 : decode cX5_isBelow 14 = .ok (.ireturn, 1) := by decide +kernel
theorem dX5_isFrom1To_0 : decode cX5_isFrom1To 0 = .ok (.iload_n 0, 1) := by decide +kernel
theorem dX5_isFrom1To_1 : decode cX5_isFrom1To 1 = .ok (.iconst 1, 1) := by decide +kernel
theorem dX5_isFrom1To_2 : decode cX5_isFrom1To 2 = .ok (.if_icmp .lt 12, 3) := by decide +kernel
theorem dX5_isFrom1To_5 : decode cX5_isFrom1To 5 = .ok (.iload_n 0, 1) := by decide +kernel
theorem dX5_isFrom1To_6 : decode cX5_isFrom1To 6 = .ok (.iload_n 1, 1) := by decide +kernel
theorem dX5_isFrom1To_7 : decode cX5_isFrom1To 7 = .ok (.if_icmp .gt 7, 3) := by decide +kernel
theorem dX5_isFrom1To_10 : decode cX5_isFrom1To 10 = .ok (.iconst 1, 1) := by decide +kernel
theorem dX5_isFrom1To_11 : decode cX5_isFrom1To 11 = .ok (.goto 4, 3) := by decide +kernel
theorem dX5_isFrom1To_14 : decode cX5_isFrom1To 14 = .ok (.iconst 0, 1) := by decide +kernel
theorem dX5_isFrom1To_15 : decode cX5_isFrom1To 15 = .ok (.ireturn, 1) := by decide +kernel
set_option maxRecDepth 20000 in
theorem ggX5_worthOf_X5_isBelow : GoodIn wsX5_worthOf wsX5_isBelow := goodIn_r _ [5] (by decide +kernel) (by decide +kernel)
set_option maxRecDepth 20000 in
theorem gX5_worthOf_X5_isBelow : GoodIn wsX5_worthOf (va_wsS RX5 19 yX5_isBelow wsX5_isBelow) := goodIn_app (goodIn_of _ (by decide +kernel)) ggX5_worthOf_X5_isBelow
theorem dX5_worthOf_0 : decode cX5_worthOf 0 = .ok (.iload_n 0, 1) := by decide +kernel
theorem dX5_worthOf_1 : decode cX5_worthOf 1 = .ok (.iconst 3, 1) := by decide +kernel
theorem dX5_worthOf_2 : decode cX5_worthOf 2 = .ok (.invokestatic 19, 3) := by decide +kernel
theorem dX5_worthOf_5 : decode cX5_worthOf 5 = .ok (.ifCond .eq 11, 3) := by decide +kernel
theorem dX5_worthOf_8 : decode cX5_worthOf 8 = .ok (.getstatic 252, 3) := by decide +kernel
theorem dX5_worthOf_11 : decode cX5_worthOf 11 = .ok (.iload_n 0, 1) := by decide +kernel
theorem dX5_worthOf_12 : decode cX5_worthOf 12 = .ok (.iaload, 1) := by decide +kernel
theorem dX5_worthOf_13 : decode cX5_worthOf 13 = .ok (.goto 4, 3) := by decide +kernel
theorem dX5_worthOf_16 : decode cX5_worthOf 16 = .ok (.iconst 0, 1) := by decide +kernel
theorem dX5_worthOf_17 : decode cX5_worthOf 17 = .ok (.ireturn, 1) := by decide +kernel
end
section
theorem nmX6 : ∀ a, a < 12 → ∀ b, b < 12 → a ≠ b → (TX6 a).2.1 ≠ (TX6 b).2.1 := by decide +kernel
theorem tyX6_ok : ∀ k, k < 12 → parseFieldDescriptor (TX6 k).2.2.1 = some (tyX6 k) := by decide +kernel
theorem inlX6 : ∀ w ∈ wsX60, w ∈ wsL_law := fun _ h => List.mem_append_left _ (List.mem_append_left _ (List.mem_append_left _ (List.mem_append_left _ (List.mem_append_left _ (List.mem_append_left _ (List.mem_append_left _ (List.mem_append_left _ (List.mem_append_left _ (List.mem_append_right _ h)))))))))
theorem dX6_init_0 : decode cX6_init 0 = .ok (.aload_n 0, 1) := by decide +kernel
theorem dX6_init_1 : decode cX6_init 1 = .ok (.invokespecial 1, 3) := by decide +kernel
theorem dX6_init_4 : decode cX6_init 4 = .ok (.aload_n 0, 1) := by decide +kernel
theorem dX6_init_5 : decode cX6_init 5 = .ok (.bipush 40, 2) := by decide +kernel
theorem dX6_init_7 : decode cX6_init 7 = .ok (.putfield 7, 3) := by decide +kernel
theorem dX6_init_10 : decode cX6_init 10 = .ok (.aload_n 0, 1) := by decide +kernel
theorem dX6_init_11 : decode cX6_init 11 = .ok (.bipush 30, 2) := by decide +kernel
theorem dX6_init_13 : decode cX6_init 13 = .ok (.putfield 13, 3) := by decide +kernel
theorem dX6_init_16 : decode cX6_init 16 = .ok (.aload_n 0, 1) := by decide +kernel
theorem dX6_init_17 : decode cX6_init 17 = .ok (.bipush 7, 2) := by decide +kernel
theorem dX6_init_19 : decode cX6_init 19 = .ok (.newarray .int, 2) := by decide +kernel
theorem dX6_init_21 : decode cX6_init 21 = .ok (.dup, 1) := by decide +kernel
theorem dX6_init_22 : decode cX6_init 22 = .ok (.iconst 0, 1) := by decide +kernel
theorem dX6_init_23 : decode cX6_init 23 = .ok (.iconst 4, 1) := by decide +kernel
theorem dX6_init_24 : decode cX6_init 24 = .ok (.iastore, 1) := by decide +kernel
theorem dX6_init_25 : decode cX6_init 25 = .ok (.dup, 1) := by decide +kernel
theorem dX6_init_26 : decode cX6_init 26 = .ok (.iconst 1, 1) := by decide +kernel
theorem dX6_init_27 : decode cX6_init 27 = .ok (.iconst 4, 1) := by decide +kernel
theorem dX6_init_28 : decode cX6_init 28 = .ok (.iastore, 1) := by decide +kernel
theorem dX6_init_29 : decode cX6_init 29 = .ok (.dup, 1) := by decide +kernel
theorem dX6_init_30 : decode cX6_init 30 = .ok (.iconst 2, 1) := by decide +kernel
theorem dX6_init_31 : decode cX6_init 31 = .ok (.iconst 4, 1) := by decide +kernel
theorem dX6_init_32 : decode cX6_init 32 = .ok (.iastore, 1) := by decide +kernel
theorem dX6_init_33 : decode cX6_init 33 = .ok (.dup, 1) := by decide +kernel
theorem dX6_init_34 : decode cX6_init 34 = .ok (.iconst 3, 1) := by decide +kernel
theorem dX6_init_35 : decode cX6_init 35 = .ok (.iconst 4, 1) := by decide +kernel
theorem dX6_init_36 : decode cX6_init 36 = .ok (.iastore, 1) := by decide +kernel
theorem dX6_init_37 : decode cX6_init 37 = .ok (.dup, 1) := by decide +kernel
theorem dX6_init_38 : decode cX6_init 38 = .ok (.iconst 4, 1) := by decide +kernel
theorem dX6_init_39 : decode cX6_init 39 = .ok (.iconst 4, 1) := by decide +kernel
theorem dX6_init_40 : decode cX6_init 40 = .ok (.iastore, 1) := by decide +kernel
theorem dX6_init_41 : decode cX6_init 41 = .ok (.dup, 1) := by decide +kernel
theorem dX6_init_42 : decode cX6_init 42 = .ok (.iconst 5, 1) := by decide +kernel
theorem dX6_init_43 : decode cX6_init 43 = .ok (.iconst 4, 1) := by decide +kernel
theorem dX6_init_44 : decode cX6_init 44 = .ok (.iastore, 1) := by decide +kernel
theorem dX6_init_45 : decode cX6_init 45 = .ok (.dup, 1) := by decide +kernel
theorem dX6_init_46 : decode cX6_init 46 = .ok (.bipush 6, 2) := by decide +kernel
theorem dX6_init_48 : decode cX6_init 48 = .ok (.iconst 4, 1) := by decide +kernel
theorem dX6_init_49 : decode cX6_init 49 = .ok (.iastore, 1) := by decide +kernel
theorem dX6_init_50 : decode cX6_init 50 = .ok (.putfield 16, 3) := by decide +kernel
theorem dX6_init_53 : decode cX6_init 53 = .ok (.aload_n 0, 1) := by decide +kernel
theorem dX6_init_54 : decode cX6_init 54 = .ok (.iconst 3, 1) := by decide +kernel
theorem dX6_init_55 : decode cX6_init 55 = .ok (.newarray .int, 2) := by decide +kernel
theorem dX6_init_57 : decode cX6_init 57 = .ok (.dup, 1) := by decide +kernel
theorem dX6_init_58 : decode cX6_init 58 = .ok (.iconst 0, 1) := by decide +kernel
theorem dX6_init_59 : decode cX6_init 59 = .ok (.bipush 60, 2) := by decide +kernel
theorem dX6_init_61 : decode cX6_init 61 = .ok (.iastore, 1) := by decide +kernel
theorem dX6_init_62 : decode cX6_init 62 = .ok (.dup, 1) := by decide +kernel
theorem dX6_init_63 : decode cX6_init 63 = .ok (.iconst 1, 1) := by decide +kernel
theorem dX6_init_64 : decode cX6_init 64 = .ok (.bipush 60, 2) := by decide +kernel
theorem dX6_init_66 : decode cX6_init 66 = .ok (.iastore, 1) := by decide +kernel
theorem dX6_init_67 : decode cX6_init 67 = .ok (.dup, 1) := by decide +kernel
theorem dX6_init_68 : decode cX6_init 68 = .ok (.iconst 2, 1) := by decide +kernel
theorem dX6_init_69 : decode cX6_init 69 = .ok (.bipush 60, 2) := by decide +kernel
theorem dX6_init_71 : decode cX6_init 71 = .ok (.iastore, 1) := by decide +kernel
theorem dX6_init_72 : decode cX6_init 72 = .ok (.putfield 20, 3) := by decide +kernel
theorem dX6_init_75 : decode cX6_init 75 = .ok (.aload_n 0, 1) := by decide +kernel
theorem dX6_init_76 : decode cX6_init 76 = .ok (.iconst 4, 1) := by decide +kernel
theorem dX6_init_77 : decode cX6_init 77 = .ok (.anewarray 23, 3) := by decide +kernel
theorem dX6_init_80 : decode cX6_init 80 = .ok (.dup, 1) := by decide +kernel
theorem dX6_init_81 : decode cX6_init 81 = .ok (.iconst 0, 1) := by decide +kernel
theorem dX6_init_82 : decode cX6_init 82 = .ok (.iconst 3, 1) := by decide +kernel
theorem dX6_init_83 : decode cX6_init 83 = .ok (.newarray .int, 2) := by decide +kernel
theorem dX6_init_85 : decode cX6_init 85 = .ok (.dup, 1) := by decide +kernel
theorem dX6_init_86 : decode cX6_init 86 = .ok (.iconst 0, 1) := by decide +kernel
theorem dX6_init_87 : decode cX6_init 87 = .ok (.iconst 0, 1) := by decide +kernel
theorem dX6_init_88 : decode cX6_init 88 = .ok (.iastore, 1) := by decide +kernel
theorem dX6_init_89 : decode cX6_init 89 = .ok (.dup, 1) := by decide +kernel
theorem dX6_init_90 : decode cX6_init 90 = .ok (.iconst 1, 1) := by decide +kernel
theorem dX6_init_91 : decode cX6_init 91 = .ok (.iconst 0, 1) := by decide +kernel
theorem dX6_init_92 : decode cX6_init 92 = .ok (.iastore, 1) := by decide +kernel
theorem dX6_init_93 : decode cX6_init 93 = .ok (.dup, 1) := by decide +kernel
theorem dX6_init_94 : decode cX6_init 94 = .ok (.iconst 2, 1) := by decide +kernel
theorem dX6_init_95 : decode cX6_init 95 = .ok (.iconst (-1), 1) := by decide +kernel
theorem dX6_init_96 : decode cX6_init 96 = .ok (.iastore, 1) := by decide +kernel
theorem dX6_init_97 : decode cX6_init 97 = .ok (.aastore, 1) := by decide +kernel
theorem dX6_init_98 : decode cX6_init 98 = .ok (.dup, 1) := by decide +kernel
theorem dX6_init_99 : decode cX6_init 99 = .ok (.iconst 1, 1) := by decide +kernel
theorem dX6_init_100 : decode cX6_init 100 = .ok (.iconst 3, 1) := by decide +kernel
theorem dX6_init_101 : decode cX6_init 101 = .ok (.newarray .int, 2) := by decide +kernel
theorem dX6_init_103 : decode cX6_init 103 = .ok (.dup, 1) := by decide +kernel
theorem dX6_init_104 : decode cX6_init 104 = .ok (.iconst 0, 1) := by decide +kernel
theorem dX6_init_105 : decode cX6_init 105 = .ok (.iconst 0, 1) := by decide +kernel
theorem dX6_init_106 : decode cX6_init 106 = .ok (.iastore, 1) := by decide +kernel
theorem dX6_init_107 : decode cX6_init 107 = .ok (.dup, 1) := by decide +kernel
theorem dX6_init_108 : decode cX6_init 108 = .ok (.iconst 1, 1) := by decide +kernel
theorem dX6_init_109 : decode cX6_init 109 = .ok (.iconst 0, 1) := by decide +kernel
theorem dX6_init_110 : decode cX6_init 110 = .ok (.iastore, 1) := by decide +kernel
theorem dX6_init_111 : decode cX6_init 111 = .ok (.dup, 1) := by decide +kernel
theorem dX6_init_112 : decode cX6_init 112 = .ok (.iconst 2, 1) := by decide +kernel
theorem dX6_init_113 : decode cX6_init 113 = .ok (.iconst (-1), 1) := by decide +kernel
theorem dX6_init_114 : decode cX6_init 114 = .ok (.iastore, 1) := by decide +kernel
theorem dX6_init_115 : decode cX6_init 115 = .ok (.aastore, 1) := by decide +kernel
theorem dX6_init_116 : decode cX6_init 116 = .ok (.dup, 1) := by decide +kernel
theorem dX6_init_117 : decode cX6_init 117 = .ok (.iconst 2, 1) := by decide +kernel
theorem dX6_init_118 : decode cX6_init 118 = .ok (.iconst 3, 1) := by decide +kernel
theorem dX6_init_119 : decode cX6_init 119 = .ok (.newarray .int, 2) := by decide +kernel
theorem dX6_init_121 : decode cX6_init 121 = .ok (.dup, 1) := by decide +kernel
theorem dX6_init_122 : decode cX6_init 122 = .ok (.iconst 0, 1) := by decide +kernel
theorem dX6_init_123 : decode cX6_init 123 = .ok (.iconst 0, 1) := by decide +kernel
theorem dX6_init_124 : decode cX6_init 124 = .ok (.iastore, 1) := by decide +kernel
theorem dX6_init_125 : decode cX6_init 125 = .ok (.dup, 1) := by decide +kernel
theorem dX6_init_126 : decode cX6_init 126 = .ok (.iconst 1, 1) := by decide +kernel
theorem dX6_init_127 : decode cX6_init 127 = .ok (.iconst 0, 1) := by decide +kernel
theorem dX6_init_128 : decode cX6_init 128 = .ok (.iastore, 1) := by decide +kernel
theorem dX6_init_129 : decode cX6_init 129 = .ok (.dup, 1) := by decide +kernel
theorem dX6_init_130 : decode cX6_init 130 = .ok (.iconst 2, 1) := by decide +kernel
theorem dX6_init_131 : decode cX6_init 131 = .ok (.iconst (-1), 1) := by decide +kernel
theorem dX6_init_132 : decode cX6_init 132 = .ok (.iastore, 1) := by decide +kernel
theorem dX6_init_133 : decode cX6_init 133 = .ok (.aastore, 1) := by decide +kernel
theorem dX6_init_134 : decode cX6_init 134 = .ok (.dup, 1) := by decide +kernel
theorem dX6_init_135 : decode cX6_init 135 = .ok (.iconst 3, 1) := by decide +kernel
theorem dX6_init_136 : decode cX6_init 136 = .ok (.iconst 3, 1) := by decide +kernel
theorem dX6_init_137 : decode cX6_init 137 = .ok (.newarray .int, 2) := by decide +kernel
theorem dX6_init_139 : decode cX6_init 139 = .ok (.dup, 1) := by decide +kernel
theorem dX6_init_140 : decode cX6_init 140 = .ok (.iconst 0, 1) := by decide +kernel
theorem dX6_init_141 : decode cX6_init 141 = .ok (.iconst 0, 1) := by decide +kernel
theorem dX6_init_142 : decode cX6_init 142 = .ok (.iastore, 1) := by decide +kernel
theorem dX6_init_143 : decode cX6_init 143 = .ok (.dup, 1) := by decide +kernel
theorem dX6_init_144 : decode cX6_init 144 = .ok (.iconst 1, 1) := by decide +kernel
theorem dX6_init_145 : decode cX6_init 145 = .ok (.iconst 0, 1) := by decide +kernel
theorem dX6_init_146 : decode cX6_init 146 = .ok (.iastore, 1) := by decide +kernel
theorem dX6_init_147 : decode cX6_init 147 = .ok (.dup, 1) := by decide +kernel
theorem dX6_init_148 : decode cX6_init 148 = .ok (.iconst 2, 1) := by decide +kernel
theorem dX6_init_149 : decode cX6_init 149 = .ok (.iconst (-1), 1) := by decide +kernel
theorem dX6_init_150 : decode cX6_init 150 = .ok (.iastore, 1) := by decide +kernel
theorem dX6_init_151 : decode cX6_init 151 = .ok (.aastore, 1) := by decide +kernel
theorem dX6_init_152 : decode cX6_init 152 = .ok (.putfield 24, 3) := by decide +kernel
theorem dX6_init_155 : decode cX6_init 155 = .ok (.aload_n 0, 1) := by decide +kernel
theorem dX6_init_156 : decode cX6_init 156 = .ok (.iconst 0, 1) := by decide +kernel
theorem dX6_init_157 : decode cX6_init 157 = .ok (.anewarray 23, 3) := by decide +kernel
theorem dX6_init_160 : decode cX6_init 160 = .ok (.putfield 28, 3) := by decide +kernel
theorem dX6_init_163 : decode cX6_init 163 = .ok (.aload_n 0, 1) := by decide +kernel
theorem dX6_init_164 : decode cX6_init 164 = .ok (.iconst 0, 1) := by decide +kernel
theorem dX6_init_165 : decode cX6_init 165 = .ok (.anewarray 23, 3) := by decide +kernel
theorem dX6_init_168 : decode cX6_init 168 = .ok (.putfield 31, 3) := by decide +kernel
theorem dX6_init_171 : decode cX6_init 171 = .ok (.aload_n 0, 1) := by decide +kernel
theorem dX6_init_172 : decode cX6_init 172 = .ok (.iconst 0, 1) := by decide +kernel
theorem dX6_init_173 : decode cX6_init 173 = .ok (.anewarray 23, 3) := by decide +kernel
theorem dX6_init_176 : decode cX6_init 176 = .ok (.putfield 34, 3) := by decide +kernel
theorem dX6_init_179 : decode cX6_init 179 = .ok (.aload_n 0, 1) := by decide +kernel
theorem dX6_init_180 : decode cX6_init 180 = .ok (.bipush 10, 2) := by decide +kernel
theorem dX6_init_182 : decode cX6_init 182 = .ok (.iconst 3, 1) := by decide +kernel
theorem dX6_init_183 : decode cX6_init 183 = .ok (.multianewarray 37 2, 4) := by decide +kernel
theorem dX6_init_187 : decode cX6_init 187 = .ok (.putfield 38, 3) := by decide +kernel
theorem dX6_init_190 : decode cX6_init 190 = .ok (.return_, 1) := by decide +kernel
theorem dX6_more_0 : decode cX6_more 0 = .ok (.aload_n 0, 1) := by decide +kernel
theorem dX6_more_1 : decode cX6_more 1 = .ok (.arraylength, 1) := by decide +kernel
theorem dX6_more_2 : decode cX6_more 2 = .ok (.iconst 1, 1) := by decide +kernel
theorem dX6_more_3 : decode cX6_more 3 = .ok (.iadd, 1) := by decide +kernel
theorem dX6_more_4 : decode cX6_more 4 = .ok (.anewarray 23, 3) := by decide +kernel
theorem dX6_more_7 : decode cX6_more 7 = .ok (.astore_n 2, 1) := by decide +kernel
theorem dX6_more_8 : decode cX6_more 8 = .ok (.iconst 0, 1) := by decide +kernel
theorem dX6_more_9 : decode cX6_more 9 = .ok (.istore_n 3, 1) := by decide +kernel
theorem dX6_more_10 : decode cX6_more 10 = .ok (.iload_n 3, 1) := by decide +kernel
theorem dX6_more_11 : decode cX6_more 11 = .ok (.aload_n 0, 1) := by decide +kernel
theorem dX6_more_12 : decode cX6_more 12 = .ok (.arraylength, 1) := by decide +kernel
theorem dX6_more_13 : decode cX6_more 13 = .ok (.if_icmp .ge 15, 3) := by decide +kernel
theorem dX6_more_16 : decode cX6_more 16 = .ok (.aload_n 2, 1) := by decide +kernel
theorem dX6_more_17 : decode cX6_more 17 = .ok (.iload_n 3, 1) := by decide +kernel
theorem dX6_more_18 : decode cX6_more 18 = .ok (.aload_n 0, 1) := by decide +kernel
theorem dX6_more_19 : decode cX6_more 19 = .ok (.iload_n 3, 1) := by decide +kernel
theorem dX6_more_20 : decode cX6_more 20 = .ok (.aaload, 1) := by decide +kernel
theorem dX6_more_21 : decode cX6_more 21 = .ok (.aastore, 1) := by decide +kernel
theorem dX6_more_22 : decode cX6_more 22 = .ok (.iinc 3 1, 3) := by decide +kernel
theorem dX6_more_25 : decode cX6_more 25 = .ok (.goto (-15), 3) := by decide +kernel
theorem dX6_more_28 : decode cX6_more 28 = .ok (.aload_n 2, 1) := by decide +kernel
theorem dX6_more_29 : decode cX6_more 29 = .ok (.aload_n 0, 1) := by decide +kernel
theorem dX6_more_30 : decode cX6_more 30 = .ok (.arraylength, 1) := by decide +kernel
theorem dX6_more_31 : decode cX6_more 31 = .ok (.aload_n 1, 1) := by decide +kernel
theorem dX6_more_32 : decode cX6_more 32 = .ok (.aastore, 1) := by decide +kernel
theorem dX6_more_33 : decode cX6_more 33 = .ok (.aload_n 2, 1) := by decide +kernel
theorem dX6_more_34 : decode cX6_more 34 = .ok (.areturn, 1) := by decide +kernel
theorem dX6_free_0 : decode cX6_free 0 = .ok (.aload_n 0, 1) := by decide +kernel
theorem dX6_free_1 : decode cX6_free 1 = .ok (.getfield 13, 3) := by decide +kernel
theorem dX6_free_4 : decode cX6_free 4 = .ok (.istore_n 1, 1) := by decide +kernel
theorem dX6_free_5 : decode cX6_free 5 = .ok (.aload_n 0, 1) := by decide +kernel
theorem dX6_free_6 : decode cX6_free 6 = .ok (.getfield 34, 3) := by decide +kernel
theorem dX6_free_9 : decode cX6_free 9 = .ok (.astore_n 2, 1) := by decide +kernel
theorem dX6_free_10 : decode cX6_free 10 = .ok (.aload_n 2, 1) := by decide +kernel
theorem dX6_free_11 : decode cX6_free 11 = .ok (.arraylength, 1) := by decide +kernel
theorem dX6_free_12 : decode cX6_free 12 = .ok (.istore_n 3, 1) := by decide +kernel
theorem dX6_free_13 : decode cX6_free 13 = .ok (.iconst 0, 1) := by decide +kernel
theorem dX6_free_14 : decode cX6_free 14 = .ok (.istore 4, 2) := by decide +kernel
theorem dX6_free_16 : decode cX6_free 16 = .ok (.iload 4, 2) := by decide +kernel
theorem dX6_free_18 : decode cX6_free 18 = .ok (.iload_n 3, 1) := by decide +kernel
theorem dX6_free_19 : decode cX6_free 19 = .ok (.if_icmp .ge 22, 3) := by decide +kernel
theorem dX6_free_22 : decode cX6_free 22 = .ok (.aload_n 2, 1) := by decide +kernel
theorem dX6_free_23 : decode cX6_free 23 = .ok (.iload 4, 2) := by decide +kernel
theorem dX6_free_25 : decode cX6_free 25 = .ok (.aaload, 1) := by decide +kernel
theorem dX6_free_26 : decode cX6_free 26 = .ok (.astore 5, 2) := by decide +kernel
theorem dX6_free_28 : decode cX6_free 28 = .ok (.iload_n 1, 1) := by decide +kernel
theorem dX6_free_29 : decode cX6_free 29 = .ok (.aload 5, 2) := by decide +kernel
theorem dX6_free_31 : decode cX6_free 31 = .ok (.iconst 2, 1) := by decide +kernel
theorem dX6_free_32 : decode cX6_free 32 = .ok (.iaload, 1) := by decide +kernel
theorem dX6_free_33 : decode cX6_free 33 = .ok (.isub, 1) := by decide +kernel
theorem dX6_free_34 : decode cX6_free 34 = .ok (.istore_n 1, 1) := by decide +kernel
theorem dX6_free_35 : decode cX6_free 35 = .ok (.iinc 4 1, 3) := by decide +kernel
theorem dX6_free_38 : decode cX6_free 38 = .ok (.goto (-22), 3) := by decide +kernel
theorem dX6_free_41 : decode cX6_free 41 = .ok (.iload_n 1, 1) := by decide +kernel
theorem dX6_free_42 : decode cX6_free 42 = .ok (.ireturn, 1) := by decide +kernel
set_option maxRecDepth 20000 in
theorem ggX6_makes_X6_free : GoodIn wsX6_makes wsX6_free := goodIn_r _ [7, 8, 9, 10, 11, 12, 13, 14, 15, 16, 17, 18, 19, 20, 21] (by decide +kernel) (by decide +kernel)
set_option maxRecDepth 20000 in
theorem gX6_makes_X6_free : GoodIn wsX6_makes (wsV RX6 59 RX6 yX6_free wsX6_free) := goodIn_app (goodIn_of _ (by decide +kernel)) ggX6_makes_X6_free
theorem dX6_makes_0 : decode cX6_makes 0 = .ok (.aload_n 1, 1) := by decide +kernel
theorem dX6_makes_1 : decode cX6_makes 1 = .ok (.iconst 1, 1) := by decide +kernel
theorem dX6_makes_2 : decode cX6_makes 2 = .ok (.iaload, 1) := by decide +kernel
theorem dX6_makes_3 : decode cX6_makes 3 = .ok (.ifCond .lt 24, 3) := by decide +kernel
theorem dX6_makes_6 : decode cX6_makes 6 = .ok (.aload_n 1, 1) := by decide +kernel
theorem dX6_makes_7 : decode cX6_makes 7 = .ok (.iconst 2, 1) := by decide +kernel
theorem dX6_makes_8 : decode cX6_makes 8 = .ok (.iaload, 1) := by decide +kernel
theorem dX6_makes_9 : decode cX6_makes 9 = .ok (.ifCond .lt 18, 3) := by decide +kernel
theorem dX6_makes_12 : decode cX6_makes 12 = .ok (.aload_n 0, 1) := by decide +kernel
theorem dX6_makes_13 : decode cX6_makes 13 = .ok (.getfield 24, 3) := by decide +kernel
theorem dX6_makes_16 : decode cX6_makes 16 = .ok (.aload_n 1, 1) := by decide +kernel
theorem dX6_makes_17 : decode cX6_makes 17 = .ok (.iconst 1, 1) := by decide +kernel
theorem dX6_makes_18 : decode cX6_makes 18 = .ok (.iaload, 1) := by decide +kernel
theorem dX6_makes_19 : decode cX6_makes 19 = .ok (.aaload, 1) := by decide +kernel
theorem dX6_makes_20 : decode cX6_makes 20 = .ok (.iconst 1, 1) := by decide +kernel
theorem dX6_makes_21 : decode cX6_makes 21 = .ok (.iaload, 1) := by decide +kernel
theorem dX6_makes_22 : decode cX6_makes 22 = .ok (.bipush 30, 2) := by decide +kernel
theorem dX6_makes_24 : decode cX6_makes 24 = .ok (.if_icmp .ge 5, 3) := by decide +kernel
theorem dX6_makes_27 : decode cX6_makes 27 = .ok (.iconst 0, 1) := by decide +kernel
theorem dX6_makes_28 : decode cX6_makes 28 = .ok (.ireturn, 1) := by decide +kernel
theorem dX6_makes_29 : decode cX6_makes 29 = .ok (.aload_n 0, 1) := by decide +kernel
theorem dX6_makes_30 : decode cX6_makes 30 = .ok (.getfield 24, 3) := by decide +kernel
theorem dX6_makes_33 : decode cX6_makes 33 = .ok (.aload_n 1, 1) := by decide +kernel
theorem dX6_makes_34 : decode cX6_makes 34 = .ok (.iconst 1, 1) := by decide +kernel
theorem dX6_makes_35 : decode cX6_makes 35 = .ok (.iaload, 1) := by decide +kernel
theorem dX6_makes_36 : decode cX6_makes 36 = .ok (.aaload, 1) := by decide +kernel
theorem dX6_makes_37 : decode cX6_makes 37 = .ok (.iconst 0, 1) := by decide +kernel
theorem dX6_makes_38 : decode cX6_makes 38 = .ok (.iaload, 1) := by decide +kernel
theorem dX6_makes_39 : decode cX6_makes 39 = .ok (.aload_n 0, 1) := by decide +kernel
theorem dX6_makes_40 : decode cX6_makes 40 = .ok (.getfield 28, 3) := by decide +kernel
theorem dX6_makes_43 : decode cX6_makes 43 = .ok (.aload_n 1, 1) := by decide +kernel
theorem dX6_makes_44 : decode cX6_makes 44 = .ok (.iconst 2, 1) := by decide +kernel
theorem dX6_makes_45 : decode cX6_makes 45 = .ok (.iaload, 1) := by decide +kernel
theorem dX6_makes_46 : decode cX6_makes 46 = .ok (.aaload, 1) := by decide +kernel
theorem dX6_makes_47 : decode cX6_makes 47 = .ok (.iconst 1, 1) := by decide +kernel
theorem dX6_makes_48 : decode cX6_makes 48 = .ok (.iaload, 1) := by decide +kernel
theorem dX6_makes_49 : decode cX6_makes 49 = .ok (.idiv, 1) := by decide +kernel
theorem dX6_makes_50 : decode cX6_makes 50 = .ok (.istore_n 2, 1) := by decide +kernel
theorem dX6_makes_51 : decode cX6_makes 51 = .ok (.aload_n 0, 1) := by decide +kernel
theorem dX6_makes_52 : decode cX6_makes 52 = .ok (.invokevirtual 59, 3) := by decide +kernel
theorem dX6_makes_55 : decode cX6_makes 55 = .ok (.iload_n 2, 1) := by decide +kernel
theorem dX6_makes_56 : decode cX6_makes 56 = .ok (.if_icmp .ge 8, 3) := by decide +kernel
theorem dX6_makes_59 : decode cX6_makes 59 = .ok (.aload_n 0, 1) := by decide +kernel
theorem dX6_makes_60 : decode cX6_makes 60 = .ok (.invokevirtual 59, 3) := by decide +kernel
theorem dX6_makes_63 : decode cX6_makes 63 = .ok (.istore_n 2, 1) := by decide +kernel
theorem dX6_makes_64 : decode cX6_makes 64 = .ok (.aload_n 1, 1) := by decide +kernel
theorem dX6_makes_65 : decode cX6_makes 65 = .ok (.iconst 0, 1) := by decide +kernel
theorem dX6_makes_66 : decode cX6_makes 66 = .ok (.iaload, 1) := by decide +kernel
theorem dX6_makes_67 : decode cX6_makes 67 = .ok (.iload_n 2, 1) := by decide +kernel
theorem dX6_makes_68 : decode cX6_makes 68 = .ok (.if_icmp .ge 9, 3) := by decide +kernel
theorem dX6_makes_71 : decode cX6_makes 71 = .ok (.aload_n 1, 1) := by decide +kernel
theorem dX6_makes_72 : decode cX6_makes 72 = .ok (.iconst 0, 1) := by decide +kernel
theorem dX6_makes_73 : decode cX6_makes 73 = .ok (.iaload, 1) := by decide +kernel
theorem dX6_makes_74 : decode cX6_makes 74 = .ok (.goto 4, 3) := by decide +kernel
theorem dX6_makes_77 : decode cX6_makes 77 = .ok (.iload_n 2, 1) := by decide +kernel
theorem dX6_makes_78 : decode cX6_makes 78 = .ok (.ireturn, 1) := by decide +kernel
theorem dX6_worth_0 : decode cX6_worth 0 = .ok (.iload_n 0, 1) := by decide +kernel
theorem dX6_worth_1 : decode cX6_worth 1 = .ok (.iconst 2, 1) := by decide +kernel
theorem dX6_worth_2 : decode cX6_worth 2 = .ok (.if_icmp .ne 7, 3) := by decide +kernel
theorem dX6_worth_5 : decode cX6_worth 5 = .ok (.iconst 3, 1) := by decide +kernel
theorem dX6_worth_6 : decode cX6_worth 6 = .ok (.goto 9, 3) := by decide +kernel
theorem dX6_worth_9 : decode cX6_worth 9 = .ok (.bipush 12, 2) := by decide +kernel
theorem dX6_worth_11 : decode cX6_worth 11 = .ok (.iconst 5, 1) := by decide +kernel
theorem dX6_worth_12 : decode cX6_worth 12 = .ok (.iload_n 0, 1) := by decide +kernel
theorem dX6_worth_13 : decode cX6_worth 13 = .ok (.imul, 1) := by decide +kernel
theorem dX6_worth_14 : decode cX6_worth 14 = .ok (.isub, 1) := by decide +kernel
theorem dX6_worth_15 : decode cX6_worth 15 = .ok (.ireturn, 1) := by decide +kernel
set_option maxRecDepth 20000 in
theorem ggX6_pass_X6_makes : GoodIn wsX6_pass wsX6_makes := goodIn_r _ [20, 1, 9, 21, 22, 23, 19, 24, 25, 10, 32, 33, 34, 35, 36, 37, 38, 39, 40, 41, 42, 43] (by decide +kernel) (by decide +kernel)
set_option maxRecDepth 20000 in
theorem gX6_pass_X6_makes : GoodIn wsX6_pass (wsV RX6 69 RX6 yX6_makes wsX6_makes) := goodIn_app (goodIn_of _ (by decide +kernel)) ggX6_pass_X6_makes
set_option maxRecDepth 20000 in
theorem ggX6_pass_X6_more : GoodIn wsX6_pass wsX6_more := goodIn_r _ [28, 15] (by decide +kernel) (by decide +kernel)
set_option maxRecDepth 20000 in
theorem gX6_pass_X6_more : GoodIn wsX6_pass (va_wsS RX6 73 yX6_more wsX6_more) := goodIn_app (goodIn_of _ (by decide +kernel)) ggX6_pass_X6_more
set_option maxRecDepth 20000 in
theorem ggX6_pass_X6_worth : GoodIn wsX6_pass wsX6_worth := goodIn_r _ [31] (by decide +kernel) (by decide +kernel)
set_option maxRecDepth 20000 in
theorem gX6_pass_X6_worth : GoodIn wsX6_pass (va_wsS RX6 77 yX6_worth wsX6_worth) := goodIn_app (goodIn_of _ (by decide +kernel)) ggX6_pass_X6_worth
theorem dX6_pass_0 : decode cX6_pass 0 = .ok (.iconst 0, 1) := by decide +kernel
theorem dX6_pass_1 : decode cX6_pass 1 = .ok (.istore_n 1, 1) := by decide +kernel
theorem dX6_pass_2 : decode cX6_pass 2 = .ok (.aload_n 0, 1) := by decide +kernel
theorem dX6_pass_3 : decode cX6_pass 3 = .ok (.getfield 24, 3) := by decide +kernel
theorem dX6_pass_6 : decode cX6_pass 6 = .ok (.astore_n 2, 1) := by decide +kernel
theorem dX6_pass_7 : decode cX6_pass 7 = .ok (.aload_n 2, 1) := by decide +kernel
theorem dX6_pass_8 : decode cX6_pass 8 = .ok (.arraylength, 1) := by decide +kernel
theorem dX6_pass_9 : decode cX6_pass 9 = .ok (.istore_n 3, 1) := by decide +kernel
theorem dX6_pass_10 : decode cX6_pass 10 = .ok (.iconst 0, 1) := by decide +kernel
theorem dX6_pass_11 : decode cX6_pass 11 = .ok (.istore 4, 2) := by decide +kernel
theorem dX6_pass_13 : decode cX6_pass 13 = .ok (.iload 4, 2) := by decide +kernel
theorem dX6_pass_15 : decode cX6_pass 15 = .ok (.iload_n 3, 1) := by decide +kernel
theorem dX6_pass_16 : decode cX6_pass 16 = .ok (.if_icmp .ge 30, 3) := by decide +kernel
theorem dX6_pass_19 : decode cX6_pass 19 = .ok (.aload_n 2, 1) := by decide +kernel
theorem dX6_pass_20 : decode cX6_pass 20 = .ok (.iload 4, 2) := by decide +kernel
theorem dX6_pass_22 : decode cX6_pass 22 = .ok (.aaload, 1) := by decide +kernel
theorem dX6_pass_23 : decode cX6_pass 23 = .ok (.astore 5, 2) := by decide +kernel
theorem dX6_pass_25 : decode cX6_pass 25 = .ok (.iload_n 1, 1) := by decide +kernel
theorem dX6_pass_26 : decode cX6_pass 26 = .ok (.aload 5, 2) := by decide +kernel
theorem dX6_pass_28 : decode cX6_pass 28 = .ok (.iconst 0, 1) := by decide +kernel
theorem dX6_pass_29 : decode cX6_pass 29 = .ok (.iaload, 1) := by decide +kernel
theorem dX6_pass_30 : decode cX6_pass 30 = .ok (.ifCond .le 7, 3) := by decide +kernel
theorem dX6_pass_33 : decode cX6_pass 33 = .ok (.iconst 1, 1) := by decide +kernel
theorem dX6_pass_34 : decode cX6_pass 34 = .ok (.goto 4, 3) := by decide +kernel
theorem dX6_pass_37 : decode cX6_pass 37 = .ok (.iconst 0, 1) := by decide +kernel
theorem dX6_pass_38 : decode cX6_pass 38 = .ok (.iadd, 1) := by decide +kernel
theorem dX6_pass_39 : decode cX6_pass 39 = .ok (.istore_n 1, 1) := by decide +kernel
theorem dX6_pass_40 : decode cX6_pass 40 = .ok (.iinc 4 1, 3) := by decide +kernel
theorem dX6_pass_43 : decode cX6_pass 43 = .ok (.goto (-30), 3) := by decide +kernel
theorem dX6_pass_46 : decode cX6_pass 46 = .ok (.aload_n 0, 1) := by decide +kernel
theorem dX6_pass_47 : decode cX6_pass 47 = .ok (.getfield 24, 3) := by decide +kernel
theorem dX6_pass_50 : decode cX6_pass 50 = .ok (.astore_n 2, 1) := by decide +kernel
theorem dX6_pass_51 : decode cX6_pass 51 = .ok (.aload_n 2, 1) := by decide +kernel
theorem dX6_pass_52 : decode cX6_pass 52 = .ok (.arraylength, 1) := by decide +kernel
theorem dX6_pass_53 : decode cX6_pass 53 = .ok (.istore_n 3, 1) := by decide +kernel
theorem dX6_pass_54 : decode cX6_pass 54 = .ok (.iconst 0, 1) := by decide +kernel
theorem dX6_pass_55 : decode cX6_pass 55 = .ok (.istore 4, 2) := by decide +kernel
theorem dX6_pass_57 : decode cX6_pass 57 = .ok (.iload 4, 2) := by decide +kernel
theorem dX6_pass_59 : decode cX6_pass 59 = .ok (.iload_n 3, 1) := by decide +kernel
theorem dX6_pass_60 : decode cX6_pass 60 = .ok (.if_icmp .ge 52, 3) := by decide +kernel
theorem dX6_pass_63 : decode cX6_pass 63 = .ok (.aload_n 2, 1) := by decide +kernel
theorem dX6_pass_64 : decode cX6_pass 64 = .ok (.iload 4, 2) := by decide +kernel
theorem dX6_pass_66 : decode cX6_pass 66 = .ok (.aaload, 1) := by decide +kernel
theorem dX6_pass_67 : decode cX6_pass 67 = .ok (.astore 5, 2) := by decide +kernel
theorem dX6_pass_69 : decode cX6_pass 69 = .ok (.aload 5, 2) := by decide +kernel
theorem dX6_pass_71 : decode cX6_pass 71 = .ok (.iconst 0, 1) := by decide +kernel
theorem dX6_pass_72 : decode cX6_pass 72 = .ok (.iaload, 1) := by decide +kernel
theorem dX6_pass_73 : decode cX6_pass 73 = .ok (.ifCond .le 33, 3) := by decide +kernel
theorem dX6_pass_76 : decode cX6_pass 76 = .ok (.aload 5, 2) := by decide +kernel
theorem dX6_pass_78 : decode cX6_pass 78 = .ok (.iconst 1, 1) := by decide +kernel
theorem dX6_pass_79 : decode cX6_pass 79 = .ok (.bipush 99, 2) := by decide +kernel
theorem dX6_pass_81 : decode cX6_pass 81 = .ok (.aload 5, 2) := by decide +kernel
theorem dX6_pass_83 : decode cX6_pass 83 = .ok (.iconst 1, 1) := by decide +kernel
theorem dX6_pass_84 : decode cX6_pass 84 = .ok (.iaload, 1) := by decide +kernel
theorem dX6_pass_85 : decode cX6_pass 85 = .ok (.aload_n 0, 1) := by decide +kernel
theorem dX6_pass_86 : decode cX6_pass 86 = .ok (.getfield 16, 3) := by decide +kernel
theorem dX6_pass_89 : decode cX6_pass 89 = .ok (.aload_n 0, 1) := by decide +kernel
theorem dX6_pass_90 : decode cX6_pass 90 = .ok (.getfield 46, 3) := by decide +kernel
theorem dX6_pass_93 : decode cX6_pass 93 = .ok (.bipush 7, 2) := by decide +kernel
theorem dX6_pass_95 : decode cX6_pass 95 = .ok (.irem, 1) := by decide +kernel
theorem dX6_pass_96 : decode cX6_pass 96 = .ok (.iaload, 1) := by decide +kernel
theorem dX6_pass_97 : decode cX6_pass 97 = .ok (.iconst 3, 1) := by decide +kernel
theorem dX6_pass_98 : decode cX6_pass 98 = .ok (.imul, 1) := by decide +kernel
theorem dX6_pass_99 : decode cX6_pass 99 = .ok (.iload_n 1, 1) := by decide +kernel
theorem dX6_pass_100 : decode cX6_pass 100 = .ok (.idiv, 1) := by decide +kernel
theorem dX6_pass_101 : decode cX6_pass 101 = .ok (.iadd, 1) := by decide +kernel
theorem dX6_pass_102 : decode cX6_pass 102 = .ok (.invokestatic 63, 3) := by decide +kernel
theorem dX6_pass_105 : decode cX6_pass 105 = .ok (.iastore, 1) := by decide +kernel
theorem dX6_pass_106 : decode cX6_pass 106 = .ok (.iinc 4 1, 3) := by decide +kernel
theorem dX6_pass_109 : decode cX6_pass 109 = .ok (.goto (-52), 3) := by decide +kernel
theorem dX6_pass_112 : decode cX6_pass 112 = .ok (.iconst 0, 1) := by decide +kernel
theorem dX6_pass_113 : decode cX6_pass 113 = .ok (.istore_n 2, 1) := by decide +kernel
theorem dX6_pass_114 : decode cX6_pass 114 = .ok (.aload_n 0, 1) := by decide +kernel
theorem dX6_pass_115 : decode cX6_pass 115 = .ok (.getfield 31, 3) := by decide +kernel
theorem dX6_pass_118 : decode cX6_pass 118 = .ok (.astore_n 3, 1) := by decide +kernel
theorem dX6_pass_119 : decode cX6_pass 119 = .ok (.aload_n 3, 1) := by decide +kernel
theorem dX6_pass_120 : decode cX6_pass 120 = .ok (.arraylength, 1) := by decide +kernel
theorem dX6_pass_121 : decode cX6_pass 121 = .ok (.istore 4, 2) := by decide +kernel
theorem dX6_pass_123 : decode cX6_pass 123 = .ok (.iconst 0, 1) := by decide +kernel
theorem dX6_pass_124 : decode cX6_pass 124 = .ok (.istore 5, 2) := by decide +kernel
theorem dX6_pass_126 : decode cX6_pass 126 = .ok (.iload 5, 2) := by decide +kernel
theorem dX6_pass_128 : decode cX6_pass 128 = .ok (.iload 4, 2) := by decide +kernel
theorem dX6_pass_130 : decode cX6_pass 130 = .ok (.if_icmp .ge 212, 3) := by decide +kernel
theorem dX6_pass_133 : decode cX6_pass 133 = .ok (.aload_n 3, 1) := by decide +kernel
theorem dX6_pass_134 : decode cX6_pass 134 = .ok (.iload 5, 2) := by decide +kernel
theorem dX6_pass_136 : decode cX6_pass 136 = .ok (.aaload, 1) := by decide +kernel
theorem dX6_pass_137 : decode cX6_pass 137 = .ok (.astore 6, 2) := by decide +kernel
theorem dX6_pass_139 : decode cX6_pass 139 = .ok (.aload_n 0, 1) := by decide +kernel
theorem dX6_pass_140 : decode cX6_pass 140 = .ok (.aload 6, 2) := by decide +kernel
theorem dX6_pass_142 : decode cX6_pass 142 = .ok (.invokevirtual 69, 3) := by decide +kernel
theorem dX6_pass_145 : decode cX6_pass 145 = .ok (.istore 7, 2) := by decide +kernel
theorem dX6_pass_147 : decode cX6_pass 147 = .ok (.iload 7, 2) := by decide +kernel
theorem dX6_pass_149 : decode cX6_pass 149 = .ok (.ifCond .ne 6, 3) := by decide +kernel
theorem dX6_pass_152 : decode cX6_pass 152 = .ok (.goto 184, 3) := by decide +kernel
theorem dX6_pass_155 : decode cX6_pass 155 = .ok (.aload_n 0, 1) := by decide +kernel
theorem dX6_pass_156 : decode cX6_pass 156 = .ok (.getfield 24, 3) := by decide +kernel
theorem dX6_pass_159 : decode cX6_pass 159 = .ok (.aload 6, 2) := by decide +kernel
theorem dX6_pass_161 : decode cX6_pass 161 = .ok (.iconst 1, 1) := by decide +kernel
theorem dX6_pass_162 : decode cX6_pass 162 = .ok (.iaload, 1) := by decide +kernel
theorem dX6_pass_163 : decode cX6_pass 163 = .ok (.aaload, 1) := by decide +kernel
theorem dX6_pass_164 : decode cX6_pass 164 = .ok (.astore 8, 2) := by decide +kernel
theorem dX6_pass_166 : decode cX6_pass 166 = .ok (.aload_n 0, 1) := by decide +kernel
theorem dX6_pass_167 : decode cX6_pass 167 = .ok (.getfield 28, 3) := by decide +kernel
theorem dX6_pass_170 : decode cX6_pass 170 = .ok (.aload 6, 2) := by decide +kernel
theorem dX6_pass_172 : decode cX6_pass 172 = .ok (.iconst 2, 1) := by decide +kernel
theorem dX6_pass_173 : decode cX6_pass 173 = .ok (.iaload, 1) := by decide +kernel
theorem dX6_pass_174 : decode cX6_pass 174 = .ok (.aaload, 1) := by decide +kernel
theorem dX6_pass_175 : decode cX6_pass 175 = .ok (.astore 9, 2) := by decide +kernel
theorem dX6_pass_177 : decode cX6_pass 177 = .ok (.aload 8, 2) := by decide +kernel
theorem dX6_pass_179 : decode cX6_pass 179 = .ok (.iconst 1, 1) := by decide +kernel
theorem dX6_pass_180 : decode cX6_pass 180 = .ok (.iaload, 1) := by decide +kernel
theorem dX6_pass_181 : decode cX6_pass 181 = .ok (.bipush 10, 2) := by decide +kernel
theorem dX6_pass_183 : decode cX6_pass 183 = .ok (.idiv, 1) := by decide +kernel
theorem dX6_pass_184 : decode cX6_pass 184 = .ok (.bipush 6, 2) := by decide +kernel
theorem dX6_pass_186 : decode cX6_pass 186 = .ok (.iadd, 1) := by decide +kernel
theorem dX6_pass_187 : decode cX6_pass 187 = .ok (.iconst 3, 1) := by decide +kernel
theorem dX6_pass_188 : decode cX6_pass 188 = .ok (.aload 8, 2) := by decide +kernel
theorem dX6_pass_190 : decode cX6_pass 190 = .ok (.iconst 2, 1) := by decide +kernel
theorem dX6_pass_191 : decode cX6_pass 191 = .ok (.iaload, 1) := by decide +kernel
theorem dX6_pass_192 : decode cX6_pass 192 = .ok (.imul, 1) := by decide +kernel
theorem dX6_pass_193 : decode cX6_pass 193 = .ok (.isub, 1) := by decide +kernel
theorem dX6_pass_194 : decode cX6_pass 194 = .ok (.aload 9, 2) := by decide +kernel
theorem dX6_pass_196 : decode cX6_pass 196 = .ok (.iconst 2, 1) := by decide +kernel
theorem dX6_pass_197 : decode cX6_pass 197 = .ok (.iaload, 1) := by decide +kernel
theorem dX6_pass_198 : decode cX6_pass 198 = .ok (.bipush 10, 2) := by decide +kernel
theorem dX6_pass_200 : decode cX6_pass 200 = .ok (.idiv, 1) := by decide +kernel
theorem dX6_pass_201 : decode cX6_pass 201 = .ok (.isub, 1) := by decide +kernel
theorem dX6_pass_202 : decode cX6_pass 202 = .ok (.istore 10, 2) := by decide +kernel
theorem dX6_pass_204 : decode cX6_pass 204 = .ok (.iload 10, 2) := by decide +kernel
theorem dX6_pass_206 : decode cX6_pass 206 = .ok (.bipush 7, 2) := by decide +kernel
theorem dX6_pass_208 : decode cX6_pass 208 = .ok (.if_icmp .ge 7, 3) := by decide +kernel
theorem dX6_pass_211 : decode cX6_pass 211 = .ok (.iconst 2, 1) := by decide +kernel
theorem dX6_pass_212 : decode cX6_pass 212 = .ok (.goto 15, 3) := by decide +kernel
theorem dX6_pass_215 : decode cX6_pass 215 = .ok (.iload 10, 2) := by decide +kernel
theorem dX6_pass_217 : decode cX6_pass 217 = .ok (.bipush 12, 2) := by decide +kernel
theorem dX6_pass_219 : decode cX6_pass 219 = .ok (.if_icmp .ge 7, 3) := by decide +kernel
theorem dX6_pass_222 : decode cX6_pass 222 = .ok (.iconst 1, 1) := by decide +kernel
theorem dX6_pass_223 : decode cX6_pass 223 = .ok (.goto 4, 3) := by decide +kernel
theorem dX6_pass_226 : decode cX6_pass 226 = .ok (.iconst 0, 1) := by decide +kernel
theorem dX6_pass_227 : decode cX6_pass 227 = .ok (.istore 11, 2) := by decide +kernel
theorem dX6_pass_229 : decode cX6_pass 229 = .ok (.aload_n 0, 1) := by decide +kernel
theorem dX6_pass_230 : decode cX6_pass 230 = .ok (.aload_n 0, 1) := by decide +kernel
theorem dX6_pass_231 : decode cX6_pass 231 = .ok (.getfield 34, 3) := by decide +kernel
theorem dX6_pass_234 : decode cX6_pass 234 = .ok (.iconst 3, 1) := by decide +kernel
theorem dX6_pass_235 : decode cX6_pass 235 = .ok (.newarray .int, 2) := by decide +kernel
theorem dX6_pass_237 : decode cX6_pass 237 = .ok (.dup, 1) := by decide +kernel
theorem dX6_pass_238 : decode cX6_pass 238 = .ok (.iconst 0, 1) := by decide +kernel
theorem dX6_pass_239 : decode cX6_pass 239 = .ok (.aload 9, 2) := by decide +kernel
theorem dX6_pass_241 : decode cX6_pass 241 = .ok (.iconst 0, 1) := by decide +kernel
theorem dX6_pass_242 : decode cX6_pass 242 = .ok (.iaload, 1) := by decide +kernel
theorem dX6_pass_243 : decode cX6_pass 243 = .ok (.iastore, 1) := by decide +kernel
theorem dX6_pass_244 : decode cX6_pass 244 = .ok (.dup, 1) := by decide +kernel
theorem dX6_pass_245 : decode cX6_pass 245 = .ok (.iconst 1, 1) := by decide +kernel
theorem dX6_pass_246 : decode cX6_pass 246 = .ok (.iload 11, 2) := by decide +kernel
theorem dX6_pass_248 : decode cX6_pass 248 = .ok (.iastore, 1) := by decide +kernel
theorem dX6_pass_249 : decode cX6_pass 249 = .ok (.dup, 1) := by decide +kernel
theorem dX6_pass_250 : decode cX6_pass 250 = .ok (.iconst 2, 1) := by decide +kernel
theorem dX6_pass_251 : decode cX6_pass 251 = .ok (.iload 7, 2) := by decide +kernel
theorem dX6_pass_253 : decode cX6_pass 253 = .ok (.iastore, 1) := by decide +kernel
theorem dX6_pass_254 : decode cX6_pass 254 = .ok (.invokestatic 73, 3) := by decide +kernel
theorem dX6_pass_257 : decode cX6_pass 257 = .ok (.putfield 34, 3) := by decide +kernel
theorem dX6_pass_260 : decode cX6_pass 260 = .ok (.aload 8, 2) := by decide +kernel
theorem dX6_pass_262 : decode cX6_pass 262 = .ok (.iconst 0, 1) := by decide +kernel
theorem dX6_pass_263 : decode cX6_pass 263 = .ok (.dup2, 1) := by decide +kernel
theorem dX6_pass_264 : decode cX6_pass 264 = .ok (.iaload, 1) := by decide +kernel
theorem dX6_pass_265 : decode cX6_pass 265 = .ok (.iload 7, 2) := by decide +kernel
theorem dX6_pass_267 : decode cX6_pass 267 = .ok (.aload 9, 2) := by decide +kernel
theorem dX6_pass_269 : decode cX6_pass 269 = .ok (.iconst 1, 1) := by decide +kernel
theorem dX6_pass_270 : decode cX6_pass 270 = .ok (.iaload, 1) := by decide +kernel
theorem dX6_pass_271 : decode cX6_pass 271 = .ok (.imul, 1) := by decide +kernel
theorem dX6_pass_272 : decode cX6_pass 272 = .ok (.isub, 1) := by decide +kernel
theorem dX6_pass_273 : decode cX6_pass 273 = .ok (.iastore, 1) := by decide +kernel
theorem dX6_pass_274 : decode cX6_pass 274 = .ok (.aload 8, 2) := by decide +kernel
theorem dX6_pass_276 : decode cX6_pass 276 = .ok (.iconst 0, 1) := by decide +kernel
theorem dX6_pass_277 : decode cX6_pass 277 = .ok (.iaload, 1) := by decide +kernel
theorem dX6_pass_278 : decode cX6_pass 278 = .ok (.ifCond .ne 13, 3) := by decide +kernel
theorem dX6_pass_281 : decode cX6_pass 281 = .ok (.aload 8, 2) := by decide +kernel
theorem dX6_pass_283 : decode cX6_pass 283 = .ok (.iconst 1, 1) := by decide +kernel
theorem dX6_pass_284 : decode cX6_pass 284 = .ok (.iconst 0, 1) := by decide +kernel
theorem dX6_pass_285 : decode cX6_pass 285 = .ok (.iastore, 1) := by decide +kernel
theorem dX6_pass_286 : decode cX6_pass 286 = .ok (.aload 8, 2) := by decide +kernel
theorem dX6_pass_288 : decode cX6_pass 288 = .ok (.iconst 2, 1) := by decide +kernel
theorem dX6_pass_289 : decode cX6_pass 289 = .ok (.iconst (-1), 1) := by decide +kernel
theorem dX6_pass_290 : decode cX6_pass 290 = .ok (.iastore, 1) := by decide +kernel
theorem dX6_pass_291 : decode cX6_pass 291 = .ok (.aload 9, 2) := by decide +kernel
theorem dX6_pass_293 : decode cX6_pass 293 = .ok (.iconst 2, 1) := by decide +kernel
theorem dX6_pass_294 : decode cX6_pass 294 = .ok (.bipush 50, 2) := by decide +kernel
theorem dX6_pass_296 : decode cX6_pass 296 = .ok (.aload 9, 2) := by decide +kernel
theorem dX6_pass_298 : decode cX6_pass 298 = .ok (.iconst 2, 1) := by decide +kernel
theorem dX6_pass_299 : decode cX6_pass 299 = .ok (.iaload, 1) := by decide +kernel
theorem dX6_pass_300 : decode cX6_pass 300 = .ok (.iload 7, 2) := by decide +kernel
theorem dX6_pass_302 : decode cX6_pass 302 = .ok (.iconst 2, 1) := by decide +kernel
theorem dX6_pass_303 : decode cX6_pass 303 = .ok (.idiv, 1) := by decide +kernel
theorem dX6_pass_304 : decode cX6_pass 304 = .ok (.iadd, 1) := by decide +kernel
theorem dX6_pass_305 : decode cX6_pass 305 = .ok (.iload 7, 2) := by decide +kernel
theorem dX6_pass_307 : decode cX6_pass 307 = .ok (.iconst 2, 1) := by decide +kernel
theorem dX6_pass_308 : decode cX6_pass 308 = .ok (.irem, 1) := by decide +kernel
theorem dX6_pass_309 : decode cX6_pass 309 = .ok (.iadd, 1) := by decide +kernel
theorem dX6_pass_310 : decode cX6_pass 310 = .ok (.invokestatic 63, 3) := by decide +kernel
theorem dX6_pass_313 : decode cX6_pass 313 = .ok (.iastore, 1) := by decide +kernel
theorem dX6_pass_314 : decode cX6_pass 314 = .ok (.iload_n 2, 1) := by decide +kernel
theorem dX6_pass_315 : decode cX6_pass 315 = .ok (.iload 7, 2) := by decide +kernel
theorem dX6_pass_317 : decode cX6_pass 317 = .ok (.iadd, 1) := by decide +kernel
theorem dX6_pass_318 : decode cX6_pass 318 = .ok (.istore_n 2, 1) := by decide +kernel
theorem dX6_pass_319 : decode cX6_pass 319 = .ok (.aload_n 0, 1) := by decide +kernel
theorem dX6_pass_320 : decode cX6_pass 320 = .ok (.dup, 1) := by decide +kernel
theorem dX6_pass_321 : decode cX6_pass 321 = .ok (.getfield 52, 3) := by decide +kernel
theorem dX6_pass_324 : decode cX6_pass 324 = .ok (.iload 7, 2) := by decide +kernel
end
section
theorem dX6_pass_326 : decode cX6_pass 326 = .ok (.iload 11, 2) := by decide +kernel
theorem dX6_pass_328 : decode cX6_pass 328 = .ok (.invokestatic 77, 3) := by decide +kernel
theorem dX6_pass_331 : decode cX6_pass 331 = .ok (.imul, 1) := by decide +kernel
theorem dX6_pass_332 : decode cX6_pass 332 = .ok (.iadd, 1) := by decide +kernel
theorem dX6_pass_333 : decode cX6_pass 333 = .ok (.putfield 52, 3) := by decide +kernel
theorem dX6_pass_336 : decode cX6_pass 336 = .ok (.iinc 5 1, 3) := by decide +kernel
theorem dX6_pass_339 : decode cX6_pass 339 = .ok (.goto (-213), 3) := by decide +kernel
theorem dX6_pass_342 : decode cX6_pass 342 = .ok (.aload_n 0, 1) := by decide +kernel
theorem dX6_pass_343 : decode cX6_pass 343 = .ok (.dup, 1) := by decide +kernel
theorem dX6_pass_344 : decode cX6_pass 344 = .ok (.getfield 49, 3) := by decide +kernel
theorem dX6_pass_347 : decode cX6_pass 347 = .ok (.iload_n 2, 1) := by decide +kernel
theorem dX6_pass_348 : decode cX6_pass 348 = .ok (.iadd, 1) := by decide +kernel
theorem dX6_pass_349 : decode cX6_pass 349 = .ok (.putfield 49, 3) := by decide +kernel
theorem dX6_pass_352 : decode cX6_pass 352 = .ok (.bipush 24, 2) := by decide +kernel
theorem dX6_pass_354 : decode cX6_pass 354 = .ok (.istore_n 3, 1) := by decide +kernel
theorem dX6_pass_355 : decode cX6_pass 355 = .ok (.aload_n 0, 1) := by decide +kernel
theorem dX6_pass_356 : decode cX6_pass 356 = .ok (.getfield 34, 3) := by decide +kernel
theorem dX6_pass_359 : decode cX6_pass 359 = .ok (.astore 4, 2) := by decide +kernel
theorem dX6_pass_361 : decode cX6_pass 361 = .ok (.aload 4, 2) := by decide +kernel
theorem dX6_pass_363 : decode cX6_pass 363 = .ok (.arraylength, 1) := by decide +kernel
theorem dX6_pass_364 : decode cX6_pass 364 = .ok (.istore 5, 2) := by decide +kernel
theorem dX6_pass_366 : decode cX6_pass 366 = .ok (.iconst 0, 1) := by decide +kernel
theorem dX6_pass_367 : decode cX6_pass 367 = .ok (.istore 6, 2) := by decide +kernel
theorem dX6_pass_369 : decode cX6_pass 369 = .ok (.iload 6, 2) := by decide +kernel
theorem dX6_pass_371 : decode cX6_pass 371 = .ok (.iload 5, 2) := by decide +kernel
theorem dX6_pass_373 : decode cX6_pass 373 = .ok (.if_icmp .ge 67, 3) := by decide +kernel
theorem dX6_pass_376 : decode cX6_pass 376 = .ok (.aload 4, 2) := by decide +kernel
theorem dX6_pass_378 : decode cX6_pass 378 = .ok (.iload 6, 2) := by decide +kernel
theorem dX6_pass_380 : decode cX6_pass 380 = .ok (.aaload, 1) := by decide +kernel
theorem dX6_pass_381 : decode cX6_pass 381 = .ok (.astore 7, 2) := by decide +kernel
theorem dX6_pass_383 : decode cX6_pass 383 = .ok (.aload 7, 2) := by decide +kernel
theorem dX6_pass_385 : decode cX6_pass 385 = .ok (.iconst 2, 1) := by decide +kernel
theorem dX6_pass_386 : decode cX6_pass 386 = .ok (.iaload, 1) := by decide +kernel
theorem dX6_pass_387 : decode cX6_pass 387 = .ok (.iload_n 3, 1) := by decide +kernel
theorem dX6_pass_388 : decode cX6_pass 388 = .ok (.if_icmp .ge 10, 3) := by decide +kernel
theorem dX6_pass_391 : decode cX6_pass 391 = .ok (.aload 7, 2) := by decide +kernel
theorem dX6_pass_393 : decode cX6_pass 393 = .ok (.iconst 2, 1) := by decide +kernel
theorem dX6_pass_394 : decode cX6_pass 394 = .ok (.iaload, 1) := by decide +kernel
theorem dX6_pass_395 : decode cX6_pass 395 = .ok (.goto 4, 3) := by decide +kernel
theorem dX6_pass_398 : decode cX6_pass 398 = .ok (.iload_n 3, 1) := by decide +kernel
theorem dX6_pass_399 : decode cX6_pass 399 = .ok (.istore 8, 2) := by decide +kernel
theorem dX6_pass_401 : decode cX6_pass 401 = .ok (.aload_n 0, 1) := by decide +kernel
theorem dX6_pass_402 : decode cX6_pass 402 = .ok (.getfield 38, 3) := by decide +kernel
theorem dX6_pass_405 : decode cX6_pass 405 = .ok (.aload 7, 2) := by decide +kernel
theorem dX6_pass_407 : decode cX6_pass 407 = .ok (.iconst 0, 1) := by decide +kernel
theorem dX6_pass_408 : decode cX6_pass 408 = .ok (.iaload, 1) := by decide +kernel
theorem dX6_pass_409 : decode cX6_pass 409 = .ok (.aaload, 1) := by decide +kernel
theorem dX6_pass_410 : decode cX6_pass 410 = .ok (.aload 7, 2) := by decide +kernel
theorem dX6_pass_412 : decode cX6_pass 412 = .ok (.iconst 1, 1) := by decide +kernel
theorem dX6_pass_413 : decode cX6_pass 413 = .ok (.iaload, 1) := by decide +kernel
theorem dX6_pass_414 : decode cX6_pass 414 = .ok (.dup2, 1) := by decide +kernel
theorem dX6_pass_415 : decode cX6_pass 415 = .ok (.iaload, 1) := by decide +kernel
theorem dX6_pass_416 : decode cX6_pass 416 = .ok (.iload 8, 2) := by decide +kernel
theorem dX6_pass_418 : decode cX6_pass 418 = .ok (.iadd, 1) := by decide +kernel
theorem dX6_pass_419 : decode cX6_pass 419 = .ok (.iastore, 1) := by decide +kernel
theorem dX6_pass_420 : decode cX6_pass 420 = .ok (.aload 7, 2) := by decide +kernel
theorem dX6_pass_422 : decode cX6_pass 422 = .ok (.iconst 2, 1) := by decide +kernel
theorem dX6_pass_423 : decode cX6_pass 423 = .ok (.dup2, 1) := by decide +kernel
theorem dX6_pass_424 : decode cX6_pass 424 = .ok (.iaload, 1) := by decide +kernel
theorem dX6_pass_425 : decode cX6_pass 425 = .ok (.iload 8, 2) := by decide +kernel
theorem dX6_pass_427 : decode cX6_pass 427 = .ok (.isub, 1) := by decide +kernel
theorem dX6_pass_428 : decode cX6_pass 428 = .ok (.iastore, 1) := by decide +kernel
theorem dX6_pass_429 : decode cX6_pass 429 = .ok (.iload_n 3, 1) := by decide +kernel
theorem dX6_pass_430 : decode cX6_pass 430 = .ok (.iload 8, 2) := by decide +kernel
theorem dX6_pass_432 : decode cX6_pass 432 = .ok (.isub, 1) := by decide +kernel
theorem dX6_pass_433 : decode cX6_pass 433 = .ok (.istore_n 3, 1) := by decide +kernel
theorem dX6_pass_434 : decode cX6_pass 434 = .ok (.iinc 6 1, 3) := by decide +kernel
theorem dX6_pass_437 : decode cX6_pass 437 = .ok (.goto (-68), 3) := by decide +kernel
theorem dX6_pass_440 : decode cX6_pass 440 = .ok (.iconst 0, 1) := by decide +kernel
theorem dX6_pass_441 : decode cX6_pass 441 = .ok (.anewarray 23, 3) := by decide +kernel
theorem dX6_pass_444 : decode cX6_pass 444 = .ok (.astore 4, 2) := by decide +kernel
theorem dX6_pass_446 : decode cX6_pass 446 = .ok (.aload_n 0, 1) := by decide +kernel
theorem dX6_pass_447 : decode cX6_pass 447 = .ok (.getfield 34, 3) := by decide +kernel
theorem dX6_pass_450 : decode cX6_pass 450 = .ok (.astore 5, 2) := by decide +kernel
theorem dX6_pass_452 : decode cX6_pass 452 = .ok (.aload 5, 2) := by decide +kernel
theorem dX6_pass_454 : decode cX6_pass 454 = .ok (.arraylength, 1) := by decide +kernel
theorem dX6_pass_455 : decode cX6_pass 455 = .ok (.istore 6, 2) := by decide +kernel
theorem dX6_pass_457 : decode cX6_pass 457 = .ok (.iconst 0, 1) := by decide +kernel
theorem dX6_pass_458 : decode cX6_pass 458 = .ok (.istore 7, 2) := by decide +kernel
theorem dX6_pass_460 : decode cX6_pass 460 = .ok (.iload 7, 2) := by decide +kernel
theorem dX6_pass_462 : decode cX6_pass 462 = .ok (.iload 6, 2) := by decide +kernel
theorem dX6_pass_464 : decode cX6_pass 464 = .ok (.if_icmp .ge 32, 3) := by decide +kernel
theorem dX6_pass_467 : decode cX6_pass 467 = .ok (.aload 5, 2) := by decide +kernel
theorem dX6_pass_469 : decode cX6_pass 469 = .ok (.iload 7, 2) := by decide +kernel
theorem dX6_pass_471 : decode cX6_pass 471 = .ok (.aaload, 1) := by decide +kernel
theorem dX6_pass_472 : decode cX6_pass 472 = .ok (.astore 8, 2) := by decide +kernel
theorem dX6_pass_474 : decode cX6_pass 474 = .ok (.aload 8, 2) := by decide +kernel
theorem dX6_pass_476 : decode cX6_pass 476 = .ok (.iconst 2, 1) := by decide +kernel
theorem dX6_pass_477 : decode cX6_pass 477 = .ok (.iaload, 1) := by decide +kernel
theorem dX6_pass_478 : decode cX6_pass 478 = .ok (.ifCond .le 12, 3) := by decide +kernel
theorem dX6_pass_481 : decode cX6_pass 481 = .ok (.aload 4, 2) := by decide +kernel
theorem dX6_pass_483 : decode cX6_pass 483 = .ok (.aload 8, 2) := by decide +kernel
theorem dX6_pass_485 : decode cX6_pass 485 = .ok (.invokestatic 73, 3) := by decide +kernel
theorem dX6_pass_488 : decode cX6_pass 488 = .ok (.astore 4, 2) := by decide +kernel
theorem dX6_pass_490 : decode cX6_pass 490 = .ok (.iinc 7 1, 3) := by decide +kernel
theorem dX6_pass_493 : decode cX6_pass 493 = .ok (.goto (-33), 3) := by decide +kernel
theorem dX6_pass_496 : decode cX6_pass 496 = .ok (.aload_n 0, 1) := by decide +kernel
theorem dX6_pass_497 : decode cX6_pass 497 = .ok (.aload 4, 2) := by decide +kernel
theorem dX6_pass_499 : decode cX6_pass 499 = .ok (.putfield 34, 3) := by decide +kernel
theorem dX6_pass_502 : decode cX6_pass 502 = .ok (.aload_n 0, 1) := by decide +kernel
theorem dX6_pass_503 : decode cX6_pass 503 = .ok (.dup, 1) := by decide +kernel
theorem dX6_pass_504 : decode cX6_pass 504 = .ok (.getfield 46, 3) := by decide +kernel
theorem dX6_pass_507 : decode cX6_pass 507 = .ok (.iconst 1, 1) := by decide +kernel
theorem dX6_pass_508 : decode cX6_pass 508 = .ok (.iadd, 1) := by decide +kernel
theorem dX6_pass_509 : decode cX6_pass 509 = .ok (.putfield 46, 3) := by decide +kernel
theorem dX6_pass_512 : decode cX6_pass 512 = .ok (.iload_n 2, 1) := by decide +kernel
theorem dX6_pass_513 : decode cX6_pass 513 = .ok (.ireturn, 1) := by decide +kernel
set_option maxRecDepth 20000 in
theorem ggX6_told_X6_free : GoodIn wsX6_told wsX6_free := goodIn_r _ [15, 6, 9, 16, 17, 18, 19, 20, 21, 22, 23, 24, 25, 26, 27] (by decide +kernel) (by decide +kernel)
set_option maxRecDepth 20000 in
theorem gX6_told_X6_free : GoodIn wsX6_told (wsV RX6 59 RX6 yX6_free wsX6_free) := goodIn_app (goodIn_of _ (by decide +kernel)) ggX6_told_X6_free
theorem dX6_told_0 : decode cX6_told 0 = .ok (.iconst 0, 1) := by decide +kernel
theorem dX6_told_1 : decode cX6_told 1 = .ok (.istore_n 2, 1) := by decide +kernel
theorem dX6_told_2 : decode cX6_told 2 = .ok (.aload_n 0, 1) := by decide +kernel
theorem dX6_told_3 : decode cX6_told 3 = .ok (.getfield 38, 3) := by decide +kernel
theorem dX6_told_6 : decode cX6_told 6 = .ok (.astore_n 3, 1) := by decide +kernel
theorem dX6_told_7 : decode cX6_told 7 = .ok (.aload_n 3, 1) := by decide +kernel
theorem dX6_told_8 : decode cX6_told 8 = .ok (.arraylength, 1) := by decide +kernel
theorem dX6_told_9 : decode cX6_told 9 = .ok (.istore 4, 2) := by decide +kernel
theorem dX6_told_11 : decode cX6_told 11 = .ok (.iconst 0, 1) := by decide +kernel
theorem dX6_told_12 : decode cX6_told 12 = .ok (.istore 5, 2) := by decide +kernel
theorem dX6_told_14 : decode cX6_told 14 = .ok (.iload 5, 2) := by decide +kernel
theorem dX6_told_16 : decode cX6_told 16 = .ok (.iload 4, 2) := by decide +kernel
theorem dX6_told_18 : decode cX6_told 18 = .ok (.if_icmp .ge 32, 3) := by decide +kernel
theorem dX6_told_21 : decode cX6_told 21 = .ok (.aload_n 3, 1) := by decide +kernel
theorem dX6_told_22 : decode cX6_told 22 = .ok (.iload 5, 2) := by decide +kernel
theorem dX6_told_24 : decode cX6_told 24 = .ok (.aaload, 1) := by decide +kernel
theorem dX6_told_25 : decode cX6_told 25 = .ok (.astore 6, 2) := by decide +kernel
theorem dX6_told_27 : decode cX6_told 27 = .ok (.iload_n 2, 1) := by decide +kernel
theorem dX6_told_28 : decode cX6_told 28 = .ok (.aload 6, 2) := by decide +kernel
theorem dX6_told_30 : decode cX6_told 30 = .ok (.iconst 0, 1) := by decide +kernel
theorem dX6_told_31 : decode cX6_told 31 = .ok (.iaload, 1) := by decide +kernel
theorem dX6_told_32 : decode cX6_told 32 = .ok (.aload 6, 2) := by decide +kernel
theorem dX6_told_34 : decode cX6_told 34 = .ok (.iconst 1, 1) := by decide +kernel
theorem dX6_told_35 : decode cX6_told 35 = .ok (.iaload, 1) := by decide +kernel
theorem dX6_told_36 : decode cX6_told 36 = .ok (.iadd, 1) := by decide +kernel
theorem dX6_told_37 : decode cX6_told 37 = .ok (.aload 6, 2) := by decide +kernel
theorem dX6_told_39 : decode cX6_told 39 = .ok (.iconst 2, 1) := by decide +kernel
theorem dX6_told_40 : decode cX6_told 40 = .ok (.iaload, 1) := by decide +kernel
theorem dX6_told_41 : decode cX6_told 41 = .ok (.iadd, 1) := by decide +kernel
theorem dX6_told_42 : decode cX6_told 42 = .ok (.iadd, 1) := by decide +kernel
theorem dX6_told_43 : decode cX6_told 43 = .ok (.istore_n 2, 1) := by decide +kernel
theorem dX6_told_44 : decode cX6_told 44 = .ok (.iinc 5 1, 3) := by decide +kernel
theorem dX6_told_47 : decode cX6_told 47 = .ok (.goto (-33), 3) := by decide +kernel
theorem dX6_told_50 : decode cX6_told 50 = .ok (.iconst 0, 1) := by decide +kernel
theorem dX6_told_51 : decode cX6_told 51 = .ok (.istore_n 3, 1) := by decide +kernel
theorem dX6_told_52 : decode cX6_told 52 = .ok (.aload_n 0, 1) := by decide +kernel
theorem dX6_told_53 : decode cX6_told 53 = .ok (.getfield 24, 3) := by decide +kernel
theorem dX6_told_56 : decode cX6_told 56 = .ok (.astore 4, 2) := by decide +kernel
theorem dX6_told_58 : decode cX6_told 58 = .ok (.aload 4, 2) := by decide +kernel
theorem dX6_told_60 : decode cX6_told 60 = .ok (.arraylength, 1) := by decide +kernel
theorem dX6_told_61 : decode cX6_told 61 = .ok (.istore 5, 2) := by decide +kernel
theorem dX6_told_63 : decode cX6_told 63 = .ok (.iconst 0, 1) := by decide +kernel
theorem dX6_told_64 : decode cX6_told 64 = .ok (.istore 6, 2) := by decide +kernel
theorem dX6_told_66 : decode cX6_told 66 = .ok (.iload 6, 2) := by decide +kernel
theorem dX6_told_68 : decode cX6_told 68 = .ok (.iload 5, 2) := by decide +kernel
theorem dX6_told_70 : decode cX6_told 70 = .ok (.if_icmp .ge 23, 3) := by decide +kernel
theorem dX6_told_73 : decode cX6_told 73 = .ok (.aload 4, 2) := by decide +kernel
theorem dX6_told_75 : decode cX6_told 75 = .ok (.iload 6, 2) := by decide +kernel
theorem dX6_told_77 : decode cX6_told 77 = .ok (.aaload, 1) := by decide +kernel
theorem dX6_told_78 : decode cX6_told 78 = .ok (.astore 7, 2) := by decide +kernel
theorem dX6_told_80 : decode cX6_told 80 = .ok (.iload_n 3, 1) := by decide +kernel
theorem dX6_told_81 : decode cX6_told 81 = .ok (.aload 7, 2) := by decide +kernel
theorem dX6_told_83 : decode cX6_told 83 = .ok (.iconst 0, 1) := by decide +kernel
theorem dX6_told_84 : decode cX6_told 84 = .ok (.iaload, 1) := by decide +kernel
theorem dX6_told_85 : decode cX6_told 85 = .ok (.iadd, 1) := by decide +kernel
theorem dX6_told_86 : decode cX6_told 86 = .ok (.istore_n 3, 1) := by decide +kernel
theorem dX6_told_87 : decode cX6_told 87 = .ok (.iinc 6 1, 3) := by decide +kernel
theorem dX6_told_90 : decode cX6_told 90 = .ok (.goto (-24), 3) := by decide +kernel
theorem dX6_told_93 : decode cX6_told 93 = .ok (.bipush 12, 2) := by decide +kernel
theorem dX6_told_95 : decode cX6_told 95 = .ok (.newarray .int, 2) := by decide +kernel
theorem dX6_told_97 : decode cX6_told 97 = .ok (.dup, 1) := by decide +kernel
theorem dX6_told_98 : decode cX6_told 98 = .ok (.iconst 0, 1) := by decide +kernel
theorem dX6_told_99 : decode cX6_told 99 = .ok (.aload_n 0, 1) := by decide +kernel
theorem dX6_told_100 : decode cX6_told 100 = .ok (.getfield 46, 3) := by decide +kernel
theorem dX6_told_103 : decode cX6_told 103 = .ok (.iastore, 1) := by decide +kernel
theorem dX6_told_104 : decode cX6_told 104 = .ok (.dup, 1) := by decide +kernel
theorem dX6_told_105 : decode cX6_told 105 = .ok (.iconst 1, 1) := by decide +kernel
theorem dX6_told_106 : decode cX6_told 106 = .ok (.aload_n 0, 1) := by decide +kernel
theorem dX6_told_107 : decode cX6_told 107 = .ok (.getfield 7, 3) := by decide +kernel
theorem dX6_told_110 : decode cX6_told 110 = .ok (.iastore, 1) := by decide +kernel
theorem dX6_told_111 : decode cX6_told 111 = .ok (.dup, 1) := by decide +kernel
theorem dX6_told_112 : decode cX6_told 112 = .ok (.iconst 2, 1) := by decide +kernel
theorem dX6_told_113 : decode cX6_told 113 = .ok (.aload_n 0, 1) := by decide +kernel
theorem dX6_told_114 : decode cX6_told 114 = .ok (.getfield 13, 3) := by decide +kernel
theorem dX6_told_117 : decode cX6_told 117 = .ok (.iastore, 1) := by decide +kernel
theorem dX6_told_118 : decode cX6_told 118 = .ok (.dup, 1) := by decide +kernel
theorem dX6_told_119 : decode cX6_told 119 = .ok (.iconst 3, 1) := by decide +kernel
theorem dX6_told_120 : decode cX6_told 120 = .ok (.aload_n 0, 1) := by decide +kernel
theorem dX6_told_121 : decode cX6_told 121 = .ok (.invokevirtual 59, 3) := by decide +kernel
theorem dX6_told_124 : decode cX6_told 124 = .ok (.iastore, 1) := by decide +kernel
theorem dX6_told_125 : decode cX6_told 125 = .ok (.dup, 1) := by decide +kernel
theorem dX6_told_126 : decode cX6_told 126 = .ok (.iconst 4, 1) := by decide +kernel
theorem dX6_told_127 : decode cX6_told 127 = .ok (.aload_n 0, 1) := by decide +kernel
theorem dX6_told_128 : decode cX6_told 128 = .ok (.getfield 49, 3) := by decide +kernel
theorem dX6_told_131 : decode cX6_told 131 = .ok (.iastore, 1) := by decide +kernel
theorem dX6_told_132 : decode cX6_told 132 = .ok (.dup, 1) := by decide +kernel
theorem dX6_told_133 : decode cX6_told 133 = .ok (.iconst 5, 1) := by decide +kernel
theorem dX6_told_134 : decode cX6_told 134 = .ok (.aload_n 0, 1) := by decide +kernel
theorem dX6_told_135 : decode cX6_told 135 = .ok (.getfield 52, 3) := by decide +kernel
theorem dX6_told_138 : decode cX6_told 138 = .ok (.iastore, 1) := by decide +kernel
theorem dX6_told_139 : decode cX6_told 139 = .ok (.dup, 1) := by decide +kernel
theorem dX6_told_140 : decode cX6_told 140 = .ok (.bipush 6, 2) := by decide +kernel
theorem dX6_told_142 : decode cX6_told 142 = .ok (.aload_n 0, 1) := by decide +kernel
theorem dX6_told_143 : decode cX6_told 143 = .ok (.getfield 34, 3) := by decide +kernel
theorem dX6_told_146 : decode cX6_told 146 = .ok (.arraylength, 1) := by decide +kernel
theorem dX6_told_147 : decode cX6_told 147 = .ok (.iastore, 1) := by decide +kernel
theorem dX6_told_148 : decode cX6_told 148 = .ok (.dup, 1) := by decide +kernel
theorem dX6_told_149 : decode cX6_told 149 = .ok (.bipush 7, 2) := by decide +kernel
theorem dX6_told_151 : decode cX6_told 151 = .ok (.iload_n 2, 1) := by decide +kernel
theorem dX6_told_152 : decode cX6_told 152 = .ok (.iastore, 1) := by decide +kernel
theorem dX6_told_153 : decode cX6_told 153 = .ok (.dup, 1) := by decide +kernel
theorem dX6_told_154 : decode cX6_told 154 = .ok (.bipush 8, 2) := by decide +kernel
theorem dX6_told_156 : decode cX6_told 156 = .ok (.iload_n 3, 1) := by decide +kernel
theorem dX6_told_157 : decode cX6_told 157 = .ok (.iastore, 1) := by decide +kernel
theorem dX6_told_158 : decode cX6_told 158 = .ok (.dup, 1) := by decide +kernel
theorem dX6_told_159 : decode cX6_told 159 = .ok (.bipush 9, 2) := by decide +kernel
theorem dX6_told_161 : decode cX6_told 161 = .ok (.aload_n 0, 1) := by decide +kernel
theorem dX6_told_162 : decode cX6_told 162 = .ok (.getfield 20, 3) := by decide +kernel
theorem dX6_told_165 : decode cX6_told 165 = .ok (.iconst 0, 1) := by decide +kernel
theorem dX6_told_166 : decode cX6_told 166 = .ok (.iaload, 1) := by decide +kernel
theorem dX6_told_167 : decode cX6_told 167 = .ok (.iastore, 1) := by decide +kernel
theorem dX6_told_168 : decode cX6_told 168 = .ok (.dup, 1) := by decide +kernel
theorem dX6_told_169 : decode cX6_told 169 = .ok (.bipush 10, 2) := by decide +kernel
theorem dX6_told_171 : decode cX6_told 171 = .ok (.aload_n 0, 1) := by decide +kernel
theorem dX6_told_172 : decode cX6_told 172 = .ok (.getfield 20, 3) := by decide +kernel
theorem dX6_told_175 : decode cX6_told 175 = .ok (.iconst 1, 1) := by decide +kernel
theorem dX6_told_176 : decode cX6_told 176 = .ok (.iaload, 1) := by decide +kernel
theorem dX6_told_177 : decode cX6_told 177 = .ok (.iastore, 1) := by decide +kernel
theorem dX6_told_178 : decode cX6_told 178 = .ok (.dup, 1) := by decide +kernel
theorem dX6_told_179 : decode cX6_told 179 = .ok (.bipush 11, 2) := by decide +kernel
theorem dX6_told_181 : decode cX6_told 181 = .ok (.aload_n 0, 1) := by decide +kernel
theorem dX6_told_182 : decode cX6_told 182 = .ok (.getfield 20, 3) := by decide +kernel
theorem dX6_told_185 : decode cX6_told 185 = .ok (.iconst 2, 1) := by decide +kernel
theorem dX6_told_186 : decode cX6_told 186 = .ok (.iaload, 1) := by decide +kernel
theorem dX6_told_187 : decode cX6_told 187 = .ok (.iastore, 1) := by decide +kernel
theorem dX6_told_188 : decode cX6_told 188 = .ok (.astore 4, 2) := by decide +kernel
theorem dX6_told_190 : decode cX6_told 190 = .ok (.aload 4, 2) := by decide +kernel
theorem dX6_told_192 : decode cX6_told 192 = .ok (.iload_n 1, 1) := by decide +kernel
theorem dX6_told_193 : decode cX6_told 193 = .ok (.iaload, 1) := by decide +kernel
theorem dX6_told_194 : decode cX6_told 194 = .ok (.ireturn, 1) := by decide +kernel
set_option maxRecDepth 20000 in
theorem ggX6_isSame_X5_about : GoodIn wsX6_isSame wsX5_about := goodIn_ca (goodIn_r _ [10, 11, 12, 13, 14, 15, 9, 16, 17, 18, 19, 20, 21, 22, 23, 24, 25, 26, 27, 28, 29, 30, 31, 32, 33, 34, 35, 36, 223, 224, 225, 226, 227, 228, 229, 230, 231, 232, 233, 234, 235, 236, 237, 238, 239] (by decide +kernel) (by decide +kernel)) (goodIn_sub (fun _ h => List.mem_cons_of_mem _ (List.mem_append_right _ h)) (by decide +kernel))
set_option maxRecDepth 20000 in
theorem gX6_isSame_X5_about : GoodIn wsX6_isSame (wsV RX6 80 RX5 yX5_about wsX5_about) := goodIn_app (goodIn_of _ (by decide +kernel)) ggX6_isSame_X5_about
set_option maxRecDepth 20000 in
theorem ggX6_isSame_X5_mould : GoodIn wsX6_isSame wsX5_mould := goodIn_ca (goodIn_r _ [40, 11, 12, 13, 41, 42, 43, 44, 45, 46, 14, 15, 9, 16, 47, 48, 49, 50, 51, 52, 53, 54, 55, 56, 57, 58, 59, 60, 61, 62, 63, 64, 65, 66, 67, 68, 69, 70, 71, 72, 73, 74, 75, 76, 77, 78, 79, 80, 81, 82, 83, 84, 223, 224, 225, 226, 227, 228, 229, 230, 231, 232, 233, 234, 235, 236, 240, 241, 242, 243, 244, 245, 246, 247] (by decide +kernel) (by decide +kernel)) (goodIn_sub (fun _ h => List.mem_cons_of_mem _ (List.mem_append_right _ h)) (by decide +kernel))
set_option maxRecDepth 20000 in
theorem gX6_isSame_X5_mould : GoodIn wsX6_isSame (wsV RX6 85 RX5 yX5_mould wsX5_mould) := goodIn_app (goodIn_of _ (by decide +kernel)) ggX6_isSame_X5_mould
set_option maxRecDepth 20000 in
theorem ggX6_isSame_X5_told : GoodIn wsX6_isSame wsX5_told := goodIn_ca (goodIn_r _ [88, 11, 12, 13, 89, 82, 83, 73, 84, 75, 14, 15, 9, 16, 90, 91, 92, 50, 93, 53, 94, 95, 96, 97, 98, 81, 99, 100, 101, 102, 103, 104, 77, 78, 79, 80, 105, 106, 107, 108, 109, 52, 110, 111, 112, 113, 114, 28, 29, 20, 30, 31, 60, 61, 62, 44, 63, 64, 59, 42, 43, 45, 46, 115, 116, 117, 118, 119, 120, 121, 23, 24, 25, 26, 223, 224, 225, 226, 227, 228, 229, 230, 231, 232, 233, 234, 235, 236, 244, 245, 246, 247, 237, 238, 239, 240, 241, 242, 243, 248, 249, 250, 251, 252] (by decide +kernel) (by decide +kernel)) (goodIn_sub (fun _ h => List.mem_cons_of_mem _ (List.mem_append_right _ h)) (by decide +kernel))
set_option maxRecDepth 20000 in
theorem gX6_isSame_X5_told : GoodIn wsX6_isSame (wsV RX6 88 RX5 yX5_told wsX5_told) := goodIn_app (goodIn_of _ (by decide +kernel)) ggX6_isSame_X5_told
set_option maxRecDepth 20000 in
theorem ggX6_isSame_X6_makes : GoodIn wsX6_isSame wsX6_makes := goodIn_r _ [126, 1, 2, 127, 128, 129, 125, 130, 131, 4, 211, 212, 213, 214, 215, 216, 217, 218, 219, 220, 221, 222] (by decide +kernel) (by decide +kernel)
set_option maxRecDepth 20000 in
theorem gX6_isSame_X6_makes : GoodIn wsX6_isSame (wsV RX6 69 RX6 yX6_makes wsX6_makes) := goodIn_app (goodIn_of _ (by decide +kernel)) ggX6_isSame_X6_makes
set_option maxRecDepth 20000 in
theorem ggX6_isSame_X5_post : GoodIn wsX6_isSame wsX5_post := goodIn_ca (goodIn_r _ [135, 11, 12, 13, 136, 137, 138, 139, 140, 141, 14, 15, 9, 16, 142, 143, 144, 145, 146, 147, 148, 149, 150, 151, 152, 153, 154, 155, 156, 157, 158, 159, 160, 161, 223, 224, 225, 226, 227, 228, 229, 230, 231, 232, 233, 234, 235, 236, 248, 249, 250, 251, 252] (by decide +kernel) (by decide +kernel)) (goodIn_sub (fun _ h => List.mem_cons_of_mem _ (List.mem_append_right _ h)) (by decide +kernel))
set_option maxRecDepth 20000 in
theorem gX6_isSame_X5_post : GoodIn wsX6_isSame (wsV RX6 91 RX5 yX5_post wsX5_post) := goodIn_app (goodIn_of _ (by decide +kernel)) ggX6_isSame_X5_post
set_option maxRecDepth 20000 in
theorem ggX6_isSame_X5_loft : GoodIn wsX6_isSame wsX5_loft := goodIn_ca (goodIn_r _ [165, 11, 12, 13, 14, 15, 9, 16, 166, 167, 168, 50, 169, 170, 223, 224, 225, 226, 227, 228, 229, 230, 231, 232, 233, 234, 235, 236] (by decide +kernel) (by decide +kernel)) (goodIn_sub (fun _ h => List.mem_cons_of_mem _ (List.mem_append_right _ h)) (by decide +kernel))
set_option maxRecDepth 20000 in
theorem gX6_isSame_X5_loft : GoodIn wsX6_isSame (wsV RX6 94 RX5 yX5_loft wsX5_loft) := goodIn_app (goodIn_of _ (by decide +kernel)) ggX6_isSame_X5_loft
set_option maxRecDepth 20000 in
theorem ggX6_isSame_X5_count : GoodIn wsX6_isSame wsX5_count := goodIn_ca (goodIn_r _ [174, 11, 12, 13, 14, 15, 9, 16, 175, 176, 177, 50, 178, 179, 180, 119, 181, 182, 120, 109, 115, 116, 117, 118, 183, 184, 185, 186, 170, 187, 188, 189, 20, 190, 26, 191, 192, 193, 194, 195, 223, 224, 225, 226, 227, 228, 229, 230, 231, 232, 233, 234, 235, 236, 248, 249, 250, 251, 252, 237, 238, 239] (by decide +kernel) (by decide +kernel)) (goodIn_sub (fun _ h => List.mem_cons_of_mem _ (List.mem_append_right _ h)) (by decide +kernel))
set_option maxRecDepth 20000 in
theorem gX6_isSame_X5_count : GoodIn wsX6_isSame (wsV RX6 96 RX5 yX5_count wsX5_count) := goodIn_app (goodIn_of _ (by decide +kernel)) ggX6_isSame_X5_count
set_option maxRecDepth 20000 in
theorem ggX6_isSame_X6_told : GoodIn wsX6_isSame wsX6_told := goodIn_r _ [199, 5, 1, 200, 201, 202, 131, 203, 204, 4, 205, 127, 128, 129, 125, 130, 211, 212, 213, 214, 215, 216, 217, 218, 219, 220, 221, 222] (by decide +kernel) (by decide +kernel)
set_option maxRecDepth 20000 in
theorem gX6_isSame_X6_told : GoodIn wsX6_isSame (wsV RX6 99 RX6 yX6_told wsX6_told) := goodIn_app (goodIn_of _ (by decide +kernel)) ggX6_isSame_X6_told
set_option maxRecDepth 20000 in
theorem ggX6_isSame_X5_mean : GoodIn wsX6_isSame wsX5_mean := goodIn_r _ [209, 13, 210, 66, 67, 44, 68, 69, 59, 42, 43, 45, 46, 223, 224, 225, 226, 227, 228, 229, 230, 231, 232, 233, 234, 235, 236, 240, 241, 242, 243] (by decide +kernel) (by decide +kernel)
set_option maxRecDepth 20000 in
theorem gX6_isSame_X5_mean : GoodIn wsX6_isSame (wsV RX6 101 RX5 yX5_mean wsX5_mean) := goodIn_app (goodIn_of _ (by decide +kernel)) ggX6_isSame_X5_mean
theorem dX6_isSame_0 : decode cX6_isSame 0 = .ok (.iconst 0, 1) := by decide +kernel
theorem dX6_isSame_1 : decode cX6_isSame 1 = .ok (.istore_n 2, 1) := by decide +kernel
theorem dX6_isSame_2 : decode cX6_isSame 2 = .ok (.iload_n 2, 1) := by decide +kernel
theorem dX6_isSame_3 : decode cX6_isSame 3 = .ok (.iconst 4, 1) := by decide +kernel
theorem dX6_isSame_4 : decode cX6_isSame 4 = .ok (.if_icmp .ge 41, 3) := by decide +kernel
theorem dX6_isSame_7 : decode cX6_isSame 7 = .ok (.iconst 0, 1) := by decide +kernel
theorem dX6_isSame_8 : decode cX6_isSame 8 = .ok (.istore_n 3, 1) := by decide +kernel
theorem dX6_isSame_9 : decode cX6_isSame 9 = .ok (.iload_n 3, 1) := by decide +kernel
theorem dX6_isSame_10 : decode cX6_isSame 10 = .ok (.iconst 3, 1) := by decide +kernel
theorem dX6_isSame_11 : decode cX6_isSame 11 = .ok (.if_icmp .ge 28, 3) := by decide +kernel
theorem dX6_isSame_14 : decode cX6_isSame 14 = .ok (.aload_n 1, 1) := by decide +kernel
theorem dX6_isSame_15 : decode cX6_isSame 15 = .ok (.iload_n 2, 1) := by decide +kernel
theorem dX6_isSame_16 : decode cX6_isSame 16 = .ok (.iload_n 3, 1) := by decide +kernel
theorem dX6_isSame_17 : decode cX6_isSame 17 = .ok (.invokevirtual 80, 3) := by decide +kernel
theorem dX6_isSame_20 : decode cX6_isSame 20 = .ok (.aload_n 0, 1) := by decide +kernel
theorem dX6_isSame_21 : decode cX6_isSame 21 = .ok (.getfield 24, 3) := by decide +kernel
theorem dX6_isSame_24 : decode cX6_isSame 24 = .ok (.iload_n 2, 1) := by decide +kernel
theorem dX6_isSame_25 : decode cX6_isSame 25 = .ok (.aaload, 1) := by decide +kernel
theorem dX6_isSame_26 : decode cX6_isSame 26 = .ok (.iload_n 3, 1) := by decide +kernel
theorem dX6_isSame_27 : decode cX6_isSame 27 = .ok (.iaload, 1) := by decide +kernel
theorem dX6_isSame_28 : decode cX6_isSame 28 = .ok (.if_icmp .eq 5, 3) := by decide +kernel
theorem dX6_isSame_31 : decode cX6_isSame 31 = .ok (.iconst 0, 1) := by decide +kernel
theorem dX6_isSame_32 : decode cX6_isSame 32 = .ok (.ireturn, 1) := by decide +kernel
theorem dX6_isSame_33 : decode cX6_isSame 33 = .ok (.iinc 3 1, 3) := by decide +kernel
theorem dX6_isSame_36 : decode cX6_isSame 36 = .ok (.goto (-27), 3) := by decide +kernel
theorem dX6_isSame_39 : decode cX6_isSame 39 = .ok (.iinc 2 1, 3) := by decide +kernel
theorem dX6_isSame_42 : decode cX6_isSame 42 = .ok (.goto (-40), 3) := by decide +kernel
theorem dX6_isSame_45 : decode cX6_isSame 45 = .ok (.iconst 0, 1) := by decide +kernel
theorem dX6_isSame_46 : decode cX6_isSame 46 = .ok (.istore_n 2, 1) := by decide +kernel
theorem dX6_isSame_47 : decode cX6_isSame 47 = .ok (.iconst 0, 1) := by decide +kernel
theorem dX6_isSame_48 : decode cX6_isSame 48 = .ok (.istore_n 3, 1) := by decide +kernel
theorem dX6_isSame_49 : decode cX6_isSame 49 = .ok (.iload_n 3, 1) := by decide +kernel
theorem dX6_isSame_50 : decode cX6_isSame 50 = .ok (.aload_n 0, 1) := by decide +kernel
theorem dX6_isSame_51 : decode cX6_isSame 51 = .ok (.getfield 28, 3) := by decide +kernel
theorem dX6_isSame_54 : decode cX6_isSame 54 = .ok (.arraylength, 1) := by decide +kernel
theorem dX6_isSame_55 : decode cX6_isSame 55 = .ok (.if_icmp .ge 108, 3) := by decide +kernel
theorem dX6_isSame_58 : decode cX6_isSame 58 = .ok (.iconst (-1), 1) := by decide +kernel
theorem dX6_isSame_59 : decode cX6_isSame 59 = .ok (.istore 4, 2) := by decide +kernel
theorem dX6_isSame_61 : decode cX6_isSame 61 = .ok (.iconst 0, 1) := by decide +kernel
theorem dX6_isSame_62 : decode cX6_isSame 62 = .ok (.istore 5, 2) := by decide +kernel
theorem dX6_isSame_64 : decode cX6_isSame 64 = .ok (.iload 5, 2) := by decide +kernel
theorem dX6_isSame_66 : decode cX6_isSame 66 = .ok (.aload_n 0, 1) := by decide +kernel
theorem dX6_isSame_67 : decode cX6_isSame 67 = .ok (.getfield 31, 3) := by decide +kernel
theorem dX6_isSame_70 : decode cX6_isSame 70 = .ok (.arraylength, 1) := by decide +kernel
theorem dX6_isSame_71 : decode cX6_isSame 71 = .ok (.if_icmp .ge 26, 3) := by decide +kernel
theorem dX6_isSame_74 : decode cX6_isSame 74 = .ok (.aload_n 0, 1) := by decide +kernel
theorem dX6_isSame_75 : decode cX6_isSame 75 = .ok (.getfield 31, 3) := by decide +kernel
theorem dX6_isSame_78 : decode cX6_isSame 78 = .ok (.iload 5, 2) := by decide +kernel
theorem dX6_isSame_80 : decode cX6_isSame 80 = .ok (.aaload, 1) := by decide +kernel
theorem dX6_isSame_81 : decode cX6_isSame 81 = .ok (.iconst 2, 1) := by decide +kernel
theorem dX6_isSame_82 : decode cX6_isSame 82 = .ok (.iaload, 1) := by decide +kernel
theorem dX6_isSame_83 : decode cX6_isSame 83 = .ok (.iload_n 3, 1) := by decide +kernel
theorem dX6_isSame_84 : decode cX6_isSame 84 = .ok (.if_icmp .ne 7, 3) := by decide +kernel
theorem dX6_isSame_87 : decode cX6_isSame 87 = .ok (.iload 5, 2) := by decide +kernel
theorem dX6_isSame_89 : decode cX6_isSame 89 = .ok (.istore 4, 2) := by decide +kernel
theorem dX6_isSame_91 : decode cX6_isSame 91 = .ok (.iinc 5 1, 3) := by decide +kernel
theorem dX6_isSame_94 : decode cX6_isSame 94 = .ok (.goto (-30), 3) := by decide +kernel
theorem dX6_isSame_97 : decode cX6_isSame 97 = .ok (.iconst 0, 1) := by decide +kernel
theorem dX6_isSame_98 : decode cX6_isSame 98 = .ok (.istore 5, 2) := by decide +kernel
theorem dX6_isSame_100 : decode cX6_isSame 100 = .ok (.iload 5, 2) := by decide +kernel
theorem dX6_isSame_102 : decode cX6_isSame 102 = .ok (.iconst 3, 1) := by decide +kernel
theorem dX6_isSame_103 : decode cX6_isSame 103 = .ok (.if_icmp .ge 30, 3) := by decide +kernel
theorem dX6_isSame_106 : decode cX6_isSame 106 = .ok (.aload_n 1, 1) := by decide +kernel
theorem dX6_isSame_107 : decode cX6_isSame 107 = .ok (.iload_n 3, 1) := by decide +kernel
theorem dX6_isSame_108 : decode cX6_isSame 108 = .ok (.iload 5, 2) := by decide +kernel
theorem dX6_isSame_110 : decode cX6_isSame 110 = .ok (.invokevirtual 85, 3) := by decide +kernel
theorem dX6_isSame_113 : decode cX6_isSame 113 = .ok (.aload_n 0, 1) := by decide +kernel
theorem dX6_isSame_114 : decode cX6_isSame 114 = .ok (.getfield 28, 3) := by decide +kernel
theorem dX6_isSame_117 : decode cX6_isSame 117 = .ok (.iload_n 3, 1) := by decide +kernel
theorem dX6_isSame_118 : decode cX6_isSame 118 = .ok (.aaload, 1) := by decide +kernel
theorem dX6_isSame_119 : decode cX6_isSame 119 = .ok (.iload 5, 2) := by decide +kernel
theorem dX6_isSame_121 : decode cX6_isSame 121 = .ok (.iaload, 1) := by decide +kernel
theorem dX6_isSame_122 : decode cX6_isSame 122 = .ok (.if_icmp .eq 5, 3) := by decide +kernel
theorem dX6_isSame_125 : decode cX6_isSame 125 = .ok (.iconst 0, 1) := by decide +kernel
theorem dX6_isSame_126 : decode cX6_isSame 126 = .ok (.ireturn, 1) := by decide +kernel
theorem dX6_isSame_127 : decode cX6_isSame 127 = .ok (.iinc 5 1, 3) := by decide +kernel
theorem dX6_isSame_130 : decode cX6_isSame 130 = .ok (.goto (-30), 3) := by decide +kernel
theorem dX6_isSame_133 : decode cX6_isSame 133 = .ok (.aload_n 1, 1) := by decide +kernel
theorem dX6_isSame_134 : decode cX6_isSame 134 = .ok (.iload_n 3, 1) := by decide +kernel
theorem dX6_isSame_135 : decode cX6_isSame 135 = .ok (.iconst 3, 1) := by decide +kernel
theorem dX6_isSame_136 : decode cX6_isSame 136 = .ok (.invokevirtual 85, 3) := by decide +kernel
theorem dX6_isSame_139 : decode cX6_isSame 139 = .ok (.iload 4, 2) := by decide +kernel
theorem dX6_isSame_141 : decode cX6_isSame 141 = .ok (.if_icmp .eq 5, 3) := by decide +kernel
theorem dX6_isSame_144 : decode cX6_isSame 144 = .ok (.iconst 0, 1) := by decide +kernel
theorem dX6_isSame_145 : decode cX6_isSame 145 = .ok (.ireturn, 1) := by decide +kernel
theorem dX6_isSame_146 : decode cX6_isSame 146 = .ok (.iload_n 2, 1) := by decide +kernel
theorem dX6_isSame_147 : decode cX6_isSame 147 = .ok (.aload_n 0, 1) := by decide +kernel
theorem dX6_isSame_148 : decode cX6_isSame 148 = .ok (.getfield 28, 3) := by decide +kernel
theorem dX6_isSame_151 : decode cX6_isSame 151 = .ok (.iload_n 3, 1) := by decide +kernel
theorem dX6_isSame_152 : decode cX6_isSame 152 = .ok (.aaload, 1) := by decide +kernel
theorem dX6_isSame_153 : decode cX6_isSame 153 = .ok (.iconst 2, 1) := by decide +kernel
theorem dX6_isSame_154 : decode cX6_isSame 154 = .ok (.iaload, 1) := by decide +kernel
theorem dX6_isSame_155 : decode cX6_isSame 155 = .ok (.iadd, 1) := by decide +kernel
theorem dX6_isSame_156 : decode cX6_isSame 156 = .ok (.istore_n 2, 1) := by decide +kernel
theorem dX6_isSame_157 : decode cX6_isSame 157 = .ok (.iinc 3 1, 3) := by decide +kernel
theorem dX6_isSame_160 : decode cX6_isSame 160 = .ok (.goto (-111), 3) := by decide +kernel
theorem dX6_isSame_163 : decode cX6_isSame 163 = .ok (.iconst 0, 1) := by decide +kernel
theorem dX6_isSame_164 : decode cX6_isSame 164 = .ok (.istore_n 3, 1) := by decide +kernel
theorem dX6_isSame_165 : decode cX6_isSame 165 = .ok (.iload_n 3, 1) := by decide +kernel
theorem dX6_isSame_166 : decode cX6_isSame 166 = .ok (.aload_n 0, 1) := by decide +kernel
theorem dX6_isSame_167 : decode cX6_isSame 167 = .ok (.getfield 31, 3) := by decide +kernel
theorem dX6_isSame_170 : decode cX6_isSame 170 = .ok (.arraylength, 1) := by decide +kernel
theorem dX6_isSame_171 : decode cX6_isSame 171 = .ok (.if_icmp .ge 66, 3) := by decide +kernel
theorem dX6_isSame_174 : decode cX6_isSame 174 = .ok (.iconst 0, 1) := by decide +kernel
theorem dX6_isSame_175 : decode cX6_isSame 175 = .ok (.istore 4, 2) := by decide +kernel
theorem dX6_isSame_177 : decode cX6_isSame 177 = .ok (.iload 4, 2) := by decide +kernel
theorem dX6_isSame_179 : decode cX6_isSame 179 = .ok (.iconst 3, 1) := by decide +kernel
theorem dX6_isSame_180 : decode cX6_isSame 180 = .ok (.if_icmp .ge 30, 3) := by decide +kernel
theorem dX6_isSame_183 : decode cX6_isSame 183 = .ok (.aload_n 1, 1) := by decide +kernel
theorem dX6_isSame_184 : decode cX6_isSame 184 = .ok (.iload_n 3, 1) := by decide +kernel
theorem dX6_isSame_185 : decode cX6_isSame 185 = .ok (.iload 4, 2) := by decide +kernel
theorem dX6_isSame_187 : decode cX6_isSame 187 = .ok (.invokevirtual 88, 3) := by decide +kernel
theorem dX6_isSame_190 : decode cX6_isSame 190 = .ok (.aload_n 0, 1) := by decide +kernel
theorem dX6_isSame_191 : decode cX6_isSame 191 = .ok (.getfield 31, 3) := by decide +kernel
theorem dX6_isSame_194 : decode cX6_isSame 194 = .ok (.iload_n 3, 1) := by decide +kernel
theorem dX6_isSame_195 : decode cX6_isSame 195 = .ok (.aaload, 1) := by decide +kernel
theorem dX6_isSame_196 : decode cX6_isSame 196 = .ok (.iload 4, 2) := by decide +kernel
theorem dX6_isSame_198 : decode cX6_isSame 198 = .ok (.iaload, 1) := by decide +kernel
theorem dX6_isSame_199 : decode cX6_isSame 199 = .ok (.if_icmp .eq 5, 3) := by decide +kernel
theorem dX6_isSame_202 : decode cX6_isSame 202 = .ok (.iconst 0, 1) := by decide +kernel
theorem dX6_isSame_203 : decode cX6_isSame 203 = .ok (.ireturn, 1) := by decide +kernel
theorem dX6_isSame_204 : decode cX6_isSame 204 = .ok (.iinc 4 1, 3) := by decide +kernel
theorem dX6_isSame_207 : decode cX6_isSame 207 = .ok (.goto (-30), 3) := by decide +kernel
theorem dX6_isSame_210 : decode cX6_isSame 210 = .ok (.aload_n 1, 1) := by decide +kernel
theorem dX6_isSame_211 : decode cX6_isSame 211 = .ok (.iload_n 3, 1) := by decide +kernel
theorem dX6_isSame_212 : decode cX6_isSame 212 = .ok (.iconst 3, 1) := by decide +kernel
theorem dX6_isSame_213 : decode cX6_isSame 213 = .ok (.invokevirtual 88, 3) := by decide +kernel
theorem dX6_isSame_216 : decode cX6_isSame 216 = .ok (.aload_n 0, 1) := by decide +kernel
theorem dX6_isSame_217 : decode cX6_isSame 217 = .ok (.aload_n 0, 1) := by decide +kernel
theorem dX6_isSame_218 : decode cX6_isSame 218 = .ok (.getfield 31, 3) := by decide +kernel
theorem dX6_isSame_221 : decode cX6_isSame 221 = .ok (.iload_n 3, 1) := by decide +kernel
theorem dX6_isSame_222 : decode cX6_isSame 222 = .ok (.aaload, 1) := by decide +kernel
theorem dX6_isSame_223 : decode cX6_isSame 223 = .ok (.invokevirtual 69, 3) := by decide +kernel
theorem dX6_isSame_226 : decode cX6_isSame 226 = .ok (.if_icmp .eq 5, 3) := by decide +kernel
theorem dX6_isSame_229 : decode cX6_isSame 229 = .ok (.iconst 0, 1) := by decide +kernel
theorem dX6_isSame_230 : decode cX6_isSame 230 = .ok (.ireturn, 1) := by decide +kernel
theorem dX6_isSame_231 : decode cX6_isSame 231 = .ok (.iinc 3 1, 3) := by decide +kernel
theorem dX6_isSame_234 : decode cX6_isSame 234 = .ok (.goto (-69), 3) := by decide +kernel
theorem dX6_isSame_237 : decode cX6_isSame 237 = .ok (.iconst 0, 1) := by decide +kernel
theorem dX6_isSame_238 : decode cX6_isSame 238 = .ok (.istore_n 3, 1) := by decide +kernel
theorem dX6_isSame_239 : decode cX6_isSame 239 = .ok (.iload_n 3, 1) := by decide +kernel
theorem dX6_isSame_240 : decode cX6_isSame 240 = .ok (.aload_n 0, 1) := by decide +kernel
theorem dX6_isSame_241 : decode cX6_isSame 241 = .ok (.getfield 34, 3) := by decide +kernel
theorem dX6_isSame_244 : decode cX6_isSame 244 = .ok (.arraylength, 1) := by decide +kernel
theorem dX6_isSame_245 : decode cX6_isSame 245 = .ok (.if_icmp .ge 45, 3) := by decide +kernel
theorem dX6_isSame_248 : decode cX6_isSame 248 = .ok (.iconst 0, 1) := by decide +kernel
theorem dX6_isSame_249 : decode cX6_isSame 249 = .ok (.istore 4, 2) := by decide +kernel
theorem dX6_isSame_251 : decode cX6_isSame 251 = .ok (.iload 4, 2) := by decide +kernel
theorem dX6_isSame_253 : decode cX6_isSame 253 = .ok (.iconst 3, 1) := by decide +kernel
theorem dX6_isSame_254 : decode cX6_isSame 254 = .ok (.if_icmp .ge 30, 3) := by decide +kernel
theorem dX6_isSame_257 : decode cX6_isSame 257 = .ok (.aload_n 1, 1) := by decide +kernel
theorem dX6_isSame_258 : decode cX6_isSame 258 = .ok (.iload_n 3, 1) := by decide +kernel
theorem dX6_isSame_259 : decode cX6_isSame 259 = .ok (.iload 4, 2) := by decide +kernel
theorem dX6_isSame_261 : decode cX6_isSame 261 = .ok (.invokevirtual 91, 3) := by decide +kernel
theorem dX6_isSame_264 : decode cX6_isSame 264 = .ok (.aload_n 0, 1) := by decide +kernel
theorem dX6_isSame_265 : decode cX6_isSame 265 = .ok (.getfield 34, 3) := by decide +kernel
theorem dX6_isSame_268 : decode cX6_isSame 268 = .ok (.iload_n 3, 1) := by decide +kernel
theorem dX6_isSame_269 : decode cX6_isSame 269 = .ok (.aaload, 1) := by decide +kernel
theorem dX6_isSame_270 : decode cX6_isSame 270 = .ok (.iload 4, 2) := by decide +kernel
theorem dX6_isSame_272 : decode cX6_isSame 272 = .ok (.iaload, 1) := by decide +kernel
theorem dX6_isSame_273 : decode cX6_isSame 273 = .ok (.if_icmp .eq 5, 3) := by decide +kernel
theorem dX6_isSame_276 : decode cX6_isSame 276 = .ok (.iconst 0, 1) := by decide +kernel
theorem dX6_isSame_277 : decode cX6_isSame 277 = .ok (.ireturn, 1) := by decide +kernel
theorem dX6_isSame_278 : decode cX6_isSame 278 = .ok (.iinc 4 1, 3) := by decide +kernel
theorem dX6_isSame_281 : decode cX6_isSame 281 = .ok (.goto (-30), 3) := by decide +kernel
theorem dX6_isSame_284 : decode cX6_isSame 284 = .ok (.iinc 3 1, 3) := by decide +kernel
theorem dX6_isSame_287 : decode cX6_isSame 287 = .ok (.goto (-48), 3) := by decide +kernel
theorem dX6_isSame_290 : decode cX6_isSame 290 = .ok (.iconst 0, 1) := by decide +kernel
theorem dX6_isSame_291 : decode cX6_isSame 291 = .ok (.istore_n 3, 1) := by decide +kernel
theorem dX6_isSame_292 : decode cX6_isSame 292 = .ok (.iload_n 3, 1) := by decide +kernel
theorem dX6_isSame_293 : decode cX6_isSame 293 = .ok (.bipush 10, 2) := by decide +kernel
theorem dX6_isSame_295 : decode cX6_isSame 295 = .ok (.if_icmp .ge 45, 3) := by decide +kernel
theorem dX6_isSame_298 : decode cX6_isSame 298 = .ok (.iconst 0, 1) := by decide +kernel
theorem dX6_isSame_299 : decode cX6_isSame 299 = .ok (.istore 4, 2) := by decide +kernel
theorem dX6_isSame_301 : decode cX6_isSame 301 = .ok (.iload 4, 2) := by decide +kernel
theorem dX6_isSame_303 : decode cX6_isSame 303 = .ok (.iconst 3, 1) := by decide +kernel
theorem dX6_isSame_304 : decode cX6_isSame 304 = .ok (.if_icmp .ge 30, 3) := by decide +kernel
theorem dX6_isSame_307 : decode cX6_isSame 307 = .ok (.aload_n 1, 1) := by decide +kernel
theorem dX6_isSame_308 : decode cX6_isSame 308 = .ok (.iload_n 3, 1) := by decide +kernel
theorem dX6_isSame_309 : decode cX6_isSame 309 = .ok (.iload 4, 2) := by decide +kernel
theorem dX6_isSame_311 : decode cX6_isSame 311 = .ok (.invokevirtual 94, 3) := by decide +kernel
theorem dX6_isSame_314 : decode cX6_isSame 314 = .ok (.aload_n 0, 1) := by decide +kernel
theorem dX6_isSame_315 : decode cX6_isSame 315 = .ok (.getfield 38, 3) := by decide +kernel
theorem dX6_isSame_318 : decode cX6_isSame 318 = .ok (.iload_n 3, 1) := by decide +kernel
theorem dX6_isSame_319 : decode cX6_isSame 319 = .ok (.aaload, 1) := by decide +kernel
theorem dX6_isSame_320 : decode cX6_isSame 320 = .ok (.iload 4, 2) := by decide +kernel
theorem dX6_isSame_322 : decode cX6_isSame 322 = .ok (.iaload, 1) := by decide +kernel
theorem dX6_isSame_323 : decode cX6_isSame 323 = .ok (.if_icmp .eq 5, 3) := by decide +kernel
theorem dX6_isSame_326 : decode cX6_isSame 326 = .ok (.iconst 0, 1) := by decide +kernel
theorem dX6_isSame_327 : decode cX6_isSame 327 = .ok (.ireturn, 1) := by decide +kernel
theorem dX6_isSame_328 : decode cX6_isSame 328 = .ok (.iinc 4 1, 3) := by decide +kernel
theorem dX6_isSame_331 : decode cX6_isSame 331 = .ok (.goto (-30), 3) := by decide +kernel
theorem dX6_isSame_334 : decode cX6_isSame 334 = .ok (.iinc 3 1, 3) := by decide +kernel
theorem dX6_isSame_337 : decode cX6_isSame 337 = .ok (.goto (-45), 3) := by decide +kernel
theorem dX6_isSame_340 : decode cX6_isSame 340 = .ok (.iconst 0, 1) := by decide +kernel
theorem dX6_isSame_341 : decode cX6_isSame 341 = .ok (.istore_n 3, 1) := by decide +kernel
theorem dX6_isSame_342 : decode cX6_isSame 342 = .ok (.iload_n 3, 1) := by decide +kernel
theorem dX6_isSame_343 : decode cX6_isSame 343 = .ok (.bipush 12, 2) := by decide +kernel
theorem dX6_isSame_345 : decode cX6_isSame 345 = .ok (.if_icmp .ge 24, 3) := by decide +kernel
theorem dX6_isSame_348 : decode cX6_isSame 348 = .ok (.aload_n 1, 1) := by decide +kernel
theorem dX6_isSame_349 : decode cX6_isSame 349 = .ok (.iload_n 3, 1) := by decide +kernel
theorem dX6_isSame_350 : decode cX6_isSame 350 = .ok (.invokevirtual 96, 3) := by decide +kernel
theorem dX6_isSame_353 : decode cX6_isSame 353 = .ok (.aload_n 0, 1) := by decide +kernel
theorem dX6_isSame_354 : decode cX6_isSame 354 = .ok (.iload_n 3, 1) := by decide +kernel
theorem dX6_isSame_355 : decode cX6_isSame 355 = .ok (.invokevirtual 99, 3) := by decide +kernel
theorem dX6_isSame_358 : decode cX6_isSame 358 = .ok (.if_icmp .eq 5, 3) := by decide +kernel
theorem dX6_isSame_361 : decode cX6_isSame 361 = .ok (.iconst 0, 1) := by decide +kernel
theorem dX6_isSame_362 : decode cX6_isSame 362 = .ok (.ireturn, 1) := by decide +kernel
theorem dX6_isSame_363 : decode cX6_isSame 363 = .ok (.iinc 3 1, 3) := by decide +kernel
theorem dX6_isSame_366 : decode cX6_isSame 366 = .ok (.goto (-24), 3) := by decide +kernel
theorem dX6_isSame_369 : decode cX6_isSame 369 = .ok (.aload_n 1, 1) := by decide +kernel
theorem dX6_isSame_370 : decode cX6_isSame 370 = .ok (.invokevirtual 101, 3) := by decide +kernel
theorem dX6_isSame_373 : decode cX6_isSame 373 = .ok (.aload_n 0, 1) := by decide +kernel
theorem dX6_isSame_374 : decode cX6_isSame 374 = .ok (.getfield 28, 3) := by decide +kernel
theorem dX6_isSame_377 : decode cX6_isSame 377 = .ok (.arraylength, 1) := by decide +kernel
theorem dX6_isSame_378 : decode cX6_isSame 378 = .ok (.ifCond .ne 7, 3) := by decide +kernel
theorem dX6_isSame_381 : decode cX6_isSame 381 = .ok (.dconst 0, 1) := by decide +kernel
theorem dX6_isSame_382 : decode cX6_isSame 382 = .ok (.goto 12, 3) := by decide +kernel
theorem dX6_isSame_385 : decode cX6_isSame 385 = .ok (.iload_n 2, 1) := by decide +kernel
theorem dX6_isSame_386 : decode cX6_isSame 386 = .ok (.i2d, 1) := by decide +kernel
theorem dX6_isSame_387 : decode cX6_isSame 387 = .ok (.aload_n 0, 1) := by decide +kernel
theorem dX6_isSame_388 : decode cX6_isSame 388 = .ok (.getfield 28, 3) := by decide +kernel
theorem dX6_isSame_391 : decode cX6_isSame 391 = .ok (.arraylength, 1) := by decide +kernel
theorem dX6_isSame_392 : decode cX6_isSame 392 = .ok (.i2d, 1) := by decide +kernel
theorem dX6_isSame_393 : decode cX6_isSame 393 = .ok (.ddiv, 1) := by decide +kernel
theorem dX6_isSame_394 : decode cX6_isSame 394 = .ok (.dcmp .l, 1) := by decide +kernel
theorem dX6_isSame_395 : decode cX6_isSame 395 = .ok (.ifCond .ne 7, 3) := by decide +kernel
theorem dX6_isSame_398 : decode cX6_isSame 398 = .ok (.iconst 1, 1) := by decide +kernel
theorem dX6_isSame_399 : decode cX6_isSame 399 = .ok (.goto 4, 3) := by decide +kernel
theorem dX6_isSame_402 : decode cX6_isSame 402 = .ok (.iconst 0, 1) := by decide +kernel
theorem dX6_isSame_403 : decode cX6_isSame 403 = .ok (.ireturn, 1) := by decide +kernel
theorem nmX7 : ∀ a, a < 0 → ∀ b, b < 0 → a ≠ b → (TX7 a).2.1 ≠ (TX7 b).2.1 := by decide +kernel
theorem tyX7_ok : ∀ k, k < 0 → parseFieldDescriptor (TX7 k).2.2.1 = some (tyX7 k) := by decide +kernel
end
section
theorem dL_below_0 : decode cL_below 0 = .ok (.iload_n 0, 1) := by decide +kernel
theorem dL_below_1 : decode cL_below 1 = .ok (.ldc 7, 2) := by decide +kernel
theorem dL_below_3 : decode cL_below 3 = .ok (.iand, 1) := by decide +kernel
theorem dL_below_4 : decode cL_below 4 = .ok (.iload_n 1, 1) := by decide +kernel
theorem dL_below_5 : decode cL_below 5 = .ok (.irem, 1) := by decide +kernel
theorem dL_below_6 : decode cL_below 6 = .ok (.ireturn, 1) := by decide +kernel
theorem dL_cell_0 : decode cL_cell 0 = .ok (.iload_n 1, 1) := by decide +kernel
theorem dL_cell_1 : decode cL_cell 1 = .ok (.aload_n 0, 1) := by decide +kernel
theorem dL_cell_2 : decode cL_cell 2 = .ok (.arraylength, 1) := by decide +kernel
theorem dL_cell_3 : decode cL_cell 3 = .ok (.if_icmp .ge 9, 3) := by decide +kernel
theorem dL_cell_6 : decode cL_cell 6 = .ok (.aload_n 0, 1) := by decide +kernel
theorem dL_cell_7 : decode cL_cell 7 = .ok (.iload_n 1, 1) := by decide +kernel
theorem dL_cell_8 : decode cL_cell 8 = .ok (.iaload, 1) := by decide +kernel
theorem dL_cell_9 : decode cL_cell 9 = .ok (.goto 9, 3) := by decide +kernel
theorem dL_cell_12 : decode cL_cell 12 = .ok (.ldc 8, 2) := by decide +kernel
theorem dL_cell_14 : decode cL_cell 14 = .ok (.iload_n 1, 1) := by decide +kernel
theorem dL_cell_15 : decode cL_cell 15 = .ok (.iconst 3, 1) := by decide +kernel
theorem dL_cell_16 : decode cL_cell 16 = .ok (.iadd, 1) := by decide +kernel
theorem dL_cell_17 : decode cL_cell 17 = .ok (.imul, 1) := by decide +kernel
theorem dL_cell_18 : decode cL_cell 18 = .ok (.ireturn, 1) := by decide +kernel
theorem dL_act_0 : decode cL_act 0 = .ok (.aload_n 1, 1) := by decide +kernel
theorem dL_act_1 : decode cL_act 1 = .ok (.getfield 9, 3) := by decide +kernel
theorem dL_act_4 : decode cL_act 4 = .ok (.arraylength, 1) := by decide +kernel
theorem dL_act_5 : decode cL_act 5 = .ok (.istore_n 3, 1) := by decide +kernel
theorem dL_act_6 : decode cL_act 6 = .ok (.aload_n 1, 1) := by decide +kernel
theorem dL_act_7 : decode cL_act 7 = .ok (.getfield 15, 3) := by decide +kernel
theorem dL_act_10 : decode cL_act 10 = .ok (.arraylength, 1) := by decide +kernel
theorem dL_act_11 : decode cL_act 11 = .ok (.istore 4, 2) := by decide +kernel
theorem dL_act_13 : decode cL_act 13 = .ok (.iload_n 2, 1) := by decide +kernel
theorem dL_act_14 : decode cL_act 14 = .ok (.iconst 4, 1) := by decide +kernel
theorem dL_act_15 : decode cL_act 15 = .ok (.invokestatic 18, 3) := by decide +kernel
theorem dL_act_18 : decode cL_act 18 = .ok (.istore 5, 2) := by decide +kernel
theorem dL_act_20 : decode cL_act 20 = .ok (.iload_n 2, 1) := by decide +kernel
theorem dL_act_21 : decode cL_act 21 = .ok (.iconst 2, 1) := by decide +kernel
theorem dL_act_22 : decode cL_act 22 = .ok (.ishr, 1) := by decide +kernel
theorem dL_act_23 : decode cL_act 23 = .ok (.iconst 3, 1) := by decide +kernel
theorem dL_act_24 : decode cL_act 24 = .ok (.invokestatic 18, 3) := by decide +kernel
theorem dL_act_27 : decode cL_act 27 = .ok (.istore 6, 2) := by decide +kernel
theorem dL_act_29 : decode cL_act 29 = .ok (.iload_n 2, 1) := by decide +kernel
theorem dL_act_30 : decode cL_act 30 = .ok (.bipush 9, 2) := by decide +kernel
theorem dL_act_32 : decode cL_act 32 = .ok (.ishr, 1) := by decide +kernel
theorem dL_act_33 : decode cL_act 33 = .ok (.bipush 18, 2) := by decide +kernel
theorem dL_act_35 : decode cL_act 35 = .ok (.invokestatic 18, 3) := by decide +kernel
theorem dL_act_38 : decode cL_act 38 = .ok (.tableswitch 868 0 13 #[70, 70, 222, 222, 397, 397, 397, 397, 497, 571, 571, 649, 729, 796], 70) := by decide +kernel
theorem dL_act_108 : decode cL_act 108 = .ok (.iload_n 2, 1) := by decide +kernel
theorem dL_act_109 : decode cL_act 109 = .ok (.iconst 1, 1) := by decide +kernel
theorem dL_act_110 : decode cL_act 110 = .ok (.ishr, 1) := by decide +kernel
theorem dL_act_111 : decode cL_act 111 = .ok (.iconst 4, 1) := by decide +kernel
theorem dL_act_112 : decode cL_act 112 = .ok (.invokestatic 18, 3) := by decide +kernel
theorem dL_act_115 : decode cL_act 115 = .ok (.istore 7, 2) := by decide +kernel
theorem dL_act_117 : decode cL_act 117 = .ok (.iconst 1, 1) := by decide +kernel
theorem dL_act_118 : decode cL_act 118 = .ok (.iload_n 2, 1) := by decide +kernel
theorem dL_act_119 : decode cL_act 119 = .ok (.iconst 4, 1) := by decide +kernel
theorem dL_act_120 : decode cL_act 120 = .ok (.ishr, 1) := by decide +kernel
theorem dL_act_121 : decode cL_act 121 = .ok (.bipush 12, 2) := by decide +kernel
theorem dL_act_123 : decode cL_act 123 = .ok (.invokestatic 18, 3) := by decide +kernel
theorem dL_act_126 : decode cL_act 126 = .ok (.iadd, 1) := by decide +kernel
theorem dL_act_127 : decode cL_act 127 = .ok (.istore 8, 2) := by decide +kernel
theorem dL_act_129 : decode cL_act 129 = .ok (.iload 7, 2) := by decide +kernel
theorem dL_act_131 : decode cL_act 131 = .ok (.iconst 3, 1) := by decide +kernel
theorem dL_act_132 : decode cL_act 132 = .ok (.if_icmp .ne 10, 3) := by decide +kernel
theorem dL_act_135 : decode cL_act 135 = .ok (.iload 8, 2) := by decide +kernel
theorem dL_act_137 : decode cL_act 137 = .ok (.iconst 2, 1) := by decide +kernel
theorem dL_act_138 : decode cL_act 138 = .ok (.imul, 1) := by decide +kernel
theorem dL_act_139 : decode cL_act 139 = .ok (.goto 10, 3) := by decide +kernel
theorem dL_act_142 : decode cL_act 142 = .ok (.iload 8, 2) := by decide +kernel
theorem dL_act_144 : decode cL_act 144 = .ok (.iconst 3, 1) := by decide +kernel
theorem dL_act_145 : decode cL_act 145 = .ok (.iload 7, 2) := by decide +kernel
theorem dL_act_147 : decode cL_act 147 = .ok (.isub, 1) := by decide +kernel
theorem dL_act_148 : decode cL_act 148 = .ok (.imul, 1) := by decide +kernel
theorem dL_act_149 : decode cL_act 149 = .ok (.istore 9, 2) := by decide +kernel
theorem dL_act_151 : decode cL_act 151 = .ok (.iload 9, 2) := by decide +kernel
theorem dL_act_153 : decode cL_act 153 = .ok (.aload_n 1, 1) := by decide +kernel
theorem dL_act_154 : decode cL_act 154 = .ok (.getfield 24, 3) := by decide +kernel
theorem dL_act_157 : decode cL_act 157 = .ok (.if_icmp .gt 21, 3) := by decide +kernel
theorem dL_act_160 : decode cL_act 160 = .ok (.iload 7, 2) := by decide +kernel
theorem dL_act_162 : decode cL_act 162 = .ok (.iconst 3, 1) := by decide +kernel
theorem dL_act_163 : decode cL_act 163 = .ok (.if_icmp .ne 17, 3) := by decide +kernel
theorem dL_act_166 : decode cL_act 166 = .ok (.aload_n 1, 1) := by decide +kernel
theorem dL_act_167 : decode cL_act 167 = .ok (.getfield 28, 3) := by decide +kernel
theorem dL_act_170 : decode cL_act 170 = .ok (.iload 8, 2) := by decide +kernel
theorem dL_act_172 : decode cL_act 172 = .ok (.iadd, 1) := by decide +kernel
theorem dL_act_173 : decode cL_act 173 = .ok (.bipush 90, 2) := by decide +kernel
theorem dL_act_175 : decode cL_act 175 = .ok (.if_icmp .le 5, 3) := by decide +kernel
theorem dL_act_178 : decode cL_act 178 = .ok (.iconst 1, 1) := by decide +kernel
theorem dL_act_179 : decode cL_act 179 = .ok (.ireturn, 1) := by decide +kernel
theorem dL_act_180 : decode cL_act 180 = .ok (.aload_n 1, 1) := by decide +kernel
theorem dL_act_181 : decode cL_act 181 = .ok (.dup, 1) := by decide +kernel
theorem dL_act_182 : decode cL_act 182 = .ok (.getfield 24, 3) := by decide +kernel
theorem dL_act_185 : decode cL_act 185 = .ok (.iload 9, 2) := by decide +kernel
theorem dL_act_187 : decode cL_act 187 = .ok (.isub, 1) := by decide +kernel
theorem dL_act_188 : decode cL_act 188 = .ok (.putfield 24, 3) := by decide +kernel
theorem dL_act_191 : decode cL_act 191 = .ok (.iload 7, 2) := by decide +kernel
theorem dL_act_193 : decode cL_act 193 = .ok (.iconst 3, 1) := by decide +kernel
theorem dL_act_194 : decode cL_act 194 = .ok (.if_icmp .ne 17, 3) := by decide +kernel
theorem dL_act_197 : decode cL_act 197 = .ok (.aload_n 1, 1) := by decide +kernel
theorem dL_act_198 : decode cL_act 198 = .ok (.dup, 1) := by decide +kernel
theorem dL_act_199 : decode cL_act 199 = .ok (.getfield 28, 3) := by decide +kernel
theorem dL_act_202 : decode cL_act 202 = .ok (.iload 8, 2) := by decide +kernel
theorem dL_act_204 : decode cL_act 204 = .ok (.iadd, 1) := by decide +kernel
theorem dL_act_205 : decode cL_act 205 = .ok (.putfield 28, 3) := by decide +kernel
theorem dL_act_208 : decode cL_act 208 = .ok (.goto 15, 3) := by decide +kernel
theorem dL_act_211 : decode cL_act 211 = .ok (.aload_n 1, 1) := by decide +kernel
theorem dL_act_212 : decode cL_act 212 = .ok (.getfield 31, 3) := by decide +kernel
theorem dL_act_215 : decode cL_act 215 = .ok (.iload 7, 2) := by decide +kernel
theorem dL_act_217 : decode cL_act 217 = .ok (.dup2, 1) := by decide +kernel
theorem dL_act_218 : decode cL_act 218 = .ok (.iaload, 1) := by decide +kernel
theorem dL_act_219 : decode cL_act 219 = .ok (.iload 8, 2) := by decide +kernel
theorem dL_act_221 : decode cL_act 221 = .ok (.iadd, 1) := by decide +kernel
theorem dL_act_222 : decode cL_act 222 = .ok (.iastore, 1) := by decide +kernel
theorem dL_act_223 : decode cL_act 223 = .ok (.aload_n 0, 1) := by decide +kernel
theorem dL_act_224 : decode cL_act 224 = .ok (.iload 7, 2) := by decide +kernel
theorem dL_act_226 : decode cL_act 226 = .ok (.iload 8, 2) := by decide +kernel
theorem dL_act_228 : decode cL_act 228 = .ok (.invokevirtual 35, 3) := by decide +kernel
theorem dL_act_231 : decode cL_act 231 = .ok (.iload 7, 2) := by decide +kernel
theorem dL_act_233 : decode cL_act 233 = .ok (.iconst 3, 1) := by decide +kernel
theorem dL_act_234 : decode cL_act 234 = .ok (.if_icmp .ne 10, 3) := by decide +kernel
theorem dL_act_237 : decode cL_act 237 = .ok (.aload_n 1, 1) := by decide +kernel
theorem dL_act_238 : decode cL_act 238 = .ok (.getfield 28, 3) := by decide +kernel
theorem dL_act_241 : decode cL_act 241 = .ok (.goto 10, 3) := by decide +kernel
theorem dL_act_244 : decode cL_act 244 = .ok (.aload_n 1, 1) := by decide +kernel
theorem dL_act_245 : decode cL_act 245 = .ok (.getfield 31, 3) := by decide +kernel
theorem dL_act_248 : decode cL_act 248 = .ok (.iload 7, 2) := by decide +kernel
theorem dL_act_250 : decode cL_act 250 = .ok (.iaload, 1) := by decide +kernel
theorem dL_act_251 : decode cL_act 251 = .ok (.if_icmp .ne 7, 3) := by decide +kernel
theorem dL_act_254 : decode cL_act 254 = .ok (.iconst 1, 1) := by decide +kernel
theorem dL_act_255 : decode cL_act 255 = .ok (.goto 4, 3) := by decide +kernel
theorem dL_act_258 : decode cL_act 258 = .ok (.iconst 0, 1) := by decide +kernel
theorem dL_act_259 : decode cL_act 259 = .ok (.ireturn, 1) := by decide +kernel
theorem dL_act_260 : decode cL_act 260 = .ok (.iload_n 2, 1) := by decide +kernel
theorem dL_act_261 : decode cL_act 261 = .ok (.iconst 1, 1) := by decide +kernel
theorem dL_act_262 : decode cL_act 262 = .ok (.ishr, 1) := by decide +kernel
theorem dL_act_263 : decode cL_act 263 = .ok (.bipush 10, 2) := by decide +kernel
theorem dL_act_265 : decode cL_act 265 = .ok (.invokestatic 18, 3) := by decide +kernel
theorem dL_act_268 : decode cL_act 268 = .ok (.istore 10, 2) := by decide +kernel
theorem dL_act_270 : decode cL_act 270 = .ok (.iconst 0, 1) := by decide +kernel
theorem dL_act_271 : decode cL_act 271 = .ok (.istore 11, 2) := by decide +kernel
theorem dL_act_273 : decode cL_act 273 = .ok (.iload 11, 2) := by decide +kernel
theorem dL_act_275 : decode cL_act 275 = .ok (.bipush 10, 2) := by decide +kernel
theorem dL_act_277 : decode cL_act 277 = .ok (.if_icmp .ge 33, 3) := by decide +kernel
theorem dL_act_280 : decode cL_act 280 = .ok (.aload_n 1, 1) := by decide +kernel
theorem dL_act_281 : decode cL_act 281 = .ok (.getfield 40, 3) := by decide +kernel
theorem dL_act_284 : decode cL_act 284 = .ok (.iload 10, 2) := by decide +kernel
theorem dL_act_286 : decode cL_act 286 = .ok (.aaload, 1) := by decide +kernel
theorem dL_act_287 : decode cL_act 287 = .ok (.iload 6, 2) := by decide +kernel
theorem dL_act_289 : decode cL_act 289 = .ok (.iaload, 1) := by decide +kernel
theorem dL_act_290 : decode cL_act 290 = .ok (.bipush 24, 2) := by decide +kernel
theorem dL_act_292 : decode cL_act 292 = .ok (.if_icmp .ge 18, 3) := by decide +kernel
theorem dL_act_295 : decode cL_act 295 = .ok (.iload 10, 2) := by decide +kernel
theorem dL_act_297 : decode cL_act 297 = .ok (.iconst 1, 1) := by decide +kernel
theorem dL_act_298 : decode cL_act 298 = .ok (.iadd, 1) := by decide +kernel
theorem dL_act_299 : decode cL_act 299 = .ok (.bipush 10, 2) := by decide +kernel
theorem dL_act_301 : decode cL_act 301 = .ok (.irem, 1) := by decide +kernel
theorem dL_act_302 : decode cL_act 302 = .ok (.istore 10, 2) := by decide +kernel
theorem dL_act_304 : decode cL_act 304 = .ok (.iinc 11 1, 3) := by decide +kernel
theorem dL_act_307 : decode cL_act 307 = .ok (.goto (-34), 3) := by decide +kernel
theorem dL_act_310 : decode cL_act 310 = .ok (.aload_n 1, 1) := by decide +kernel
theorem dL_act_311 : decode cL_act 311 = .ok (.getfield 40, 3) := by decide +kernel
theorem dL_act_314 : decode cL_act 314 = .ok (.iload 10, 2) := by decide +kernel
theorem dL_act_316 : decode cL_act 316 = .ok (.aaload, 1) := by decide +kernel
theorem dL_act_317 : decode cL_act 317 = .ok (.iload 6, 2) := by decide +kernel
theorem dL_act_319 : decode cL_act 319 = .ok (.iaload, 1) := by decide +kernel
theorem dL_act_320 : decode cL_act 320 = .ok (.bipush 24, 2) := by decide +kernel
theorem dL_act_322 : decode cL_act 322 = .ok (.if_icmp .ge 5, 3) := by decide +kernel
theorem dL_act_325 : decode cL_act 325 = .ok (.iconst 1, 1) := by decide +kernel
theorem dL_act_326 : decode cL_act 326 = .ok (.ireturn, 1) := by decide +kernel
theorem dL_act_327 : decode cL_act 327 = .ok (.iconst 1, 1) := by decide +kernel
theorem dL_act_328 : decode cL_act 328 = .ok (.iload_n 2, 1) := by decide +kernel
theorem dL_act_329 : decode cL_act 329 = .ok (.iconst 4, 1) := by decide +kernel
theorem dL_act_330 : decode cL_act 330 = .ok (.ishr, 1) := by decide +kernel
theorem dL_act_331 : decode cL_act 331 = .ok (.aload_n 1, 1) := by decide +kernel
theorem dL_act_332 : decode cL_act 332 = .ok (.getfield 40, 3) := by decide +kernel
theorem dL_act_335 : decode cL_act 335 = .ok (.iload 10, 2) := by decide +kernel
theorem dL_act_337 : decode cL_act 337 = .ok (.aaload, 1) := by decide +kernel
theorem dL_act_338 : decode cL_act 338 = .ok (.iload 6, 2) := by decide +kernel
theorem dL_act_340 : decode cL_act 340 = .ok (.iaload, 1) := by decide +kernel
theorem dL_act_341 : decode cL_act 341 = .ok (.bipush 24, 2) := by decide +kernel
theorem dL_act_343 : decode cL_act 343 = .ok (.idiv, 1) := by decide +kernel
theorem dL_act_344 : decode cL_act 344 = .ok (.bipush 9, 2) := by decide +kernel
theorem dL_act_346 : decode cL_act 346 = .ok (.if_icmp .le 8, 3) := by decide +kernel
theorem dL_act_349 : decode cL_act 349 = .ok (.bipush 9, 2) := by decide +kernel
theorem dL_act_351 : decode cL_act 351 = .ok (.goto 16, 3) := by decide +kernel
theorem dL_act_354 : decode cL_act 354 = .ok (.aload_n 1, 1) := by decide +kernel
theorem dL_act_355 : decode cL_act 355 = .ok (.getfield 40, 3) := by decide +kernel
theorem dL_act_358 : decode cL_act 358 = .ok (.iload 10, 2) := by decide +kernel
theorem dL_act_360 : decode cL_act 360 = .ok (.aaload, 1) := by decide +kernel
theorem dL_act_361 : decode cL_act 361 = .ok (.iload 6, 2) := by decide +kernel
theorem dL_act_363 : decode cL_act 363 = .ok (.iaload, 1) := by decide +kernel
theorem dL_act_364 : decode cL_act 364 = .ok (.bipush 24, 2) := by decide +kernel
theorem dL_act_366 : decode cL_act 366 = .ok (.idiv, 1) := by decide +kernel
theorem dL_act_367 : decode cL_act 367 = .ok (.invokestatic 18, 3) := by decide +kernel
theorem dL_act_370 : decode cL_act 370 = .ok (.iadd, 1) := by decide +kernel
theorem dL_act_371 : decode cL_act 371 = .ok (.istore 11, 2) := by decide +kernel
theorem dL_act_373 : decode cL_act 373 = .ok (.aload_n 1, 1) := by decide +kernel
theorem dL_act_374 : decode cL_act 374 = .ok (.getfield 40, 3) := by decide +kernel
theorem dL_act_377 : decode cL_act 377 = .ok (.iload 10, 2) := by decide +kernel
theorem dL_act_379 : decode cL_act 379 = .ok (.aaload, 1) := by decide +kernel
theorem dL_act_380 : decode cL_act 380 = .ok (.iload 6, 2) := by decide +kernel
theorem dL_act_382 : decode cL_act 382 = .ok (.dup2, 1) := by decide +kernel
theorem dL_act_383 : decode cL_act 383 = .ok (.iaload, 1) := by decide +kernel
theorem dL_act_384 : decode cL_act 384 = .ok (.bipush 24, 2) := by decide +kernel
theorem dL_act_386 : decode cL_act 386 = .ok (.iload 11, 2) := by decide +kernel
theorem dL_act_388 : decode cL_act 388 = .ok (.imul, 1) := by decide +kernel
theorem dL_act_389 : decode cL_act 389 = .ok (.isub, 1) := by decide +kernel
theorem dL_act_390 : decode cL_act 390 = .ok (.iastore, 1) := by decide +kernel
theorem dL_act_391 : decode cL_act 391 = .ok (.aload_n 1, 1) := by decide +kernel
theorem dL_act_392 : decode cL_act 392 = .ok (.dup, 1) := by decide +kernel
theorem dL_act_393 : decode cL_act 393 = .ok (.getfield 24, 3) := by decide +kernel
theorem dL_act_396 : decode cL_act 396 = .ok (.iload 11, 2) := by decide +kernel
theorem dL_act_398 : decode cL_act 398 = .ok (.iload 6, 2) := by decide +kernel
theorem dL_act_400 : decode cL_act 400 = .ok (.invokestatic 43, 3) := by decide +kernel
theorem dL_act_403 : decode cL_act 403 = .ok (.imul, 1) := by decide +kernel
theorem dL_act_404 : decode cL_act 404 = .ok (.iadd, 1) := by decide +kernel
theorem dL_act_405 : decode cL_act 405 = .ok (.putfield 24, 3) := by decide +kernel
theorem dL_act_408 : decode cL_act 408 = .ok (.aload_n 0, 1) := by decide +kernel
theorem dL_act_409 : decode cL_act 409 = .ok (.iload 10, 2) := by decide +kernel
theorem dL_act_411 : decode cL_act 411 = .ok (.iload 6, 2) := by decide +kernel
theorem dL_act_413 : decode cL_act 413 = .ok (.iload 11, 2) := by decide +kernel
theorem dL_act_415 : decode cL_act 415 = .ok (.invokevirtual 47, 3) := by decide +kernel
theorem dL_act_418 : decode cL_act 418 = .ok (.iload 11, 2) := by decide +kernel
theorem dL_act_420 : decode cL_act 420 = .ok (.iload 6, 2) := by decide +kernel
theorem dL_act_422 : decode cL_act 422 = .ok (.invokestatic 43, 3) := by decide +kernel
theorem dL_act_425 : decode cL_act 425 = .ok (.imul, 1) := by decide +kernel
theorem dL_act_426 : decode cL_act 426 = .ok (.if_icmp .ne 7, 3) := by decide +kernel
theorem dL_act_429 : decode cL_act 429 = .ok (.iconst 1, 1) := by decide +kernel
theorem dL_act_430 : decode cL_act 430 = .ok (.goto 4, 3) := by decide +kernel
theorem dL_act_433 : decode cL_act 433 = .ok (.iconst 0, 1) := by decide +kernel
theorem dL_act_434 : decode cL_act 434 = .ok (.ireturn, 1) := by decide +kernel
theorem dL_act_435 : decode cL_act 435 = .ok (.iconst 1, 1) := by decide +kernel
theorem dL_act_436 : decode cL_act 436 = .ok (.iload_n 2, 1) := by decide +kernel
theorem dL_act_437 : decode cL_act 437 = .ok (.iconst 4, 1) := by decide +kernel
theorem dL_act_438 : decode cL_act 438 = .ok (.ishr, 1) := by decide +kernel
theorem dL_act_439 : decode cL_act 439 = .ok (.bipush 40, 2) := by decide +kernel
theorem dL_act_441 : decode cL_act 441 = .ok (.invokestatic 18, 3) := by decide +kernel
theorem dL_act_444 : decode cL_act 444 = .ok (.iadd, 1) := by decide +kernel
theorem dL_act_445 : decode cL_act 445 = .ok (.istore 12, 2) := by decide +kernel
theorem dL_act_447 : decode cL_act 447 = .ok (.aload_n 1, 1) := by decide +kernel
theorem dL_act_448 : decode cL_act 448 = .ok (.getfield 51, 3) := by decide +kernel
theorem dL_act_451 : decode cL_act 451 = .ok (.iload 5, 2) := by decide +kernel
theorem dL_act_453 : decode cL_act 453 = .ok (.aaload, 1) := by decide +kernel
theorem dL_act_454 : decode cL_act 454 = .ok (.iconst 0, 1) := by decide +kernel
theorem dL_act_455 : decode cL_act 455 = .ok (.iaload, 1) := by decide +kernel
theorem dL_act_456 : decode cL_act 456 = .ok (.ifCond .gt 15, 3) := by decide +kernel
theorem dL_act_459 : decode cL_act 459 = .ok (.aload_n 1, 1) := by decide +kernel
theorem dL_act_460 : decode cL_act 460 = .ok (.getfield 31, 3) := by decide +kernel
theorem dL_act_463 : decode cL_act 463 = .ok (.iload 6, 2) := by decide +kernel
theorem dL_act_465 : decode cL_act 465 = .ok (.iaload, 1) := by decide +kernel
theorem dL_act_466 : decode cL_act 466 = .ok (.iload 12, 2) := by decide +kernel
theorem dL_act_468 : decode cL_act 468 = .ok (.if_icmp .ge 5, 3) := by decide +kernel
theorem dL_act_471 : decode cL_act 471 = .ok (.iconst 1, 1) := by decide +kernel
theorem dL_act_472 : decode cL_act 472 = .ok (.ireturn, 1) := by decide +kernel
theorem dL_act_473 : decode cL_act 473 = .ok (.aload_n 1, 1) := by decide +kernel
theorem dL_act_474 : decode cL_act 474 = .ok (.getfield 31, 3) := by decide +kernel
theorem dL_act_477 : decode cL_act 477 = .ok (.iload 6, 2) := by decide +kernel
theorem dL_act_479 : decode cL_act 479 = .ok (.dup2, 1) := by decide +kernel
theorem dL_act_480 : decode cL_act 480 = .ok (.iaload, 1) := by decide +kernel
theorem dL_act_481 : decode cL_act 481 = .ok (.iload 12, 2) := by decide +kernel
theorem dL_act_483 : decode cL_act 483 = .ok (.isub, 1) := by decide +kernel
theorem dL_act_484 : decode cL_act 484 = .ok (.iastore, 1) := by decide +kernel
theorem dL_act_485 : decode cL_act 485 = .ok (.aload_n 1, 1) := by decide +kernel
theorem dL_act_486 : decode cL_act 486 = .ok (.getfield 51, 3) := by decide +kernel
theorem dL_act_489 : decode cL_act 489 = .ok (.iload 5, 2) := by decide +kernel
theorem dL_act_491 : decode cL_act 491 = .ok (.iconst 3, 1) := by decide +kernel
theorem dL_act_492 : decode cL_act 492 = .ok (.newarray .int, 2) := by decide +kernel
theorem dL_act_494 : decode cL_act 494 = .ok (.dup, 1) := by decide +kernel
theorem dL_act_495 : decode cL_act 495 = .ok (.iconst 0, 1) := by decide +kernel
theorem dL_act_496 : decode cL_act 496 = .ok (.iload 12, 2) := by decide +kernel
theorem dL_act_498 : decode cL_act 498 = .ok (.iastore, 1) := by decide +kernel
theorem dL_act_499 : decode cL_act 499 = .ok (.dup, 1) := by decide +kernel
theorem dL_act_500 : decode cL_act 500 = .ok (.iconst 1, 1) := by decide +kernel
theorem dL_act_501 : decode cL_act 501 = .ok (.iconst 0, 1) := by decide +kernel
theorem dL_act_502 : decode cL_act 502 = .ok (.iastore, 1) := by decide +kernel
theorem dL_act_503 : decode cL_act 503 = .ok (.dup, 1) := by decide +kernel
theorem dL_act_504 : decode cL_act 504 = .ok (.iconst 2, 1) := by decide +kernel
theorem dL_act_505 : decode cL_act 505 = .ok (.iload 6, 2) := by decide +kernel
theorem dL_act_507 : decode cL_act 507 = .ok (.iastore, 1) := by decide +kernel
theorem dL_act_508 : decode cL_act 508 = .ok (.aastore, 1) := by decide +kernel
theorem dL_act_509 : decode cL_act 509 = .ok (.aload_n 0, 1) := by decide +kernel
theorem dL_act_510 : decode cL_act 510 = .ok (.iload 5, 2) := by decide +kernel
theorem dL_act_512 : decode cL_act 512 = .ok (.iload 6, 2) := by decide +kernel
theorem dL_act_514 : decode cL_act 514 = .ok (.iload 12, 2) := by decide +kernel
theorem dL_act_516 : decode cL_act 516 = .ok (.invokevirtual 54, 3) := by decide +kernel
theorem dL_act_519 : decode cL_act 519 = .ok (.aload_n 1, 1) := by decide +kernel
theorem dL_act_520 : decode cL_act 520 = .ok (.getfield 31, 3) := by decide +kernel
theorem dL_act_523 : decode cL_act 523 = .ok (.iload 6, 2) := by decide +kernel
theorem dL_act_525 : decode cL_act 525 = .ok (.iaload, 1) := by decide +kernel
theorem dL_act_526 : decode cL_act 526 = .ok (.if_icmp .ne 7, 3) := by decide +kernel
theorem dL_act_529 : decode cL_act 529 = .ok (.iconst 1, 1) := by decide +kernel
theorem dL_act_530 : decode cL_act 530 = .ok (.goto 4, 3) := by decide +kernel
theorem dL_act_533 : decode cL_act 533 = .ok (.iconst 0, 1) := by decide +kernel
theorem dL_act_534 : decode cL_act 534 = .ok (.ireturn, 1) := by decide +kernel
theorem dL_act_535 : decode cL_act 535 = .ok (.aload_n 1, 1) := by decide +kernel
theorem dL_act_536 : decode cL_act 536 = .ok (.getfield 51, 3) := by decide +kernel
theorem dL_act_539 : decode cL_act 539 = .ok (.iload 5, 2) := by decide +kernel
theorem dL_act_541 : decode cL_act 541 = .ok (.aaload, 1) := by decide +kernel
theorem dL_act_542 : decode cL_act 542 = .ok (.iconst 0, 1) := by decide +kernel
theorem dL_act_543 : decode cL_act 543 = .ok (.iaload, 1) := by decide +kernel
theorem dL_act_544 : decode cL_act 544 = .ok (.ifCond .eq 13, 3) := by decide +kernel
theorem dL_act_547 : decode cL_act 547 = .ok (.iload_n 2, 1) := by decide +kernel
theorem dL_act_548 : decode cL_act 548 = .ok (.iconst 3, 1) := by decide +kernel
theorem dL_act_549 : decode cL_act 549 = .ok (.ishr, 1) := by decide +kernel
theorem dL_act_550 : decode cL_act 550 = .ok (.iconst 4, 1) := by decide +kernel
theorem dL_act_551 : decode cL_act 551 = .ok (.invokestatic 18, 3) := by decide +kernel
theorem dL_act_554 : decode cL_act 554 = .ok (.ifCond .le 5, 3) := by decide +kernel
theorem dL_act_557 : decode cL_act 557 = .ok (.iconst 1, 1) := by decide +kernel
theorem dL_act_558 : decode cL_act 558 = .ok (.ireturn, 1) := by decide +kernel
theorem dL_act_559 : decode cL_act 559 = .ok (.aload_n 1, 1) := by decide +kernel
theorem dL_act_560 : decode cL_act 560 = .ok (.getfield 51, 3) := by decide +kernel
theorem dL_act_563 : decode cL_act 563 = .ok (.iload 5, 2) := by decide +kernel
theorem dL_act_565 : decode cL_act 565 = .ok (.aaload, 1) := by decide +kernel
theorem dL_act_566 : decode cL_act 566 = .ok (.iconst 0, 1) := by decide +kernel
theorem dL_act_567 : decode cL_act 567 = .ok (.iaload, 1) := by decide +kernel
theorem dL_act_568 : decode cL_act 568 = .ok (.istore 13, 2) := by decide +kernel
theorem dL_act_570 : decode cL_act 570 = .ok (.aload_n 1, 1) := by decide +kernel
theorem dL_act_571 : decode cL_act 571 = .ok (.getfield 51, 3) := by decide +kernel
theorem dL_act_574 : decode cL_act 574 = .ok (.iload 5, 2) := by decide +kernel
theorem dL_act_576 : decode cL_act 576 = .ok (.iconst 3, 1) := by decide +kernel
theorem dL_act_577 : decode cL_act 577 = .ok (.newarray .int, 2) := by decide +kernel
theorem dL_act_579 : decode cL_act 579 = .ok (.dup, 1) := by decide +kernel
theorem dL_act_580 : decode cL_act 580 = .ok (.iconst 0, 1) := by decide +kernel
theorem dL_act_581 : decode cL_act 581 = .ok (.iconst 0, 1) := by decide +kernel
theorem dL_act_582 : decode cL_act 582 = .ok (.iastore, 1) := by decide +kernel
theorem dL_act_583 : decode cL_act 583 = .ok (.dup, 1) := by decide +kernel
theorem dL_act_584 : decode cL_act 584 = .ok (.iconst 1, 1) := by decide +kernel
theorem dL_act_585 : decode cL_act 585 = .ok (.iconst 0, 1) := by decide +kernel
theorem dL_act_586 : decode cL_act 586 = .ok (.iastore, 1) := by decide +kernel
theorem dL_act_587 : decode cL_act 587 = .ok (.dup, 1) := by decide +kernel
theorem dL_act_588 : decode cL_act 588 = .ok (.iconst 2, 1) := by decide +kernel
theorem dL_act_589 : decode cL_act 589 = .ok (.iconst (-1), 1) := by decide +kernel
theorem dL_act_590 : decode cL_act 590 = .ok (.iastore, 1) := by decide +kernel
theorem dL_act_591 : decode cL_act 591 = .ok (.aastore, 1) := by decide +kernel
theorem dL_act_592 : decode cL_act 592 = .ok (.aload_n 0, 1) := by decide +kernel
theorem dL_act_593 : decode cL_act 593 = .ok (.iload 5, 2) := by decide +kernel
theorem dL_act_595 : decode cL_act 595 = .ok (.invokevirtual 57, 3) := by decide +kernel
theorem dL_act_598 : decode cL_act 598 = .ok (.iload 13, 2) := by decide +kernel
theorem dL_act_600 : decode cL_act 600 = .ok (.if_icmp .ne 7, 3) := by decide +kernel
theorem dL_act_603 : decode cL_act 603 = .ok (.iconst 1, 1) := by decide +kernel
theorem dL_act_604 : decode cL_act 604 = .ok (.goto 4, 3) := by decide +kernel
theorem dL_act_607 : decode cL_act 607 = .ok (.iconst 0, 1) := by decide +kernel
theorem dL_act_608 : decode cL_act 608 = .ok (.ireturn, 1) := by decide +kernel
theorem dL_act_609 : decode cL_act 609 = .ok (.iload_n 3, 1) := by decide +kernel
theorem dL_act_610 : decode cL_act 610 = .ok (.iconst 5, 1) := by decide +kernel
theorem dL_act_611 : decode cL_act 611 = .ok (.if_icmp .ne 5, 3) := by decide +kernel
theorem dL_act_614 : decode cL_act 614 = .ok (.iconst 1, 1) := by decide +kernel
theorem dL_act_615 : decode cL_act 615 = .ok (.ireturn, 1) := by decide +kernel
theorem dL_act_616 : decode cL_act 616 = .ok (.aload_n 1, 1) := by decide +kernel
theorem dL_act_617 : decode cL_act 617 = .ok (.aload_n 1, 1) := by decide +kernel
theorem dL_act_618 : decode cL_act 618 = .ok (.getfield 9, 3) := by decide +kernel
theorem dL_act_621 : decode cL_act 621 = .ok (.iconst 3, 1) := by decide +kernel
theorem dL_act_622 : decode cL_act 622 = .ok (.newarray .int, 2) := by decide +kernel
theorem dL_act_624 : decode cL_act 624 = .ok (.dup, 1) := by decide +kernel
theorem dL_act_625 : decode cL_act 625 = .ok (.iconst 0, 1) := by decide +kernel
theorem dL_act_626 : decode cL_act 626 = .ok (.iload_n 2, 1) := by decide +kernel
theorem dL_act_627 : decode cL_act 627 = .ok (.iconst 1, 1) := by decide +kernel
theorem dL_act_628 : decode cL_act 628 = .ok (.ishr, 1) := by decide +kernel
theorem dL_act_629 : decode cL_act 629 = .ok (.bipush 10, 2) := by decide +kernel
theorem dL_act_631 : decode cL_act 631 = .ok (.invokestatic 18, 3) := by decide +kernel
theorem dL_act_634 : decode cL_act 634 = .ok (.iastore, 1) := by decide +kernel
theorem dL_act_635 : decode cL_act 635 = .ok (.dup, 1) := by decide +kernel
theorem dL_act_636 : decode cL_act 636 = .ok (.iconst 1, 1) := by decide +kernel
theorem dL_act_637 : decode cL_act 637 = .ok (.iconst 1, 1) := by decide +kernel
theorem dL_act_638 : decode cL_act 638 = .ok (.iload_n 2, 1) := by decide +kernel
theorem dL_act_639 : decode cL_act 639 = .ok (.iconst 5, 1) := by decide +kernel
theorem dL_act_640 : decode cL_act 640 = .ok (.ishr, 1) := by decide +kernel
theorem dL_act_641 : decode cL_act 641 = .ok (.iconst 3, 1) := by decide +kernel
theorem dL_act_642 : decode cL_act 642 = .ok (.invokestatic 18, 3) := by decide +kernel
theorem dL_act_645 : decode cL_act 645 = .ok (.iadd, 1) := by decide +kernel
theorem dL_act_646 : decode cL_act 646 = .ok (.iastore, 1) := by decide +kernel
theorem dL_act_647 : decode cL_act 647 = .ok (.dup, 1) := by decide +kernel
theorem dL_act_648 : decode cL_act 648 = .ok (.iconst 2, 1) := by decide +kernel
theorem dL_act_649 : decode cL_act 649 = .ok (.iconst 0, 1) := by decide +kernel
theorem dL_act_650 : decode cL_act 650 = .ok (.iastore, 1) := by decide +kernel
theorem dL_act_651 : decode cL_act 651 = .ok (.invokestatic 60, 3) := by decide +kernel
theorem dL_act_654 : decode cL_act 654 = .ok (.putfield 9, 3) := by decide +kernel
theorem dL_act_657 : decode cL_act 657 = .ok (.aload_n 0, 1) := by decide +kernel
theorem dL_act_658 : decode cL_act 658 = .ok (.aload_n 1, 1) := by decide +kernel
theorem dL_act_659 : decode cL_act 659 = .ok (.getfield 9, 3) := by decide +kernel
theorem dL_act_662 : decode cL_act 662 = .ok (.iload_n 3, 1) := by decide +kernel
theorem dL_act_663 : decode cL_act 663 = .ok (.aaload, 1) := by decide +kernel
theorem dL_act_664 : decode cL_act 664 = .ok (.iconst 0, 1) := by decide +kernel
theorem dL_act_665 : decode cL_act 665 = .ok (.iaload, 1) := by decide +kernel
theorem dL_act_666 : decode cL_act 666 = .ok (.aload_n 1, 1) := by decide +kernel
theorem dL_act_667 : decode cL_act 667 = .ok (.getfield 9, 3) := by decide +kernel
theorem dL_act_670 : decode cL_act 670 = .ok (.iload_n 3, 1) := by decide +kernel
theorem dL_act_671 : decode cL_act 671 = .ok (.aaload, 1) := by decide +kernel
theorem dL_act_672 : decode cL_act 672 = .ok (.iconst 1, 1) := by decide +kernel
theorem dL_act_673 : decode cL_act 673 = .ok (.iaload, 1) := by decide +kernel
theorem dL_act_674 : decode cL_act 674 = .ok (.invokevirtual 64, 3) := by decide +kernel
theorem dL_act_677 : decode cL_act 677 = .ok (.iload_n 3, 1) := by decide +kernel
theorem dL_act_678 : decode cL_act 678 = .ok (.if_icmp .ne 7, 3) := by decide +kernel
theorem dL_act_681 : decode cL_act 681 = .ok (.iconst 1, 1) := by decide +kernel
theorem dL_act_682 : decode cL_act 682 = .ok (.goto 4, 3) := by decide +kernel
theorem dL_act_685 : decode cL_act 685 = .ok (.iconst 0, 1) := by decide +kernel
theorem dL_act_686 : decode cL_act 686 = .ok (.ireturn, 1) := by decide +kernel
theorem dL_act_687 : decode cL_act 687 = .ok (.iload_n 3, 1) := by decide +kernel
theorem dL_act_688 : decode cL_act 688 = .ok (.ifCond .ne 5, 3) := by decide +kernel
theorem dL_act_691 : decode cL_act 691 = .ok (.iconst 1, 1) := by decide +kernel
theorem dL_act_692 : decode cL_act 692 = .ok (.ireturn, 1) := by decide +kernel
theorem dL_act_693 : decode cL_act 693 = .ok (.aload_n 1, 1) := by decide +kernel
theorem dL_act_694 : decode cL_act 694 = .ok (.getfield 9, 3) := by decide +kernel
theorem dL_act_697 : decode cL_act 697 = .ok (.iload_n 2, 1) := by decide +kernel
theorem dL_act_698 : decode cL_act 698 = .ok (.iconst 1, 1) := by decide +kernel
theorem dL_act_699 : decode cL_act 699 = .ok (.ishr, 1) := by decide +kernel
theorem dL_act_700 : decode cL_act 700 = .ok (.iload_n 3, 1) := by decide +kernel
theorem dL_act_701 : decode cL_act 701 = .ok (.invokestatic 18, 3) := by decide +kernel
theorem dL_act_704 : decode cL_act 704 = .ok (.aaload, 1) := by decide +kernel
theorem dL_act_705 : decode cL_act 705 = .ok (.astore 14, 2) := by decide +kernel
theorem dL_act_707 : decode cL_act 707 = .ok (.aload 14, 2) := by decide +kernel
theorem dL_act_709 : decode cL_act 709 = .ok (.iconst 2, 1) := by decide +kernel
theorem dL_act_710 : decode cL_act 710 = .ok (.iaload, 1) := by decide +kernel
theorem dL_act_711 : decode cL_act 711 = .ok (.ifCond .eq 11, 3) := by decide +kernel
theorem dL_act_714 : decode cL_act 714 = .ok (.aload_n 1, 1) := by decide +kernel
theorem dL_act_715 : decode cL_act 715 = .ok (.getfield 24, 3) := by decide +kernel
theorem dL_act_718 : decode cL_act 718 = .ok (.iconst 5, 1) := by decide +kernel
theorem dL_act_719 : decode cL_act 719 = .ok (.if_icmp .ge 5, 3) := by decide +kernel
theorem dL_act_722 : decode cL_act 722 = .ok (.iconst 1, 1) := by decide +kernel
theorem dL_act_723 : decode cL_act 723 = .ok (.ireturn, 1) := by decide +kernel
theorem dL_act_724 : decode cL_act 724 = .ok (.aload 14, 2) := by decide +kernel
theorem dL_act_726 : decode cL_act 726 = .ok (.iconst 2, 1) := by decide +kernel
theorem dL_act_727 : decode cL_act 727 = .ok (.iaload, 1) := by decide +kernel
theorem dL_act_728 : decode cL_act 728 = .ok (.istore 15, 2) := by decide +kernel
theorem dL_act_730 : decode cL_act 730 = .ok (.aload 14, 2) := by decide +kernel
theorem dL_act_732 : decode cL_act 732 = .ok (.iconst 2, 1) := by decide +kernel
theorem dL_act_733 : decode cL_act 733 = .ok (.iconst 0, 1) := by decide +kernel
theorem dL_act_734 : decode cL_act 734 = .ok (.iastore, 1) := by decide +kernel
theorem dL_act_735 : decode cL_act 735 = .ok (.aload_n 1, 1) := by decide +kernel
theorem dL_act_736 : decode cL_act 736 = .ok (.dup, 1) := by decide +kernel
theorem dL_act_737 : decode cL_act 737 = .ok (.getfield 24, 3) := by decide +kernel
theorem dL_act_740 : decode cL_act 740 = .ok (.iconst 5, 1) := by decide +kernel
theorem dL_act_741 : decode cL_act 741 = .ok (.isub, 1) := by decide +kernel
theorem dL_act_742 : decode cL_act 742 = .ok (.putfield 24, 3) := by decide +kernel
theorem dL_act_745 : decode cL_act 745 = .ok (.aload_n 0, 1) := by decide +kernel
theorem dL_act_746 : decode cL_act 746 = .ok (.iload_n 2, 1) := by decide +kernel
theorem dL_act_747 : decode cL_act 747 = .ok (.iconst 1, 1) := by decide +kernel
theorem dL_act_748 : decode cL_act 748 = .ok (.ishr, 1) := by decide +kernel
theorem dL_act_749 : decode cL_act 749 = .ok (.iload_n 3, 1) := by decide +kernel
theorem dL_act_750 : decode cL_act 750 = .ok (.invokestatic 18, 3) := by decide +kernel
theorem dL_act_753 : decode cL_act 753 = .ok (.invokevirtual 67, 3) := by decide +kernel
theorem dL_act_756 : decode cL_act 756 = .ok (.iload 15, 2) := by decide +kernel
theorem dL_act_758 : decode cL_act 758 = .ok (.if_icmp .ne 7, 3) := by decide +kernel
theorem dL_act_761 : decode cL_act 761 = .ok (.iconst 1, 1) := by decide +kernel
theorem dL_act_762 : decode cL_act 762 = .ok (.goto 4, 3) := by decide +kernel
theorem dL_act_765 : decode cL_act 765 = .ok (.iconst 0, 1) := by decide +kernel
theorem dL_act_766 : decode cL_act 766 = .ok (.ireturn, 1) := by decide +kernel
theorem dL_act_767 : decode cL_act 767 = .ok (.iload 4, 2) := by decide +kernel
theorem dL_act_769 : decode cL_act 769 = .ok (.iconst 3, 1) := by decide +kernel
theorem dL_act_770 : decode cL_act 770 = .ok (.if_icmp .ne 5, 3) := by decide +kernel
theorem dL_act_773 : decode cL_act 773 = .ok (.iconst 1, 1) := by decide +kernel
theorem dL_act_774 : decode cL_act 774 = .ok (.ireturn, 1) := by decide +kernel
theorem dL_act_775 : decode cL_act 775 = .ok (.aload_n 1, 1) := by decide +kernel
theorem dL_act_776 : decode cL_act 776 = .ok (.aload_n 1, 1) := by decide +kernel
theorem dL_act_777 : decode cL_act 777 = .ok (.getfield 15, 3) := by decide +kernel
theorem dL_act_780 : decode cL_act 780 = .ok (.iconst 3, 1) := by decide +kernel
theorem dL_act_781 : decode cL_act 781 = .ok (.newarray .int, 2) := by decide +kernel
theorem dL_act_783 : decode cL_act 783 = .ok (.dup, 1) := by decide +kernel
theorem dL_act_784 : decode cL_act 784 = .ok (.iconst 0, 1) := by decide +kernel
theorem dL_act_785 : decode cL_act 785 = .ok (.iconst 1, 1) := by decide +kernel
theorem dL_act_786 : decode cL_act 786 = .ok (.iload_n 2, 1) := by decide +kernel
theorem dL_act_787 : decode cL_act 787 = .ok (.iconst 1, 1) := by decide +kernel
theorem dL_act_788 : decode cL_act 788 = .ok (.ishr, 1) := by decide +kernel
theorem dL_act_789 : decode cL_act 789 = .ok (.bipush 12, 2) := by decide +kernel
theorem dL_act_791 : decode cL_act 791 = .ok (.invokestatic 18, 3) := by decide +kernel
theorem dL_act_794 : decode cL_act 794 = .ok (.iadd, 1) := by decide +kernel
theorem dL_act_795 : decode cL_act 795 = .ok (.iastore, 1) := by decide +kernel
theorem dL_act_796 : decode cL_act 796 = .ok (.dup, 1) := by decide +kernel
theorem dL_act_797 : decode cL_act 797 = .ok (.iconst 1, 1) := by decide +kernel
theorem dL_act_798 : decode cL_act 798 = .ok (.iconst (-1), 1) := by decide +kernel
theorem dL_act_799 : decode cL_act 799 = .ok (.iastore, 1) := by decide +kernel
theorem dL_act_800 : decode cL_act 800 = .ok (.dup, 1) := by decide +kernel
theorem dL_act_801 : decode cL_act 801 = .ok (.iconst 2, 1) := by decide +kernel
theorem dL_act_802 : decode cL_act 802 = .ok (.iconst (-1), 1) := by decide +kernel
theorem dL_act_803 : decode cL_act 803 = .ok (.iastore, 1) := by decide +kernel
theorem dL_act_804 : decode cL_act 804 = .ok (.invokestatic 60, 3) := by decide +kernel
theorem dL_act_807 : decode cL_act 807 = .ok (.putfield 15, 3) := by decide +kernel
theorem dL_act_810 : decode cL_act 810 = .ok (.aload_n 0, 1) := by decide +kernel
theorem dL_act_811 : decode cL_act 811 = .ok (.aload_n 1, 1) := by decide +kernel
theorem dL_act_812 : decode cL_act 812 = .ok (.getfield 15, 3) := by decide +kernel
theorem dL_act_815 : decode cL_act 815 = .ok (.iload 4, 2) := by decide +kernel
theorem dL_act_817 : decode cL_act 817 = .ok (.aaload, 1) := by decide +kernel
theorem dL_act_818 : decode cL_act 818 = .ok (.iconst 0, 1) := by decide +kernel
theorem dL_act_819 : decode cL_act 819 = .ok (.iaload, 1) := by decide +kernel
theorem dL_act_820 : decode cL_act 820 = .ok (.invokevirtual 70, 3) := by decide +kernel
theorem dL_act_823 : decode cL_act 823 = .ok (.iload 4, 2) := by decide +kernel
theorem dL_act_825 : decode cL_act 825 = .ok (.if_icmp .ne 7, 3) := by decide +kernel
theorem dL_act_828 : decode cL_act 828 = .ok (.iconst 1, 1) := by decide +kernel
theorem dL_act_829 : decode cL_act 829 = .ok (.goto 4, 3) := by decide +kernel
theorem dL_act_832 : decode cL_act 832 = .ok (.iconst 0, 1) := by decide +kernel
theorem dL_act_833 : decode cL_act 833 = .ok (.ireturn, 1) := by decide +kernel
theorem dL_act_834 : decode cL_act 834 = .ok (.iload_n 2, 1) := by decide +kernel
theorem dL_act_835 : decode cL_act 835 = .ok (.iconst 1, 1) := by decide +kernel
theorem dL_act_836 : decode cL_act 836 = .ok (.ishr, 1) := by decide +kernel
theorem dL_act_837 : decode cL_act 837 = .ok (.bipush 7, 2) := by decide +kernel
theorem dL_act_839 : decode cL_act 839 = .ok (.invokestatic 18, 3) := by decide +kernel
theorem dL_act_842 : decode cL_act 842 = .ok (.istore 16, 2) := by decide +kernel
theorem dL_act_844 : decode cL_act 844 = .ok (.aload_n 1, 1) := by decide +kernel
theorem dL_act_845 : decode cL_act 845 = .ok (.getfield 73, 3) := by decide +kernel
theorem dL_act_848 : decode cL_act 848 = .ok (.iload 16, 2) := by decide +kernel
theorem dL_act_850 : decode cL_act 850 = .ok (.iaload, 1) := by decide +kernel
theorem dL_act_851 : decode cL_act 851 = .ok (.istore 17, 2) := by decide +kernel
theorem dL_act_853 : decode cL_act 853 = .ok (.aload_n 1, 1) := by decide +kernel
theorem dL_act_854 : decode cL_act 854 = .ok (.aload_n 1, 1) := by decide +kernel
theorem dL_act_855 : decode cL_act 855 = .ok (.getfield 73, 3) := by decide +kernel
theorem dL_act_858 : decode cL_act 858 = .ok (.invokevirtual 76, 3) := by decide +kernel
theorem dL_act_861 : decode cL_act 861 = .ok (.checkcast 77, 3) := by decide +kernel
theorem dL_act_864 : decode cL_act 864 = .ok (.putfield 73, 3) := by decide +kernel
theorem dL_act_867 : decode cL_act 867 = .ok (.aload_n 1, 1) := by decide +kernel
theorem dL_act_868 : decode cL_act 868 = .ok (.getfield 73, 3) := by decide +kernel
theorem dL_act_871 : decode cL_act 871 = .ok (.iload 16, 2) := by decide +kernel
theorem dL_act_873 : decode cL_act 873 = .ok (.iload_n 2, 1) := by decide +kernel
theorem dL_act_874 : decode cL_act 874 = .ok (.iconst 4, 1) := by decide +kernel
theorem dL_act_875 : decode cL_act 875 = .ok (.ishr, 1) := by decide +kernel
theorem dL_act_876 : decode cL_act 876 = .ok (.bipush 10, 2) := by decide +kernel
theorem dL_act_878 : decode cL_act 878 = .ok (.invokestatic 18, 3) := by decide +kernel
theorem dL_act_881 : decode cL_act 881 = .ok (.iastore, 1) := by decide +kernel
theorem dL_act_882 : decode cL_act 882 = .ok (.aload_n 0, 1) := by decide +kernel
theorem dL_act_883 : decode cL_act 883 = .ok (.iload 16, 2) := by decide +kernel
theorem dL_act_885 : decode cL_act 885 = .ok (.aload_n 1, 1) := by decide +kernel
theorem dL_act_886 : decode cL_act 886 = .ok (.getfield 73, 3) := by decide +kernel
theorem dL_act_889 : decode cL_act 889 = .ok (.iload 16, 2) := by decide +kernel
theorem dL_act_891 : decode cL_act 891 = .ok (.iaload, 1) := by decide +kernel
theorem dL_act_892 : decode cL_act 892 = .ok (.invokevirtual 81, 3) := by decide +kernel
theorem dL_act_895 : decode cL_act 895 = .ok (.iload 17, 2) := by decide +kernel
theorem dL_act_897 : decode cL_act 897 = .ok (.if_icmp .ne 7, 3) := by decide +kernel
theorem dL_act_900 : decode cL_act 900 = .ok (.iconst 1, 1) := by decide +kernel
theorem dL_act_901 : decode cL_act 901 = .ok (.goto 4, 3) := by decide +kernel
theorem dL_act_904 : decode cL_act 904 = .ok (.iconst 0, 1) := by decide +kernel
theorem dL_act_905 : decode cL_act 905 = .ok (.ireturn, 1) := by decide +kernel
theorem dL_act_906 : decode cL_act 906 = .ok (.iload 4, 2) := by decide +kernel
theorem dL_act_908 : decode cL_act 908 = .ok (.ifCond .ne 5, 3) := by decide +kernel
theorem dL_act_911 : decode cL_act 911 = .ok (.iconst 1, 1) := by decide +kernel
theorem dL_act_912 : decode cL_act 912 = .ok (.ireturn, 1) := by decide +kernel
theorem dL_act_913 : decode cL_act 913 = .ok (.iload_n 2, 1) := by decide +kernel
theorem dL_act_914 : decode cL_act 914 = .ok (.iconst 1, 1) := by decide +kernel
theorem dL_act_915 : decode cL_act 915 = .ok (.ishr, 1) := by decide +kernel
theorem dL_act_916 : decode cL_act 916 = .ok (.iload 4, 2) := by decide +kernel
theorem dL_act_918 : decode cL_act 918 = .ok (.invokestatic 18, 3) := by decide +kernel
theorem dL_act_921 : decode cL_act 921 = .ok (.istore 18, 2) := by decide +kernel
theorem dL_act_923 : decode cL_act 923 = .ok (.iload_n 2, 1) := by decide +kernel
theorem dL_act_924 : decode cL_act 924 = .ok (.iconst 3, 1) := by decide +kernel
theorem dL_act_925 : decode cL_act 925 = .ok (.ishr, 1) := by decide +kernel
theorem dL_act_926 : decode cL_act 926 = .ok (.bipush 9, 2) := by decide +kernel
theorem dL_act_928 : decode cL_act 928 = .ok (.invokestatic 18, 3) := by decide +kernel
theorem dL_act_931 : decode cL_act 931 = .ok (.ifCond .ne 7, 3) := by decide +kernel
theorem dL_act_934 : decode cL_act 934 = .ok (.iconst (-1), 1) := by decide +kernel
theorem dL_act_935 : decode cL_act 935 = .ok (.goto 5, 3) := by decide +kernel
theorem dL_act_938 : decode cL_act 938 = .ok (.iload 5, 2) := by decide +kernel
theorem dL_act_940 : decode cL_act 940 = .ok (.istore 19, 2) := by decide +kernel
theorem dL_act_942 : decode cL_act 942 = .ok (.iload_n 3, 1) := by decide +kernel
theorem dL_act_943 : decode cL_act 943 = .ok (.ifCond .eq 14, 3) := by decide +kernel
theorem dL_act_946 : decode cL_act 946 = .ok (.iload_n 2, 1) := by decide +kernel
theorem dL_act_947 : decode cL_act 947 = .ok (.iconst 4, 1) := by decide +kernel
theorem dL_act_948 : decode cL_act 948 = .ok (.ishr, 1) := by decide +kernel
theorem dL_act_949 : decode cL_act 949 = .ok (.bipush 9, 2) := by decide +kernel
theorem dL_act_951 : decode cL_act 951 = .ok (.invokestatic 18, 3) := by decide +kernel
theorem dL_act_954 : decode cL_act 954 = .ok (.ifCond .ne 7, 3) := by decide +kernel
theorem dL_act_957 : decode cL_act 957 = .ok (.iconst (-1), 1) := by decide +kernel
theorem dL_act_958 : decode cL_act 958 = .ok (.goto 10, 3) := by decide +kernel
theorem dL_act_961 : decode cL_act 961 = .ok (.iload_n 2, 1) := by decide +kernel
theorem dL_act_962 : decode cL_act 962 = .ok (.iconst 5, 1) := by decide +kernel
theorem dL_act_963 : decode cL_act 963 = .ok (.ishr, 1) := by decide +kernel
theorem dL_act_964 : decode cL_act 964 = .ok (.iload_n 3, 1) := by decide +kernel
theorem dL_act_965 : decode cL_act 965 = .ok (.invokestatic 18, 3) := by decide +kernel
theorem dL_act_968 : decode cL_act 968 = .ok (.istore 20, 2) := by decide +kernel
end
section
theorem dL_act_970 : decode cL_act 970 = .ok (.iconst 0, 1) := by decide +kernel
theorem dL_act_971 : decode cL_act 971 = .ok (.istore 21, 2) := by decide +kernel
theorem dL_act_973 : decode cL_act 973 = .ok (.iload 21, 2) := by decide +kernel
theorem dL_act_975 : decode cL_act 975 = .ok (.iload 4, 2) := by decide +kernel
theorem dL_act_977 : decode cL_act 977 = .ok (.if_icmp .ge 37, 3) := by decide +kernel
theorem dL_act_980 : decode cL_act 980 = .ok (.iload 21, 2) := by decide +kernel
theorem dL_act_982 : decode cL_act 982 = .ok (.iload 18, 2) := by decide +kernel
theorem dL_act_984 : decode cL_act 984 = .ok (.if_icmp .eq 24, 3) := by decide +kernel
theorem dL_act_987 : decode cL_act 987 = .ok (.iload 20, 2) := by decide +kernel
theorem dL_act_989 : decode cL_act 989 = .ok (.ifCond .lt 19, 3) := by decide +kernel
theorem dL_act_992 : decode cL_act 992 = .ok (.aload_n 1, 1) := by decide +kernel
theorem dL_act_993 : decode cL_act 993 = .ok (.getfield 15, 3) := by decide +kernel
theorem dL_act_996 : decode cL_act 996 = .ok (.iload 21, 2) := by decide +kernel
theorem dL_act_998 : decode cL_act 998 = .ok (.aaload, 1) := by decide +kernel
theorem dL_act_999 : decode cL_act 999 = .ok (.iconst 2, 1) := by decide +kernel
theorem dL_act_1000 : decode cL_act 1000 = .ok (.iaload, 1) := by decide +kernel
theorem dL_act_1001 : decode cL_act 1001 = .ok (.iload 20, 2) := by decide +kernel
theorem dL_act_1003 : decode cL_act 1003 = .ok (.if_icmp .ne 5, 3) := by decide +kernel
theorem dL_act_1006 : decode cL_act 1006 = .ok (.iconst 1, 1) := by decide +kernel
theorem dL_act_1007 : decode cL_act 1007 = .ok (.ireturn, 1) := by decide +kernel
theorem dL_act_1008 : decode cL_act 1008 = .ok (.iinc 21 1, 3) := by decide +kernel
theorem dL_act_1011 : decode cL_act 1011 = .ok (.goto (-38), 3) := by decide +kernel
theorem dL_act_1014 : decode cL_act 1014 = .ok (.aload_n 1, 1) := by decide +kernel
theorem dL_act_1015 : decode cL_act 1015 = .ok (.getfield 15, 3) := by decide +kernel
theorem dL_act_1018 : decode cL_act 1018 = .ok (.iload 18, 2) := by decide +kernel
theorem dL_act_1020 : decode cL_act 1020 = .ok (.aaload, 1) := by decide +kernel
theorem dL_act_1021 : decode cL_act 1021 = .ok (.iconst 1, 1) := by decide +kernel
theorem dL_act_1022 : decode cL_act 1022 = .ok (.iload 19, 2) := by decide +kernel
theorem dL_act_1024 : decode cL_act 1024 = .ok (.iastore, 1) := by decide +kernel
theorem dL_act_1025 : decode cL_act 1025 = .ok (.aload_n 1, 1) := by decide +kernel
theorem dL_act_1026 : decode cL_act 1026 = .ok (.getfield 15, 3) := by decide +kernel
theorem dL_act_1029 : decode cL_act 1029 = .ok (.iload 18, 2) := by decide +kernel
theorem dL_act_1031 : decode cL_act 1031 = .ok (.aaload, 1) := by decide +kernel
theorem dL_act_1032 : decode cL_act 1032 = .ok (.iconst 2, 1) := by decide +kernel
theorem dL_act_1033 : decode cL_act 1033 = .ok (.iload 20, 2) := by decide +kernel
theorem dL_act_1035 : decode cL_act 1035 = .ok (.iastore, 1) := by decide +kernel
theorem dL_act_1036 : decode cL_act 1036 = .ok (.aload_n 0, 1) := by decide +kernel
theorem dL_act_1037 : decode cL_act 1037 = .ok (.iload 18, 2) := by decide +kernel
theorem dL_act_1039 : decode cL_act 1039 = .ok (.iload 19, 2) := by decide +kernel
theorem dL_act_1041 : decode cL_act 1041 = .ok (.iload 20, 2) := by decide +kernel
theorem dL_act_1043 : decode cL_act 1043 = .ok (.invokevirtual 84, 3) := by decide +kernel
theorem dL_act_1046 : decode cL_act 1046 = .ok (.aload_n 1, 1) := by decide +kernel
theorem dL_act_1047 : decode cL_act 1047 = .ok (.aload_n 1, 1) := by decide +kernel
theorem dL_act_1048 : decode cL_act 1048 = .ok (.getfield 15, 3) := by decide +kernel
theorem dL_act_1051 : decode cL_act 1051 = .ok (.iload 18, 2) := by decide +kernel
theorem dL_act_1053 : decode cL_act 1053 = .ok (.aaload, 1) := by decide +kernel
theorem dL_act_1054 : decode cL_act 1054 = .ok (.invokevirtual 87, 3) := by decide +kernel
theorem dL_act_1057 : decode cL_act 1057 = .ok (.if_icmp .ne 7, 3) := by decide +kernel
theorem dL_act_1060 : decode cL_act 1060 = .ok (.iconst 1, 1) := by decide +kernel
theorem dL_act_1061 : decode cL_act 1061 = .ok (.goto 4, 3) := by decide +kernel
theorem dL_act_1064 : decode cL_act 1064 = .ok (.iconst 0, 1) := by decide +kernel
theorem dL_act_1065 : decode cL_act 1065 = .ok (.ireturn, 1) := by decide +kernel
theorem dL_build_0 : decode cL_build 0 = .ok (.new 10, 3) := by decide +kernel
theorem dL_build_3 : decode cL_build 3 = .ok (.dup, 1) := by decide +kernel
theorem dL_build_4 : decode cL_build 4 = .ok (.invokespecial 91, 3) := by decide +kernel
theorem dL_build_7 : decode cL_build 7 = .ok (.astore_n 2, 1) := by decide +kernel
theorem dL_build_8 : decode cL_build 8 = .ok (.iconst 0, 1) := by decide +kernel
theorem dL_build_9 : decode cL_build 9 = .ok (.istore_n 3, 1) := by decide +kernel
theorem dL_build_10 : decode cL_build 10 = .ok (.iload_n 3, 1) := by decide +kernel
theorem dL_build_11 : decode cL_build 11 = .ok (.bipush 36, 2) := by decide +kernel
theorem dL_build_13 : decode cL_build 13 = .ok (.if_icmp .ge 105, 3) := by decide +kernel
theorem dL_build_16 : decode cL_build 16 = .ok (.aload_n 0, 1) := by decide +kernel
theorem dL_build_17 : decode cL_build 17 = .ok (.aload_n 2, 1) := by decide +kernel
theorem dL_build_18 : decode cL_build 18 = .ok (.aload_n 1, 1) := by decide +kernel
theorem dL_build_19 : decode cL_build 19 = .ok (.iload_n 3, 1) := by decide +kernel
theorem dL_build_20 : decode cL_build 20 = .ok (.bipush 16, 2) := by decide +kernel
theorem dL_build_22 : decode cL_build 22 = .ok (.irem, 1) := by decide +kernel
theorem dL_build_23 : decode cL_build 23 = .ok (.invokestatic 92, 3) := by decide +kernel
theorem dL_build_26 : decode cL_build 26 = .ok (.iload_n 3, 1) := by decide +kernel
theorem dL_build_27 : decode cL_build 27 = .ok (.bipush 16, 2) := by decide +kernel
theorem dL_build_29 : decode cL_build 29 = .ok (.idiv, 1) := by decide +kernel
theorem dL_build_30 : decode cL_build 30 = .ok (.iconst 4, 1) := by decide +kernel
theorem dL_build_31 : decode cL_build 31 = .ok (.imul, 1) := by decide +kernel
theorem dL_build_32 : decode cL_build 32 = .ok (.ishr, 1) := by decide +kernel
theorem dL_build_33 : decode cL_build 33 = .ok (.sipush 311, 3) := by decide +kernel
theorem dL_build_36 : decode cL_build 36 = .ok (.iload_n 3, 1) := by decide +kernel
theorem dL_build_37 : decode cL_build 37 = .ok (.imul, 1) := by decide +kernel
theorem dL_build_38 : decode cL_build 38 = .ok (.iadd, 1) := by decide +kernel
theorem dL_build_39 : decode cL_build 39 = .ok (.iload_n 3, 1) := by decide +kernel
theorem dL_build_40 : decode cL_build 40 = .ok (.bipush 9, 2) := by decide +kernel
theorem dL_build_42 : decode cL_build 42 = .ok (.if_icmp .ge 34, 3) := by decide +kernel
theorem dL_build_45 : decode cL_build 45 = .ok (.sipush 512, 3) := by decide +kernel
theorem dL_build_48 : decode cL_build 48 = .ok (.iload_n 3, 1) := by decide +kernel
theorem dL_build_49 : decode cL_build 49 = .ok (.iconst 3, 1) := by decide +kernel
theorem dL_build_50 : decode cL_build 50 = .ok (.irem, 1) := by decide +kernel
theorem dL_build_51 : decode cL_build 51 = .ok (.ifCond .ne 8, 3) := by decide +kernel
theorem dL_build_54 : decode cL_build 54 = .ok (.bipush 9, 2) := by decide +kernel
theorem dL_build_56 : decode cL_build 56 = .ok (.goto 16, 3) := by decide +kernel
theorem dL_build_59 : decode cL_build 59 = .ok (.iload_n 3, 1) := by decide +kernel
theorem dL_build_60 : decode cL_build 60 = .ok (.iconst 3, 1) := by decide +kernel
theorem dL_build_61 : decode cL_build 61 = .ok (.irem, 1) := by decide +kernel
theorem dL_build_62 : decode cL_build 62 = .ok (.iconst 1, 1) := by decide +kernel
theorem dL_build_63 : decode cL_build 63 = .ok (.if_icmp .ne 8, 3) := by decide +kernel
theorem dL_build_66 : decode cL_build 66 = .ok (.bipush 12, 2) := by decide +kernel
theorem dL_build_68 : decode cL_build 68 = .ok (.goto 4, 3) := by decide +kernel
theorem dL_build_71 : decode cL_build 71 = .ok (.iconst 4, 1) := by decide +kernel
theorem dL_build_72 : decode cL_build 72 = .ok (.imul, 1) := by decide +kernel
theorem dL_build_73 : decode cL_build 73 = .ok (.goto 4, 3) := by decide +kernel
theorem dL_build_76 : decode cL_build 76 = .ok (.iconst 0, 1) := by decide +kernel
theorem dL_build_77 : decode cL_build 77 = .ok (.iadd, 1) := by decide +kernel
theorem dL_build_78 : decode cL_build 78 = .ok (.invokestatic 96, 3) := by decide +kernel
theorem dL_build_81 : decode cL_build 81 = .ok (.ifCond .ne 5, 3) := by decide +kernel
theorem dL_build_84 : decode cL_build 84 = .ok (.aconst_null, 1) := by decide +kernel
theorem dL_build_85 : decode cL_build 85 = .ok (.areturn, 1) := by decide +kernel
theorem dL_build_86 : decode cL_build 86 = .ok (.iload_n 3, 1) := by decide +kernel
theorem dL_build_87 : decode cL_build 87 = .ok (.bipush 12, 2) := by decide +kernel
theorem dL_build_89 : decode cL_build 89 = .ok (.if_icmp .le 23, 3) := by decide +kernel
theorem dL_build_92 : decode cL_build 92 = .ok (.iload_n 3, 1) := by decide +kernel
theorem dL_build_93 : decode cL_build 93 = .ok (.iconst 3, 1) := by decide +kernel
theorem dL_build_94 : decode cL_build 94 = .ok (.irem, 1) := by decide +kernel
theorem dL_build_95 : decode cL_build 95 = .ok (.ifCond .ne 17, 3) := by decide +kernel
theorem dL_build_98 : decode cL_build 98 = .ok (.aload_n 0, 1) := by decide +kernel
theorem dL_build_99 : decode cL_build 99 = .ok (.iconst 1, 1) := by decide +kernel
theorem dL_build_100 : decode cL_build 100 = .ok (.invokevirtual 100, 3) := by decide +kernel
theorem dL_build_103 : decode cL_build 103 = .ok (.aload_n 2, 1) := by decide +kernel
theorem dL_build_104 : decode cL_build 104 = .ok (.invokevirtual 103, 3) := by decide +kernel
theorem dL_build_107 : decode cL_build 107 = .ok (.if_icmp .eq 5, 3) := by decide +kernel
theorem dL_build_110 : decode cL_build 110 = .ok (.aconst_null, 1) := by decide +kernel
theorem dL_build_111 : decode cL_build 111 = .ok (.areturn, 1) := by decide +kernel
theorem dL_build_112 : decode cL_build 112 = .ok (.iinc 3 1, 3) := by decide +kernel
theorem dL_build_115 : decode cL_build 115 = .ok (.goto (-105), 3) := by decide +kernel
theorem dL_build_118 : decode cL_build 118 = .ok (.aload_n 2, 1) := by decide +kernel
theorem dL_build_119 : decode cL_build 119 = .ok (.areturn, 1) := by decide +kernel
theorem dL_law_0 : decode cL_law 0 = .ok (.new 36, 3) := by decide +kernel
theorem dL_law_3 : decode cL_law 3 = .ok (.dup, 1) := by decide +kernel
theorem dL_law_4 : decode cL_law 4 = .ok (.invokespecial 106, 3) := by decide +kernel
theorem dL_law_7 : decode cL_law 7 = .ok (.astore_n 1, 1) := by decide +kernel
theorem dL_law_8 : decode cL_law 8 = .ok (.aload_n 1, 1) := by decide +kernel
theorem dL_law_9 : decode cL_law 9 = .ok (.aload_n 0, 1) := by decide +kernel
theorem dL_law_10 : decode cL_law 10 = .ok (.invokestatic 107, 3) := by decide +kernel
theorem dL_law_13 : decode cL_law 13 = .ok (.astore_n 2, 1) := by decide +kernel
theorem dL_law_14 : decode cL_law 14 = .ok (.aload_n 2, 1) := by decide +kernel
theorem dL_law_15 : decode cL_law 15 = .ok (.ifnonnull 5, 3) := by decide +kernel
theorem dL_law_18 : decode cL_law 18 = .ok (.iconst 0, 1) := by decide +kernel
theorem dL_law_19 : decode cL_law 19 = .ok (.ireturn, 1) := by decide +kernel
theorem dL_law_20 : decode cL_law 20 = .ok (.iconst 0, 1) := by decide +kernel
theorem dL_law_21 : decode cL_law 21 = .ok (.istore_n 3, 1) := by decide +kernel
theorem dL_law_22 : decode cL_law 22 = .ok (.iload_n 3, 1) := by decide +kernel
theorem dL_law_23 : decode cL_law 23 = .ok (.bipush 34, 2) := by decide +kernel
theorem dL_law_25 : decode cL_law 25 = .ok (.if_icmp .ge 771, 3) := by decide +kernel
theorem dL_law_28 : decode cL_law 28 = .ok (.aload_n 0, 1) := by decide +kernel
theorem dL_law_29 : decode cL_law 29 = .ok (.iload_n 3, 1) := by decide +kernel
theorem dL_law_30 : decode cL_law 30 = .ok (.bipush 16, 2) := by decide +kernel
theorem dL_law_32 : decode cL_law 32 = .ok (.irem, 1) := by decide +kernel
theorem dL_law_33 : decode cL_law 33 = .ok (.invokestatic 92, 3) := by decide +kernel
theorem dL_law_36 : decode cL_law 36 = .ok (.iload_n 3, 1) := by decide +kernel
theorem dL_law_37 : decode cL_law 37 = .ok (.bipush 16, 2) := by decide +kernel
theorem dL_law_39 : decode cL_law 39 = .ok (.idiv, 1) := by decide +kernel
theorem dL_law_40 : decode cL_law 40 = .ok (.iconst 3, 1) := by decide +kernel
theorem dL_law_41 : decode cL_law 41 = .ok (.imul, 1) := by decide +kernel
theorem dL_law_42 : decode cL_law 42 = .ok (.ishr, 1) := by decide +kernel
theorem dL_law_43 : decode cL_law 43 = .ok (.sipush 311, 3) := by decide +kernel
theorem dL_law_46 : decode cL_law 46 = .ok (.iload_n 3, 1) := by decide +kernel
theorem dL_law_47 : decode cL_law 47 = .ok (.imul, 1) := by decide +kernel
theorem dL_law_48 : decode cL_law 48 = .ok (.iadd, 1) := by decide +kernel
theorem dL_law_49 : decode cL_law 49 = .ok (.istore 4, 2) := by decide +kernel
theorem dL_law_51 : decode cL_law 51 = .ok (.iconst 0, 1) := by decide +kernel
theorem dL_law_52 : decode cL_law 52 = .ok (.istore 5, 2) := by decide +kernel
theorem dL_law_54 : decode cL_law 54 = .ok (.iload 5, 2) := by decide +kernel
theorem dL_law_56 : decode cL_law 56 = .ok (.iconst 2, 1) := by decide +kernel
theorem dL_law_57 : decode cL_law 57 = .ok (.if_icmp .ge 33, 3) := by decide +kernel
theorem dL_law_60 : decode cL_law 60 = .ok (.aload_n 1, 1) := by decide +kernel
theorem dL_law_61 : decode cL_law 61 = .ok (.aload_n 2, 1) := by decide +kernel
theorem dL_law_62 : decode cL_law 62 = .ok (.iload 4, 2) := by decide +kernel
theorem dL_law_64 : decode cL_law 64 = .ok (.iconst 2, 1) := by decide +kernel
theorem dL_law_65 : decode cL_law 65 = .ok (.iload 5, 2) := by decide +kernel
theorem dL_law_67 : decode cL_law 67 = .ok (.imul, 1) := by decide +kernel
theorem dL_law_68 : decode cL_law 68 = .ok (.ishr, 1) := by decide +kernel
theorem dL_law_69 : decode cL_law 69 = .ok (.sipush 227, 3) := by decide +kernel
theorem dL_law_72 : decode cL_law 72 = .ok (.iload 5, 2) := by decide +kernel
theorem dL_law_74 : decode cL_law 74 = .ok (.imul, 1) := by decide +kernel
theorem dL_law_75 : decode cL_law 75 = .ok (.iadd, 1) := by decide +kernel
theorem dL_law_76 : decode cL_law 76 = .ok (.invokestatic 96, 3) := by decide +kernel
theorem dL_law_79 : decode cL_law 79 = .ok (.ifCond .ne 5, 3) := by decide +kernel
theorem dL_law_82 : decode cL_law 82 = .ok (.iconst 0, 1) := by decide +kernel
theorem dL_law_83 : decode cL_law 83 = .ok (.ireturn, 1) := by decide +kernel
theorem dL_law_84 : decode cL_law 84 = .ok (.iinc 5 1, 3) := by decide +kernel
theorem dL_law_87 : decode cL_law 87 = .ok (.goto (-33), 3) := by decide +kernel
theorem dL_law_90 : decode cL_law 90 = .ok (.iload 4, 2) := by decide +kernel
theorem dL_law_92 : decode cL_law 92 = .ok (.iconst 4, 1) := by decide +kernel
theorem dL_law_93 : decode cL_law 93 = .ok (.invokestatic 18, 3) := by decide +kernel
theorem dL_law_96 : decode cL_law 96 = .ok (.istore 5, 2) := by decide +kernel
theorem dL_law_98 : decode cL_law 98 = .ok (.iconst 1, 1) := by decide +kernel
theorem dL_law_99 : decode cL_law 99 = .ok (.iload 4, 2) := by decide +kernel
theorem dL_law_101 : decode cL_law 101 = .ok (.iconst 2, 1) := by decide +kernel
theorem dL_law_102 : decode cL_law 102 = .ok (.ishr, 1) := by decide +kernel
theorem dL_law_103 : decode cL_law 103 = .ok (.bipush 99, 2) := by decide +kernel
theorem dL_law_105 : decode cL_law 105 = .ok (.invokestatic 18, 3) := by decide +kernel
theorem dL_law_108 : decode cL_law 108 = .ok (.iadd, 1) := by decide +kernel
theorem dL_law_109 : decode cL_law 109 = .ok (.istore 6, 2) := by decide +kernel
theorem dL_law_111 : decode cL_law 111 = .ok (.aload_n 1, 1) := by decide +kernel
theorem dL_law_112 : decode cL_law 112 = .ok (.iload 5, 2) := by decide +kernel
theorem dL_law_114 : decode cL_law 114 = .ok (.iload 6, 2) := by decide +kernel
theorem dL_law_116 : decode cL_law 116 = .ok (.invokevirtual 111, 3) := by decide +kernel
theorem dL_law_119 : decode cL_law 119 = .ok (.istore 7, 2) := by decide +kernel
theorem dL_law_121 : decode cL_law 121 = .ok (.iconst 4, 1) := by decide +kernel
theorem dL_law_122 : decode cL_law 122 = .ok (.iconst 3, 1) := by decide +kernel
theorem dL_law_123 : decode cL_law 123 = .ok (.multianewarray 114 2, 4) := by decide +kernel
theorem dL_law_127 : decode cL_law 127 = .ok (.astore 8, 2) := by decide +kernel
theorem dL_law_129 : decode cL_law 129 = .ok (.iconst 0, 1) := by decide +kernel
theorem dL_law_130 : decode cL_law 130 = .ok (.istore 9, 2) := by decide +kernel
theorem dL_law_132 : decode cL_law 132 = .ok (.iconst 0, 1) := by decide +kernel
theorem dL_law_133 : decode cL_law 133 = .ok (.istore 10, 2) := by decide +kernel
theorem dL_law_135 : decode cL_law 135 = .ok (.iload 10, 2) := by decide +kernel
theorem dL_law_137 : decode cL_law 137 = .ok (.iconst 4, 1) := by decide +kernel
theorem dL_law_138 : decode cL_law 138 = .ok (.if_icmp .ge 60, 3) := by decide +kernel
theorem dL_law_141 : decode cL_law 141 = .ok (.iconst 0, 1) := by decide +kernel
theorem dL_law_142 : decode cL_law 142 = .ok (.istore 11, 2) := by decide +kernel
theorem dL_law_144 : decode cL_law 144 = .ok (.iload 11, 2) := by decide +kernel
theorem dL_law_146 : decode cL_law 146 = .ok (.iconst 3, 1) := by decide +kernel
theorem dL_law_147 : decode cL_law 147 = .ok (.if_icmp .ge 25, 3) := by decide +kernel
theorem dL_law_150 : decode cL_law 150 = .ok (.aload 8, 2) := by decide +kernel
theorem dL_law_152 : decode cL_law 152 = .ok (.iload 10, 2) := by decide +kernel
theorem dL_law_154 : decode cL_law 154 = .ok (.aaload, 1) := by decide +kernel
theorem dL_law_155 : decode cL_law 155 = .ok (.iload 11, 2) := by decide +kernel
theorem dL_law_157 : decode cL_law 157 = .ok (.aload_n 1, 1) := by decide +kernel
theorem dL_law_158 : decode cL_law 158 = .ok (.iload 10, 2) := by decide +kernel
theorem dL_law_160 : decode cL_law 160 = .ok (.iload 11, 2) := by decide +kernel
theorem dL_law_162 : decode cL_law 162 = .ok (.invokevirtual 115, 3) := by decide +kernel
theorem dL_law_165 : decode cL_law 165 = .ok (.iastore, 1) := by decide +kernel
theorem dL_law_166 : decode cL_law 166 = .ok (.iinc 11 1, 3) := by decide +kernel
theorem dL_law_169 : decode cL_law 169 = .ok (.goto (-25), 3) := by decide +kernel
theorem dL_law_172 : decode cL_law 172 = .ok (.iload 9, 2) := by decide +kernel
theorem dL_law_174 : decode cL_law 174 = .ok (.aload 8, 2) := by decide +kernel
theorem dL_law_176 : decode cL_law 176 = .ok (.iload 10, 2) := by decide +kernel
theorem dL_law_178 : decode cL_law 178 = .ok (.aaload, 1) := by decide +kernel
theorem dL_law_179 : decode cL_law 179 = .ok (.iconst 0, 1) := by decide +kernel
theorem dL_law_180 : decode cL_law 180 = .ok (.iaload, 1) := by decide +kernel
theorem dL_law_181 : decode cL_law 181 = .ok (.ifCond .le 7, 3) := by decide +kernel
theorem dL_law_184 : decode cL_law 184 = .ok (.iconst 1, 1) := by decide +kernel
theorem dL_law_185 : decode cL_law 185 = .ok (.goto 4, 3) := by decide +kernel
theorem dL_law_188 : decode cL_law 188 = .ok (.iconst 0, 1) := by decide +kernel
theorem dL_law_189 : decode cL_law 189 = .ok (.iadd, 1) := by decide +kernel
theorem dL_law_190 : decode cL_law 190 = .ok (.istore 9, 2) := by decide +kernel
theorem dL_law_192 : decode cL_law 192 = .ok (.iinc 10 1, 3) := by decide +kernel
theorem dL_law_195 : decode cL_law 195 = .ok (.goto (-60), 3) := by decide +kernel
theorem dL_law_198 : decode cL_law 198 = .ok (.iload 9, 2) := by decide +kernel
theorem dL_law_200 : decode cL_law 200 = .ok (.ifCond .ne 7, 3) := by decide +kernel
theorem dL_law_203 : decode cL_law 203 = .ok (.iconst 0, 1) := by decide +kernel
theorem dL_law_204 : decode cL_law 204 = .ok (.goto 21, 3) := by decide +kernel
theorem dL_law_207 : decode cL_law 207 = .ok (.iconst 3, 1) := by decide +kernel
theorem dL_law_208 : decode cL_law 208 = .ok (.aload_n 2, 1) := by decide +kernel
theorem dL_law_209 : decode cL_law 209 = .ok (.getfield 73, 3) := by decide +kernel
theorem dL_law_212 : decode cL_law 212 = .ok (.aload_n 1, 1) := by decide +kernel
theorem dL_law_213 : decode cL_law 213 = .ok (.iconst 0, 1) := by decide +kernel
theorem dL_law_214 : decode cL_law 214 = .ok (.invokevirtual 118, 3) := by decide +kernel
theorem dL_law_217 : decode cL_law 217 = .ok (.bipush 7, 2) := by decide +kernel
theorem dL_law_219 : decode cL_law 219 = .ok (.irem, 1) := by decide +kernel
theorem dL_law_220 : decode cL_law 220 = .ok (.iaload, 1) := by decide +kernel
theorem dL_law_221 : decode cL_law 221 = .ok (.imul, 1) := by decide +kernel
theorem dL_law_222 : decode cL_law 222 = .ok (.iload 9, 2) := by decide +kernel
theorem dL_law_224 : decode cL_law 224 = .ok (.idiv, 1) := by decide +kernel
theorem dL_law_225 : decode cL_law 225 = .ok (.istore 10, 2) := by decide +kernel
theorem dL_law_227 : decode cL_law 227 = .ok (.bipush 12, 2) := by decide +kernel
theorem dL_law_229 : decode cL_law 229 = .ok (.newarray .int, 2) := by decide +kernel
theorem dL_law_231 : decode cL_law 231 = .ok (.astore 11, 2) := by decide +kernel
theorem dL_law_233 : decode cL_law 233 = .ok (.iconst 0, 1) := by decide +kernel
theorem dL_law_234 : decode cL_law 234 = .ok (.istore 12, 2) := by decide +kernel
theorem dL_law_236 : decode cL_law 236 = .ok (.iload 12, 2) := by decide +kernel
theorem dL_law_238 : decode cL_law 238 = .ok (.bipush 12, 2) := by decide +kernel
theorem dL_law_240 : decode cL_law 240 = .ok (.if_icmp .ge 21, 3) := by decide +kernel
theorem dL_law_243 : decode cL_law 243 = .ok (.aload 11, 2) := by decide +kernel
theorem dL_law_245 : decode cL_law 245 = .ok (.iload 12, 2) := by decide +kernel
theorem dL_law_247 : decode cL_law 247 = .ok (.aload_n 1, 1) := by decide +kernel
theorem dL_law_248 : decode cL_law 248 = .ok (.iconst 1, 1) := by decide +kernel
theorem dL_law_249 : decode cL_law 249 = .ok (.iload 12, 2) := by decide +kernel
theorem dL_law_251 : decode cL_law 251 = .ok (.invokevirtual 121, 3) := by decide +kernel
theorem dL_law_254 : decode cL_law 254 = .ok (.iastore, 1) := by decide +kernel
theorem dL_law_255 : decode cL_law 255 = .ok (.iinc 12 1, 3) := by decide +kernel
theorem dL_law_258 : decode cL_law 258 = .ok (.goto (-22), 3) := by decide +kernel
theorem dL_law_261 : decode cL_law 261 = .ok (.aload_n 1, 1) := by decide +kernel
theorem dL_law_262 : decode cL_law 262 = .ok (.iconst 3, 1) := by decide +kernel
theorem dL_law_263 : decode cL_law 263 = .ok (.invokevirtual 118, 3) := by decide +kernel
theorem dL_law_266 : decode cL_law 266 = .ok (.istore 12, 2) := by decide +kernel
theorem dL_law_268 : decode cL_law 268 = .ok (.iconst 4, 1) := by decide +kernel
theorem dL_law_269 : decode cL_law 269 = .ok (.newarray .int, 2) := by decide +kernel
theorem dL_law_271 : decode cL_law 271 = .ok (.astore 13, 2) := by decide +kernel
theorem dL_law_273 : decode cL_law 273 = .ok (.iconst 4, 1) := by decide +kernel
theorem dL_law_274 : decode cL_law 274 = .ok (.newarray .int, 2) := by decide +kernel
theorem dL_law_276 : decode cL_law 276 = .ok (.astore 14, 2) := by decide +kernel
theorem dL_law_278 : decode cL_law 278 = .ok (.iconst 0, 1) := by decide +kernel
theorem dL_law_279 : decode cL_law 279 = .ok (.istore 15, 2) := by decide +kernel
theorem dL_law_281 : decode cL_law 281 = .ok (.iload 15, 2) := by decide +kernel
theorem dL_law_283 : decode cL_law 283 = .ok (.iconst 4, 1) := by decide +kernel
theorem dL_law_284 : decode cL_law 284 = .ok (.if_icmp .ge 53, 3) := by decide +kernel
theorem dL_law_287 : decode cL_law 287 = .ok (.aload 13, 2) := by decide +kernel
theorem dL_law_289 : decode cL_law 289 = .ok (.iload 15, 2) := by decide +kernel
theorem dL_law_291 : decode cL_law 291 = .ok (.aload 8, 2) := by decide +kernel
theorem dL_law_293 : decode cL_law 293 = .ok (.iload 15, 2) := by decide +kernel
theorem dL_law_295 : decode cL_law 295 = .ok (.aaload, 1) := by decide +kernel
theorem dL_law_296 : decode cL_law 296 = .ok (.iconst 0, 1) := by decide +kernel
theorem dL_law_297 : decode cL_law 297 = .ok (.iaload, 1) := by decide +kernel
theorem dL_law_298 : decode cL_law 298 = .ok (.iastore, 1) := by decide +kernel
theorem dL_law_299 : decode cL_law 299 = .ok (.aload 14, 2) := by decide +kernel
theorem dL_law_301 : decode cL_law 301 = .ok (.iload 15, 2) := by decide +kernel
theorem dL_law_303 : decode cL_law 303 = .ok (.aload 13, 2) := by decide +kernel
theorem dL_law_305 : decode cL_law 305 = .ok (.iload 15, 2) := by decide +kernel
theorem dL_law_307 : decode cL_law 307 = .ok (.iaload, 1) := by decide +kernel
theorem dL_law_308 : decode cL_law 308 = .ok (.ifCond .ne 7, 3) := by decide +kernel
theorem dL_law_311 : decode cL_law 311 = .ok (.iconst 0, 1) := by decide +kernel
theorem dL_law_312 : decode cL_law 312 = .ok (.goto 18, 3) := by decide +kernel
theorem dL_law_315 : decode cL_law 315 = .ok (.bipush 99, 2) := by decide +kernel
theorem dL_law_317 : decode cL_law 317 = .ok (.aload 8, 2) := by decide +kernel
theorem dL_law_319 : decode cL_law 319 = .ok (.iload 15, 2) := by decide +kernel
theorem dL_law_321 : decode cL_law 321 = .ok (.aaload, 1) := by decide +kernel
theorem dL_law_322 : decode cL_law 322 = .ok (.iconst 1, 1) := by decide +kernel
theorem dL_law_323 : decode cL_law 323 = .ok (.iaload, 1) := by decide +kernel
theorem dL_law_324 : decode cL_law 324 = .ok (.iload 10, 2) := by decide +kernel
theorem dL_law_326 : decode cL_law 326 = .ok (.iadd, 1) := by decide +kernel
theorem dL_law_327 : decode cL_law 327 = .ok (.invokestatic 124, 3) := by decide +kernel
theorem dL_law_330 : decode cL_law 330 = .ok (.iastore, 1) := by decide +kernel
theorem dL_law_331 : decode cL_law 331 = .ok (.iinc 15 1, 3) := by decide +kernel
theorem dL_law_334 : decode cL_law 334 = .ok (.goto (-53), 3) := by decide +kernel
theorem dL_law_337 : decode cL_law 337 = .ok (.iconst 0, 1) := by decide +kernel
theorem dL_law_338 : decode cL_law 338 = .ok (.istore 15, 2) := by decide +kernel
theorem dL_law_340 : decode cL_law 340 = .ok (.aload_n 2, 1) := by decide +kernel
theorem dL_law_341 : decode cL_law 341 = .ok (.getfield 9, 3) := by decide +kernel
theorem dL_law_344 : decode cL_law 344 = .ok (.arraylength, 1) := by decide +kernel
theorem dL_law_345 : decode cL_law 345 = .ok (.newarray .int, 2) := by decide +kernel
theorem dL_law_347 : decode cL_law 347 = .ok (.astore 16, 2) := by decide +kernel
theorem dL_law_349 : decode cL_law 349 = .ok (.iconst 0, 1) := by decide +kernel
theorem dL_law_350 : decode cL_law 350 = .ok (.istore 17, 2) := by decide +kernel
theorem dL_law_352 : decode cL_law 352 = .ok (.iload 17, 2) := by decide +kernel
theorem dL_law_354 : decode cL_law 354 = .ok (.aload 16, 2) := by decide +kernel
theorem dL_law_356 : decode cL_law 356 = .ok (.arraylength, 1) := by decide +kernel
theorem dL_law_357 : decode cL_law 357 = .ok (.if_icmp .ge 21, 3) := by decide +kernel
theorem dL_law_360 : decode cL_law 360 = .ok (.aload 16, 2) := by decide +kernel
theorem dL_law_362 : decode cL_law 362 = .ok (.iload 17, 2) := by decide +kernel
theorem dL_law_364 : decode cL_law 364 = .ok (.aload_n 1, 1) := by decide +kernel
theorem dL_law_365 : decode cL_law 365 = .ok (.iload 17, 2) := by decide +kernel
theorem dL_law_367 : decode cL_law 367 = .ok (.iconst 2, 1) := by decide +kernel
theorem dL_law_368 : decode cL_law 368 = .ok (.invokevirtual 129, 3) := by decide +kernel
theorem dL_law_371 : decode cL_law 371 = .ok (.iastore, 1) := by decide +kernel
theorem dL_law_372 : decode cL_law 372 = .ok (.iinc 17 1, 3) := by decide +kernel
theorem dL_law_375 : decode cL_law 375 = .ok (.goto (-23), 3) := by decide +kernel
theorem dL_law_378 : decode cL_law 378 = .ok (.iconst 0, 1) := by decide +kernel
theorem dL_law_379 : decode cL_law 379 = .ok (.istore 17, 2) := by decide +kernel
theorem dL_law_381 : decode cL_law 381 = .ok (.iload 17, 2) := by decide +kernel
theorem dL_law_383 : decode cL_law 383 = .ok (.aload_n 2, 1) := by decide +kernel
theorem dL_law_384 : decode cL_law 384 = .ok (.getfield 15, 3) := by decide +kernel
theorem dL_law_387 : decode cL_law 387 = .ok (.arraylength, 1) := by decide +kernel
theorem dL_law_388 : decode cL_law 388 = .ok (.if_icmp .ge 142, 3) := by decide +kernel
theorem dL_law_391 : decode cL_law 391 = .ok (.aload_n 1, 1) := by decide +kernel
theorem dL_law_392 : decode cL_law 392 = .ok (.iload 17, 2) := by decide +kernel
theorem dL_law_394 : decode cL_law 394 = .ok (.iconst 1, 1) := by decide +kernel
theorem dL_law_395 : decode cL_law 395 = .ok (.invokevirtual 132, 3) := by decide +kernel
theorem dL_law_398 : decode cL_law 398 = .ok (.istore 18, 2) := by decide +kernel
theorem dL_law_400 : decode cL_law 400 = .ok (.aload_n 1, 1) := by decide +kernel
theorem dL_law_401 : decode cL_law 401 = .ok (.iload 17, 2) := by decide +kernel
theorem dL_law_403 : decode cL_law 403 = .ok (.iconst 2, 1) := by decide +kernel
theorem dL_law_404 : decode cL_law 404 = .ok (.invokevirtual 132, 3) := by decide +kernel
theorem dL_law_407 : decode cL_law 407 = .ok (.istore 19, 2) := by decide +kernel
theorem dL_law_409 : decode cL_law 409 = .ok (.iload 18, 2) := by decide +kernel
theorem dL_law_411 : decode cL_law 411 = .ok (.ifCond .lt 113, 3) := by decide +kernel
theorem dL_law_414 : decode cL_law 414 = .ok (.iload 19, 2) := by decide +kernel
theorem dL_law_416 : decode cL_law 416 = .ok (.ifCond .lt 108, 3) := by decide +kernel
theorem dL_law_419 : decode cL_law 419 = .ok (.aload 14, 2) := by decide +kernel
theorem dL_law_421 : decode cL_law 421 = .ok (.iload 18, 2) := by decide +kernel
theorem dL_law_423 : decode cL_law 423 = .ok (.iaload, 1) := by decide +kernel
theorem dL_law_424 : decode cL_law 424 = .ok (.bipush 30, 2) := by decide +kernel
theorem dL_law_426 : decode cL_law 426 = .ok (.if_icmp .lt 98, 3) := by decide +kernel
theorem dL_law_429 : decode cL_law 429 = .ok (.aload 13, 2) := by decide +kernel
theorem dL_law_431 : decode cL_law 431 = .ok (.iload 18, 2) := by decide +kernel
theorem dL_law_433 : decode cL_law 433 = .ok (.iaload, 1) := by decide +kernel
theorem dL_law_434 : decode cL_law 434 = .ok (.ifCond .ne 6, 3) := by decide +kernel
theorem dL_law_437 : decode cL_law 437 = .ok (.goto 87, 3) := by decide +kernel
theorem dL_law_440 : decode cL_law 440 = .ok (.aload_n 1, 1) := by decide +kernel
theorem dL_law_441 : decode cL_law 441 = .ok (.iload 17, 2) := by decide +kernel
theorem dL_law_443 : decode cL_law 443 = .ok (.iconst 0, 1) := by decide +kernel
theorem dL_law_444 : decode cL_law 444 = .ok (.invokevirtual 132, 3) := by decide +kernel
theorem dL_law_447 : decode cL_law 447 = .ok (.iload 12, 2) := by decide +kernel
theorem dL_law_449 : decode cL_law 449 = .ok (.aload 13, 2) := by decide +kernel
theorem dL_law_451 : decode cL_law 451 = .ok (.iload 18, 2) := by decide +kernel
theorem dL_law_453 : decode cL_law 453 = .ok (.iaload, 1) := by decide +kernel
theorem dL_law_454 : decode cL_law 454 = .ok (.aload_n 1, 1) := by decide +kernel
theorem dL_law_455 : decode cL_law 455 = .ok (.iload 19, 2) := by decide +kernel
theorem dL_law_457 : decode cL_law 457 = .ok (.iconst 1, 1) := by decide +kernel
theorem dL_law_458 : decode cL_law 458 = .ok (.invokevirtual 129, 3) := by decide +kernel
theorem dL_law_461 : decode cL_law 461 = .ok (.idiv, 1) := by decide +kernel
theorem dL_law_462 : decode cL_law 462 = .ok (.invokestatic 124, 3) := by decide +kernel
theorem dL_law_465 : decode cL_law 465 = .ok (.invokestatic 124, 3) := by decide +kernel
theorem dL_law_468 : decode cL_law 468 = .ok (.istore 20, 2) := by decide +kernel
theorem dL_law_470 : decode cL_law 470 = .ok (.iload 12, 2) := by decide +kernel
theorem dL_law_472 : decode cL_law 472 = .ok (.iload 20, 2) := by decide +kernel
theorem dL_law_474 : decode cL_law 474 = .ok (.isub, 1) := by decide +kernel
theorem dL_law_475 : decode cL_law 475 = .ok (.istore 12, 2) := by decide +kernel
theorem dL_law_477 : decode cL_law 477 = .ok (.aload 13, 2) := by decide +kernel
theorem dL_law_479 : decode cL_law 479 = .ok (.iload 18, 2) := by decide +kernel
theorem dL_law_481 : decode cL_law 481 = .ok (.dup2, 1) := by decide +kernel
theorem dL_law_482 : decode cL_law 482 = .ok (.iaload, 1) := by decide +kernel
theorem dL_law_483 : decode cL_law 483 = .ok (.iload 20, 2) := by decide +kernel
theorem dL_law_485 : decode cL_law 485 = .ok (.aload_n 1, 1) := by decide +kernel
theorem dL_law_486 : decode cL_law 486 = .ok (.iload 19, 2) := by decide +kernel
theorem dL_law_488 : decode cL_law 488 = .ok (.iconst 1, 1) := by decide +kernel
theorem dL_law_489 : decode cL_law 489 = .ok (.invokevirtual 129, 3) := by decide +kernel
theorem dL_law_492 : decode cL_law 492 = .ok (.imul, 1) := by decide +kernel
theorem dL_law_493 : decode cL_law 493 = .ok (.isub, 1) := by decide +kernel
theorem dL_law_494 : decode cL_law 494 = .ok (.iastore, 1) := by decide +kernel
theorem dL_law_495 : decode cL_law 495 = .ok (.iload 15, 2) := by decide +kernel
theorem dL_law_497 : decode cL_law 497 = .ok (.iload 20, 2) := by decide +kernel
theorem dL_law_499 : decode cL_law 499 = .ok (.iadd, 1) := by decide +kernel
theorem dL_law_500 : decode cL_law 500 = .ok (.istore 15, 2) := by decide +kernel
theorem dL_law_502 : decode cL_law 502 = .ok (.aload 16, 2) := by decide +kernel
theorem dL_law_504 : decode cL_law 504 = .ok (.iload 19, 2) := by decide +kernel
theorem dL_law_506 : decode cL_law 506 = .ok (.bipush 50, 2) := by decide +kernel
theorem dL_law_508 : decode cL_law 508 = .ok (.aload 16, 2) := by decide +kernel
theorem dL_law_510 : decode cL_law 510 = .ok (.iload 19, 2) := by decide +kernel
theorem dL_law_512 : decode cL_law 512 = .ok (.iaload, 1) := by decide +kernel
theorem dL_law_513 : decode cL_law 513 = .ok (.iload 20, 2) := by decide +kernel
theorem dL_law_515 : decode cL_law 515 = .ok (.iconst 1, 1) := by decide +kernel
theorem dL_law_516 : decode cL_law 516 = .ok (.iadd, 1) := by decide +kernel
theorem dL_law_517 : decode cL_law 517 = .ok (.iconst 2, 1) := by decide +kernel
theorem dL_law_518 : decode cL_law 518 = .ok (.idiv, 1) := by decide +kernel
theorem dL_law_519 : decode cL_law 519 = .ok (.iadd, 1) := by decide +kernel
theorem dL_law_520 : decode cL_law 520 = .ok (.invokestatic 124, 3) := by decide +kernel
theorem dL_law_523 : decode cL_law 523 = .ok (.iastore, 1) := by decide +kernel
theorem dL_law_524 : decode cL_law 524 = .ok (.iinc 17 1, 3) := by decide +kernel
theorem dL_law_527 : decode cL_law 527 = .ok (.goto (-146), 3) := by decide +kernel
theorem dL_law_530 : decode cL_law 530 = .ok (.aload_n 1, 1) := by decide +kernel
theorem dL_law_531 : decode cL_law 531 = .ok (.iconst 1, 1) := by decide +kernel
theorem dL_law_532 : decode cL_law 532 = .ok (.invokevirtual 100, 3) := by decide +kernel
theorem dL_law_535 : decode cL_law 535 = .ok (.iload 15, 2) := by decide +kernel
theorem dL_law_537 : decode cL_law 537 = .ok (.if_icmp .ne 12, 3) := by decide +kernel
theorem dL_law_540 : decode cL_law 540 = .ok (.aload_n 2, 1) := by decide +kernel
theorem dL_law_541 : decode cL_law 541 = .ok (.invokevirtual 103, 3) := by decide +kernel
theorem dL_law_544 : decode cL_law 544 = .ok (.iload 15, 2) := by decide +kernel
theorem dL_law_546 : decode cL_law 546 = .ok (.if_icmp .eq 5, 3) := by decide +kernel
theorem dL_law_549 : decode cL_law 549 = .ok (.iconst 0, 1) := by decide +kernel
theorem dL_law_550 : decode cL_law 550 = .ok (.ireturn, 1) := by decide +kernel
theorem dL_law_551 : decode cL_law 551 = .ok (.iconst 0, 1) := by decide +kernel
theorem dL_law_552 : decode cL_law 552 = .ok (.istore 17, 2) := by decide +kernel
theorem dL_law_554 : decode cL_law 554 = .ok (.iload 17, 2) := by decide +kernel
theorem dL_law_556 : decode cL_law 556 = .ok (.bipush 12, 2) := by decide +kernel
theorem dL_law_558 : decode cL_law 558 = .ok (.if_icmp .ge 25, 3) := by decide +kernel
theorem dL_law_561 : decode cL_law 561 = .ok (.aload_n 1, 1) := by decide +kernel
theorem dL_law_562 : decode cL_law 562 = .ok (.iload 17, 2) := by decide +kernel
theorem dL_law_564 : decode cL_law 564 = .ok (.invokevirtual 118, 3) := by decide +kernel
theorem dL_law_567 : decode cL_law 567 = .ok (.aload 11, 2) := by decide +kernel
theorem dL_law_569 : decode cL_law 569 = .ok (.iload 17, 2) := by decide +kernel
theorem dL_law_571 : decode cL_law 571 = .ok (.iaload, 1) := by decide +kernel
theorem dL_law_572 : decode cL_law 572 = .ok (.if_icmp .eq 5, 3) := by decide +kernel
theorem dL_law_575 : decode cL_law 575 = .ok (.iconst 0, 1) := by decide +kernel
theorem dL_law_576 : decode cL_law 576 = .ok (.ireturn, 1) := by decide +kernel
theorem dL_law_577 : decode cL_law 577 = .ok (.iinc 17 1, 3) := by decide +kernel
theorem dL_law_580 : decode cL_law 580 = .ok (.goto (-26), 3) := by decide +kernel
theorem dL_law_583 : decode cL_law 583 = .ok (.iconst 0, 1) := by decide +kernel
theorem dL_law_584 : decode cL_law 584 = .ok (.istore 17, 2) := by decide +kernel
theorem dL_law_586 : decode cL_law 586 = .ok (.iload 17, 2) := by decide +kernel
theorem dL_law_588 : decode cL_law 588 = .ok (.iconst 4, 1) := by decide +kernel
theorem dL_law_589 : decode cL_law 589 = .ok (.if_icmp .ge 82, 3) := by decide +kernel
theorem dL_law_592 : decode cL_law 592 = .ok (.aload_n 1, 1) := by decide +kernel
theorem dL_law_593 : decode cL_law 593 = .ok (.iload 17, 2) := by decide +kernel
theorem dL_law_595 : decode cL_law 595 = .ok (.iconst 0, 1) := by decide +kernel
theorem dL_law_596 : decode cL_law 596 = .ok (.invokevirtual 115, 3) := by decide +kernel
theorem dL_law_599 : decode cL_law 599 = .ok (.aload 13, 2) := by decide +kernel
theorem dL_law_601 : decode cL_law 601 = .ok (.iload 17, 2) := by decide +kernel
theorem dL_law_603 : decode cL_law 603 = .ok (.iaload, 1) := by decide +kernel
theorem dL_law_604 : decode cL_law 604 = .ok (.if_icmp .ne 59, 3) := by decide +kernel
theorem dL_law_607 : decode cL_law 607 = .ok (.aload_n 1, 1) := by decide +kernel
theorem dL_law_608 : decode cL_law 608 = .ok (.iload 17, 2) := by decide +kernel
theorem dL_law_610 : decode cL_law 610 = .ok (.iconst 1, 1) := by decide +kernel
theorem dL_law_611 : decode cL_law 611 = .ok (.invokevirtual 115, 3) := by decide +kernel
theorem dL_law_614 : decode cL_law 614 = .ok (.aload 13, 2) := by decide +kernel
theorem dL_law_616 : decode cL_law 616 = .ok (.iload 17, 2) := by decide +kernel
theorem dL_law_618 : decode cL_law 618 = .ok (.iaload, 1) := by decide +kernel
theorem dL_law_619 : decode cL_law 619 = .ok (.ifCond .ne 7, 3) := by decide +kernel
theorem dL_law_622 : decode cL_law 622 = .ok (.iconst 0, 1) := by decide +kernel
theorem dL_law_623 : decode cL_law 623 = .ok (.goto 8, 3) := by decide +kernel
theorem dL_law_626 : decode cL_law 626 = .ok (.aload 14, 2) := by decide +kernel
theorem dL_law_628 : decode cL_law 628 = .ok (.iload 17, 2) := by decide +kernel
theorem dL_law_630 : decode cL_law 630 = .ok (.iaload, 1) := by decide +kernel
theorem dL_law_631 : decode cL_law 631 = .ok (.if_icmp .ne 32, 3) := by decide +kernel
theorem dL_law_634 : decode cL_law 634 = .ok (.aload_n 1, 1) := by decide +kernel
theorem dL_law_635 : decode cL_law 635 = .ok (.iload 17, 2) := by decide +kernel
theorem dL_law_637 : decode cL_law 637 = .ok (.iconst 2, 1) := by decide +kernel
theorem dL_law_638 : decode cL_law 638 = .ok (.invokevirtual 115, 3) := by decide +kernel
theorem dL_law_641 : decode cL_law 641 = .ok (.aload 13, 2) := by decide +kernel
theorem dL_law_643 : decode cL_law 643 = .ok (.iload 17, 2) := by decide +kernel
theorem dL_law_645 : decode cL_law 645 = .ok (.iaload, 1) := by decide +kernel
theorem dL_law_646 : decode cL_law 646 = .ok (.ifCond .ne 7, 3) := by decide +kernel
theorem dL_law_649 : decode cL_law 649 = .ok (.iconst (-1), 1) := by decide +kernel
theorem dL_law_650 : decode cL_law 650 = .ok (.goto 10, 3) := by decide +kernel
theorem dL_law_653 : decode cL_law 653 = .ok (.aload 8, 2) := by decide +kernel
theorem dL_law_655 : decode cL_law 655 = .ok (.iload 17, 2) := by decide +kernel
theorem dL_law_657 : decode cL_law 657 = .ok (.aaload, 1) := by decide +kernel
theorem dL_law_658 : decode cL_law 658 = .ok (.iconst 2, 1) := by decide +kernel
theorem dL_law_659 : decode cL_law 659 = .ok (.iaload, 1) := by decide +kernel
theorem dL_law_660 : decode cL_law 660 = .ok (.if_icmp .eq 5, 3) := by decide +kernel
theorem dL_law_663 : decode cL_law 663 = .ok (.iconst 0, 1) := by decide +kernel
theorem dL_law_664 : decode cL_law 664 = .ok (.ireturn, 1) := by decide +kernel
theorem dL_law_665 : decode cL_law 665 = .ok (.iinc 17 1, 3) := by decide +kernel
theorem dL_law_668 : decode cL_law 668 = .ok (.goto (-82), 3) := by decide +kernel
theorem dL_law_671 : decode cL_law 671 = .ok (.iconst 0, 1) := by decide +kernel
theorem dL_law_672 : decode cL_law 672 = .ok (.istore 17, 2) := by decide +kernel
theorem dL_law_674 : decode cL_law 674 = .ok (.iload 17, 2) := by decide +kernel
theorem dL_law_676 : decode cL_law 676 = .ok (.aload 16, 2) := by decide +kernel
theorem dL_law_678 : decode cL_law 678 = .ok (.arraylength, 1) := by decide +kernel
theorem dL_law_679 : decode cL_law 679 = .ok (.if_icmp .ge 26, 3) := by decide +kernel
theorem dL_law_682 : decode cL_law 682 = .ok (.aload_n 1, 1) := by decide +kernel
theorem dL_law_683 : decode cL_law 683 = .ok (.iload 17, 2) := by decide +kernel
theorem dL_law_685 : decode cL_law 685 = .ok (.iconst 2, 1) := by decide +kernel
theorem dL_law_686 : decode cL_law 686 = .ok (.invokevirtual 129, 3) := by decide +kernel
theorem dL_law_689 : decode cL_law 689 = .ok (.aload 16, 2) := by decide +kernel
theorem dL_law_691 : decode cL_law 691 = .ok (.iload 17, 2) := by decide +kernel
theorem dL_law_693 : decode cL_law 693 = .ok (.iaload, 1) := by decide +kernel
theorem dL_law_694 : decode cL_law 694 = .ok (.if_icmp .eq 5, 3) := by decide +kernel
theorem dL_law_697 : decode cL_law 697 = .ok (.iconst 0, 1) := by decide +kernel
theorem dL_law_698 : decode cL_law 698 = .ok (.ireturn, 1) := by decide +kernel
theorem dL_law_699 : decode cL_law 699 = .ok (.iinc 17 1, 3) := by decide +kernel
theorem dL_law_702 : decode cL_law 702 = .ok (.goto (-28), 3) := by decide +kernel
theorem dL_law_705 : decode cL_law 705 = .ok (.aload_n 1, 1) := by decide +kernel
theorem dL_law_706 : decode cL_law 706 = .ok (.iconst 3, 1) := by decide +kernel
theorem dL_law_707 : decode cL_law 707 = .ok (.invokevirtual 118, 3) := by decide +kernel
theorem dL_law_710 : decode cL_law 710 = .ok (.iload 12, 2) := by decide +kernel
theorem dL_law_712 : decode cL_law 712 = .ok (.bipush 24, 2) := by decide +kernel
theorem dL_law_714 : decode cL_law 714 = .ok (.aload_n 1, 1) := by decide +kernel
theorem dL_law_715 : decode cL_law 715 = .ok (.iconst 2, 1) := by decide +kernel
theorem dL_law_716 : decode cL_law 716 = .ok (.invokevirtual 118, 3) := by decide +kernel
theorem dL_law_719 : decode cL_law 719 = .ok (.iload 12, 2) := by decide +kernel
theorem dL_law_721 : decode cL_law 721 = .ok (.isub, 1) := by decide +kernel
theorem dL_law_722 : decode cL_law 722 = .ok (.invokestatic 124, 3) := by decide +kernel
theorem dL_law_725 : decode cL_law 725 = .ok (.iadd, 1) := by decide +kernel
theorem dL_law_726 : decode cL_law 726 = .ok (.if_icmp .eq 5, 3) := by decide +kernel
theorem dL_law_729 : decode cL_law 729 = .ok (.iconst 0, 1) := by decide +kernel
theorem dL_law_730 : decode cL_law 730 = .ok (.ireturn, 1) := by decide +kernel
theorem dL_law_731 : decode cL_law 731 = .ok (.iload 7, 2) := by decide +kernel
theorem dL_law_733 : decode cL_law 733 = .ok (.ifCond .le 18, 3) := by decide +kernel
theorem dL_law_736 : decode cL_law 736 = .ok (.aload_n 1, 1) := by decide +kernel
theorem dL_law_737 : decode cL_law 737 = .ok (.iload 5, 2) := by decide +kernel
theorem dL_law_739 : decode cL_law 739 = .ok (.iload 6, 2) := by decide +kernel
theorem dL_law_741 : decode cL_law 741 = .ok (.invokevirtual 111, 3) := by decide +kernel
theorem dL_law_744 : decode cL_law 744 = .ok (.iload 7, 2) := by decide +kernel
theorem dL_law_746 : decode cL_law 746 = .ok (.iconst 1, 1) := by decide +kernel
theorem dL_law_747 : decode cL_law 747 = .ok (.isub, 1) := by decide +kernel
theorem dL_law_748 : decode cL_law 748 = .ok (.if_icmp .ne 20, 3) := by decide +kernel
theorem dL_law_751 : decode cL_law 751 = .ok (.iload 7, 2) := by decide +kernel
theorem dL_law_753 : decode cL_law 753 = .ok (.ifCond .ne 17, 3) := by decide +kernel
theorem dL_law_756 : decode cL_law 756 = .ok (.aload 8, 2) := by decide +kernel
theorem dL_law_758 : decode cL_law 758 = .ok (.iload 5, 2) := by decide +kernel
theorem dL_law_760 : decode cL_law 760 = .ok (.aaload, 1) := by decide +kernel
theorem dL_law_761 : decode cL_law 761 = .ok (.iconst 1, 1) := by decide +kernel
theorem dL_law_762 : decode cL_law 762 = .ok (.iaload, 1) := by decide +kernel
theorem dL_law_763 : decode cL_law 763 = .ok (.iload 6, 2) := by decide +kernel
theorem dL_law_765 : decode cL_law 765 = .ok (.if_icmp .ge 5, 3) := by decide +kernel
theorem dL_law_768 : decode cL_law 768 = .ok (.iconst 0, 1) := by decide +kernel
theorem dL_law_769 : decode cL_law 769 = .ok (.ireturn, 1) := by decide +kernel
theorem dL_law_770 : decode cL_law 770 = .ok (.iload 7, 2) := by decide +kernel
theorem dL_law_772 : decode cL_law 772 = .ok (.iconst 1, 1) := by decide +kernel
theorem dL_law_773 : decode cL_law 773 = .ok (.if_icmp .ne 17, 3) := by decide +kernel
theorem dL_law_776 : decode cL_law 776 = .ok (.aload_n 1, 1) := by decide +kernel
theorem dL_law_777 : decode cL_law 777 = .ok (.iload 5, 2) := by decide +kernel
theorem dL_law_779 : decode cL_law 779 = .ok (.iconst 1, 1) := by decide +kernel
theorem dL_law_780 : decode cL_law 780 = .ok (.invokevirtual 115, 3) := by decide +kernel
theorem dL_law_783 : decode cL_law 783 = .ok (.iload 6, 2) := by decide +kernel
theorem dL_law_785 : decode cL_law 785 = .ok (.if_icmp .ge 5, 3) := by decide +kernel
theorem dL_law_788 : decode cL_law 788 = .ok (.iconst 0, 1) := by decide +kernel
theorem dL_law_789 : decode cL_law 789 = .ok (.ireturn, 1) := by decide +kernel
theorem dL_law_790 : decode cL_law 790 = .ok (.iinc 3 1, 3) := by decide +kernel
theorem dL_law_793 : decode cL_law 793 = .ok (.goto (-771), 3) := by decide +kernel
theorem dL_law_796 : decode cL_law 796 = .ok (.aload_n 2, 1) := by decide +kernel
theorem dL_law_797 : decode cL_law 797 = .ok (.aload_n 1, 1) := by decide +kernel
theorem dL_law_798 : decode cL_law 798 = .ok (.invokevirtual 135, 3) := by decide +kernel
theorem dL_law_801 : decode cL_law 801 = .ok (.ireturn, 1) := by decide +kernel
end
section
theorem wsL_law_x0 : ∀ w ∈ (vx_atS RX5 27 "java/lang/IndexOutOfBoundsException" ["java/lang/RuntimeException", "java/lang/Exception"]).filter goodWord, w ∈ lw_tbl := by decide +kernel
theorem wsL_law_x1 : ∀ w ∈ (vx_atS RX5 37 "java/lang/IllegalArgumentException" ["java/lang/RuntimeException", "java/lang/Exception"]).filter goodWord, w ∈ lw_tbl := by decide +kernel
theorem wsL_law_x2 : ∀ w ∈ (vx_atS RX5 50 "java/lang/IllegalStateException" ["java/lang/RuntimeException", "java/lang/Exception"]).filter goodWord, w ∈ lw_tbl := by decide +kernel
set_option maxRecDepth 20000 in
theorem ggL_act_L_below : GoodIn wsL_act wsL_below := goodIn_r _ [19, 20] (by decide +kernel) (by decide +kernel)
set_option maxRecDepth 20000 in
theorem gL_act_L_below : GoodIn wsL_act (va_wsS RL 18 yL_below wsL_below) := goodIn_app (goodIn_of _ (by decide +kernel)) ggL_act_L_below
set_option maxRecDepth 20000 in
theorem ggL_act_X5_buy : GoodIn wsL_act wsX5_buy := goodIn_ca (goodIn_ca (goodIn_ca (goodIn_r _ [25, 26, 27, 28, 29, 30, 31, 32, 33, 34, 35, 24, 36, 37, 38, 39, 40, 41, 42, 43, 44, 45, 46, 223, 224, 225, 226, 227, 228, 229, 230, 231, 232, 233, 234, 235, 236] (by decide +kernel) (by decide +kernel)) (goodIn_sub (fun _ h => List.mem_cons_of_mem _ (List.mem_append_left _ (List.mem_append_left _ (List.mem_append_right _ h)))) (by decide +kernel))) (goodIn_sub (fun _ h => List.mem_cons_of_mem _ (List.mem_append_left _ (List.mem_append_right _ h))) (by decide +kernel))) (goodIn_sub (fun _ h => List.mem_cons_of_mem _ (List.mem_append_right _ h)) (by decide +kernel))
set_option maxRecDepth 20000 in
theorem gL_act_X5_buy : GoodIn wsL_act (wsV RL 35 RX5 yX5_buy wsX5_buy) := goodIn_app (goodIn_of _ (by decide +kernel)) ggL_act_X5_buy
set_option maxRecDepth 20000 in
theorem ggL_act_X6_worth : GoodIn wsL_act wsX6_worth := goodIn_r _ [50] (by decide +kernel) (by decide +kernel)
set_option maxRecDepth 20000 in
theorem gL_act_X6_worth : GoodIn wsL_act (va_wsS RL 43 yX6_worth wsX6_worth) := goodIn_app (goodIn_of _ (by decide +kernel)) ggL_act_X6_worth
set_option maxRecDepth 20000 in
theorem ggL_act_X5_sell : GoodIn wsL_act wsX5_sell := goodIn_ca (goodIn_ca (goodIn_ca (goodIn_r _ [54, 26, 27, 28, 29, 30, 31, 33, 34, 35, 24, 36, 37, 38, 39, 55, 56, 57, 43, 58, 59, 60, 61, 62, 63, 64, 65, 66, 67, 223, 224, 225, 226, 227, 228, 229, 230, 231, 232, 233, 234, 235, 236] (by decide +kernel) (by decide +kernel)) (goodIn_sub (fun _ h => List.mem_cons_of_mem _ (List.mem_append_left _ (List.mem_append_left _ (List.mem_append_right _ h)))) (by decide +kernel))) (goodIn_sub (fun _ h => List.mem_cons_of_mem _ (List.mem_append_left _ (List.mem_append_right _ h))) (by decide +kernel))) (goodIn_sub (fun _ h => List.mem_cons_of_mem _ (List.mem_append_right _ h)) (by decide +kernel))
set_option maxRecDepth 20000 in
theorem gL_act_X5_sell : GoodIn wsL_act (wsV RL 47 RX5 yX5_sell wsX5_sell) := goodIn_app (goodIn_of _ (by decide +kernel)) ggL_act_X5_sell
set_option maxRecDepth 20000 in
theorem ggL_act_X5_fill : GoodIn wsL_act wsX5_fill := goodIn_ca (goodIn_ca (goodIn_ca (goodIn_r _ [71, 26, 27, 28, 29, 30, 31, 33, 34, 35, 24, 36, 37, 38, 39, 72, 73, 74, 75, 76, 77, 78, 79, 80, 81, 82, 83, 223, 224, 225, 226, 227, 228, 229, 230, 231, 232, 233, 234, 235, 236, 237, 238, 239] (by decide +kernel) (by decide +kernel)) (goodIn_sub (fun _ h => List.mem_cons_of_mem _ (List.mem_append_left _ (List.mem_append_left _ (List.mem_append_right _ h)))) (by decide +kernel))) (goodIn_sub (fun _ h => List.mem_cons_of_mem _ (List.mem_append_left _ (List.mem_append_right _ h))) (by decide +kernel))) (goodIn_sub (fun _ h => List.mem_cons_of_mem _ (List.mem_append_right _ h)) (by decide +kernel))
set_option maxRecDepth 20000 in
theorem gL_act_X5_fill : GoodIn wsL_act (wsV RL 54 RX5 yX5_fill wsX5_fill) := goodIn_app (goodIn_of _ (by decide +kernel)) ggL_act_X5_fill
set_option maxRecDepth 20000 in
theorem ggL_act_X5_drain : GoodIn wsL_act wsX5_drain := goodIn_ca (goodIn_ca (goodIn_r _ [87, 26, 27, 30, 31, 33, 34, 35, 24, 36, 72, 73, 74, 75, 76, 77, 88, 89, 90, 91, 92, 79, 80, 81, 82, 83, 223, 224, 225, 226, 227, 228, 229, 230, 231, 232, 233, 234, 235, 236, 237, 238, 239] (by decide +kernel) (by decide +kernel)) (goodIn_sub (fun _ h => List.mem_cons_of_mem _ (List.mem_append_left _ (List.mem_append_left _ (List.mem_append_right _ h)))) (by decide +kernel))) (goodIn_sub (fun _ h => List.mem_cons_of_mem _ (List.mem_append_right _ h)) (by decide +kernel))
set_option maxRecDepth 20000 in
theorem gL_act_X5_drain : GoodIn wsL_act (wsV RL 57 RX5 yX5_drain wsX5_drain) := goodIn_app (goodIn_of _ (by decide +kernel)) ggL_act_X5_drain
set_option maxRecDepth 20000 in
theorem ggL_act_X6_more : GoodIn wsL_act wsX6_more := goodIn_r _ [95, 96] (by decide +kernel) (by decide +kernel)
set_option maxRecDepth 20000 in
theorem gL_act_X6_more : GoodIn wsL_act (va_wsS RL 60 yX6_more wsX6_more) := goodIn_app (goodIn_of _ (by decide +kernel)) ggL_act_X6_more
set_option maxRecDepth 20000 in
theorem ggL_act_X5_pair : GoodIn wsL_act wsX5_pair := goodIn_ca (goodIn_ca (goodIn_ca (goodIn_r _ [100, 26, 27, 28, 29, 30, 31, 33, 34, 35, 24, 36, 37, 38, 39, 101, 102, 103, 104, 105, 106, 107, 108, 109, 223, 224, 225, 226, 227, 228, 229, 230, 231, 232, 233, 234, 235, 236, 240, 241, 242, 243] (by decide +kernel) (by decide +kernel)) (goodIn_sub (fun _ h => List.mem_cons_of_mem _ (List.mem_append_left _ (List.mem_append_left _ (List.mem_append_right _ h)))) (by decide +kernel))) (goodIn_sub (fun _ h => List.mem_cons_of_mem _ (List.mem_append_left _ (List.mem_append_right _ h))) (by decide +kernel))) (goodIn_sub (fun _ h => List.mem_cons_of_mem _ (List.mem_append_right _ h)) (by decide +kernel))
set_option maxRecDepth 20000 in
theorem gL_act_X5_pair : GoodIn wsL_act (wsV RL 64 RX5 yX5_pair wsX5_pair) := goodIn_app (goodIn_of _ (by decide +kernel)) ggL_act_X5_pair
set_option maxRecDepth 20000 in
theorem ggL_act_X5_wire : GoodIn wsL_act wsX5_wire := goodIn_ca (goodIn_ca (goodIn_r _ [113, 26, 27, 30, 31, 33, 114, 115, 116, 104, 117, 106, 118, 119, 120, 121, 109, 122, 123, 124, 125, 126, 223, 224, 225, 226, 227, 228, 229, 230, 231, 232, 233, 234, 235, 236, 240, 241, 242, 243] (by decide +kernel) (by decide +kernel)) (goodIn_sub (fun _ h => List.mem_cons_of_mem _ (List.mem_append_left _ (List.mem_append_left _ (List.mem_append_right _ h)))) (by decide +kernel))) (goodIn_sub (fun _ h => List.mem_cons_of_mem _ (List.mem_append_right _ h)) (by decide +kernel))
set_option maxRecDepth 20000 in
theorem gL_act_X5_wire : GoodIn wsL_act (wsV RL 67 RX5 yX5_wire wsX5_wire) := goodIn_app (goodIn_of _ (by decide +kernel)) ggL_act_X5_wire
set_option maxRecDepth 20000 in
theorem ggL_act_X5_team : GoodIn wsL_act wsX5_team := goodIn_ca (goodIn_ca (goodIn_r _ [130, 28, 29, 30, 31, 33, 37, 38, 24, 39, 131, 132, 133, 134, 135, 136, 137, 138, 139, 223, 224, 225, 226, 227, 228, 229, 230, 231, 232, 233, 234, 235, 236, 244, 245, 246, 247] (by decide +kernel) (by decide +kernel)) (goodIn_sub (fun _ h => List.mem_cons_of_mem _ (List.mem_append_left _ (List.mem_append_right _ h))) (by decide +kernel))) (goodIn_sub (fun _ h => List.mem_cons_of_mem _ (List.mem_append_right _ h)) (by decide +kernel))
set_option maxRecDepth 20000 in
theorem gL_act_X5_team : GoodIn wsL_act (wsV RL 70 RX5 yX5_team wsX5_team) := goodIn_app (goodIn_of _ (by decide +kernel)) ggL_act_X5_team
set_option maxRecDepth 20000 in
theorem ggL_act_X5_setWater : GoodIn wsL_act wsX5_setWater := goodIn_ca (goodIn_ca (goodIn_r _ [143, 26, 27, 28, 29, 33, 34, 35, 24, 36, 223, 224, 225, 226, 227, 228, 229, 230, 231, 232, 233, 234, 235, 236] (by decide +kernel) (by decide +kernel)) (goodIn_sub (fun _ h => List.mem_cons_of_mem _ (List.mem_append_left _ (List.mem_append_left _ (List.mem_append_right _ h)))) (by decide +kernel))) (goodIn_sub (fun _ h => List.mem_cons_of_mem _ (List.mem_append_left _ (List.mem_append_right _ h))) (by decide +kernel))
set_option maxRecDepth 20000 in
theorem gL_act_X5_setWater : GoodIn wsL_act (wsV RL 81 RX5 yX5_setWater wsX5_setWater) := goodIn_app (goodIn_of _ (by decide +kernel)) ggL_act_X5_setWater
set_option maxRecDepth 20000 in
theorem gpL_act_X5_place_0 : GoodIn wsL_act (.code yX5_place cX5_place 5 (some .int) :: wsX5_place_r1) := goodIn_r _ [147, 26, 27, 30, 31, 33, 148, 149, 150, 134, 151, 136, 34, 35, 24, 36, 114, 115, 116, 104, 117, 106, 152, 153, 154] (by decide +kernel) (by decide +kernel)
set_option maxRecDepth 20000 in
theorem gpL_act_X5_place_1 : GoodIn wsL_act wsX5_place_r2 := goodIn_r _ [155, 156, 157, 158, 159, 139, 160, 161, 162, 163, 164, 138, 165, 166, 167, 43, 168, 169, 170, 171, 172, 173, 174, 175] (by decide +kernel) (by decide +kernel)
set_option maxRecDepth 20000 in
theorem gpL_act_X5_place_2 : GoodIn wsL_act wsX5_place_r3 := goodIn_r _ [176, 177, 178, 179, 180, 181, 182, 183, 75, 184, 82, 185, 186, 187, 188, 108, 122, 189, 190, 191, 192, 137, 193, 194] (by decide +kernel) (by decide +kernel)
set_option maxRecDepth 20000 in
theorem gpL_act_X5_place_3 : GoodIn wsL_act wsX5_place_r4 := goodIn_r _ [195, 196, 45, 197, 198, 73, 74, 76, 77] (by decide +kernel) (by decide +kernel)
set_option maxRecDepth 20000 in
theorem gpL_act_X5_place_wsX50 : GoodIn wsL_act wsX50 := goodIn_r _ [223, 224] (by decide +kernel) (by decide +kernel)
set_option maxRecDepth 20000 in
theorem gpL_act_X5_place_wsX00 : GoodIn wsL_act wsX00 := goodIn_r _ [225, 226, 227, 228, 229, 230, 231, 232, 233, 234, 235, 236] (by decide +kernel) (by decide +kernel)
set_option maxRecDepth 20000 in
theorem gpL_act_X5_place_wsX30 : GoodIn wsL_act wsX30 := goodIn_r _ [244, 245, 246, 247] (by decide +kernel) (by decide +kernel)
set_option maxRecDepth 20000 in
theorem gpL_act_X5_place_wsX10 : GoodIn wsL_act wsX10 := goodIn_r _ [240, 241, 242, 243] (by decide +kernel) (by decide +kernel)
set_option maxRecDepth 20000 in
theorem gpL_act_X5_place_wsX40 : GoodIn wsL_act wsX40 := goodIn_r _ [237, 238, 239] (by decide +kernel) (by decide +kernel)
set_option maxRecDepth 20000 in
theorem gpL_act_X5_place_wsX20 : GoodIn wsL_act wsX20 := goodIn_r _ [248, 249, 250, 251, 252] (by decide +kernel) (by decide +kernel)
set_option maxRecDepth 20000 in
theorem ggL_act_X5_place : GoodIn wsL_act wsX5_place := goodIn_ca (goodIn_ca (goodIn_ca (goodIn_ca (goodIn_ca (goodIn_ca (goodIn_ca (goodIn_ca (goodIn_ca gpL_act_X5_place_0 (goodIn_app gpL_act_X5_place_1 (goodIn_app gpL_act_X5_place_2 gpL_act_X5_place_3))) gpL_act_X5_place_wsX50) gpL_act_X5_place_wsX00) gpL_act_X5_place_wsX30) gpL_act_X5_place_wsX10) gpL_act_X5_place_wsX40) gpL_act_X5_place_wsX20) (goodIn_sub (fun _ h => List.mem_cons_of_mem _ (List.mem_append_left _ (List.mem_append_left _ (List.mem_append_right _ h)))) (by decide +kernel))) (goodIn_sub (fun _ h => List.mem_cons_of_mem _ (List.mem_append_right _ h)) (by decide +kernel))
set_option maxRecDepth 20000 in
theorem gL_act_X5_place : GoodIn wsL_act (wsV RL 84 RX5 yX5_place wsX5_place) := goodIn_app (goodIn_of _ (by decide +kernel)) ggL_act_X5_place
set_option maxRecDepth 20000 in
theorem ggL_act_X6_makes : GoodIn wsL_act wsX6_makes := goodIn_r _ [202, 203, 204, 205, 206, 207, 49, 208, 209, 210, 211, 212, 213, 214, 215, 216, 217, 218, 219, 220, 221, 222] (by decide +kernel) (by decide +kernel)
set_option maxRecDepth 20000 in
theorem gL_act_X6_makes : GoodIn wsL_act (wsV RL 87 RX6 yX6_makes wsX6_makes) := goodIn_app (goodIn_of _ (by decide +kernel)) ggL_act_X6_makes
end
section
set_option maxRecDepth 20000 in
theorem ggL_build_X6_init : GoodIn wsL_build wsX6_init := goodIn_r _ [5, 6, 7, 8, 9, 10, 11, 12, 13, 14, 15, 16, 17, 18, 19, 20, 337, 338, 339, 340, 341, 342, 343, 344, 345, 346, 347, 348] (by decide +kernel) (by decide +kernel)
set_option maxRecDepth 20000 in
theorem gL_build_X6_init_n91 : GoodIn wsL_build (wsX6_init) := ggL_build_X6_init
set_option maxRecDepth 20000 in
theorem ggL_build_L_cell : GoodIn wsL_build wsL_cell := goodIn_r _ [24, 25] (by decide +kernel) (by decide +kernel)
set_option maxRecDepth 20000 in
theorem gL_build_L_cell : GoodIn wsL_build (va_wsS RL 92 yL_cell wsL_cell) := goodIn_app (goodIn_of _ (by decide +kernel)) ggL_build_L_cell
set_option maxRecDepth 20000 in
set_option maxHeartbeats 4000000 in
theorem gpL_build_L_act_0 : GoodIn wsL_build (.code yL_act cL_act 22 (some .boolean) :: wsL_act_r1) := by
  show ∀ w ∈ ([_, _, _, _, _, _, _, _, _, _, _, _, _, _, _, _, _, _, _, _, _, _, _, _, _] : List Cond), _
  exact List.forall_mem_cons.mpr ⟨⟨List.mem_of_getElem? (i := 28) rfl, good_of_word rfl⟩, List.forall_mem_cons.mpr ⟨⟨List.mem_of_getElem? (i := 29) rfl, good_of_word rfl⟩, List.forall_mem_cons.mpr ⟨⟨List.mem_of_getElem? (i := 30) rfl, good_of_word rfl⟩, List.forall_mem_cons.mpr ⟨⟨List.mem_of_getElem? (i := 31) rfl, good_of_word rfl⟩, List.forall_mem_cons.mpr ⟨⟨List.mem_of_getElem? (i := 32) rfl, good_of_word rfl⟩, List.forall_mem_cons.mpr ⟨⟨List.mem_of_getElem? (i := 33) rfl, good_of_word rfl⟩, List.forall_mem_cons.mpr ⟨⟨List.mem_of_getElem? (i := 34) rfl, good_of_word rfl⟩, List.forall_mem_cons.mpr ⟨⟨List.mem_of_getElem? (i := 35) rfl, good_of_word rfl⟩, List.forall_mem_cons.mpr ⟨⟨List.mem_of_getElem? (i := 11) rfl, good_of_word rfl⟩, List.forall_mem_cons.mpr ⟨⟨List.mem_of_getElem? (i := 36) rfl, good_of_word rfl⟩, List.forall_mem_cons.mpr ⟨⟨List.mem_of_getElem? (i := 37) rfl, good_of_word rfl⟩, List.forall_mem_cons.mpr ⟨⟨List.mem_of_getElem? (i := 38) rfl, good_of_word rfl⟩, List.forall_mem_cons.mpr ⟨⟨List.mem_of_getElem? (i := 39) rfl, good_of_word rfl⟩, List.forall_mem_cons.mpr ⟨⟨List.mem_of_getElem? (i := 40) rfl, good_of_word rfl⟩, List.forall_mem_cons.mpr ⟨⟨List.mem_of_getElem? (i := 41) rfl, good_of_word rfl⟩, List.forall_mem_cons.mpr ⟨⟨List.mem_of_getElem? (i := 42) rfl, good_of_word rfl⟩, List.forall_mem_cons.mpr ⟨⟨List.mem_of_getElem? (i := 43) rfl, good_of_word rfl⟩, List.forall_mem_cons.mpr ⟨⟨List.mem_of_getElem? (i := 44) rfl, good_of_word rfl⟩, List.forall_mem_cons.mpr ⟨⟨List.mem_of_getElem? (i := 23) rfl, good_of_word rfl⟩, List.forall_mem_cons.mpr ⟨⟨List.mem_of_getElem? (i := 45) rfl, good_of_word rfl⟩, List.forall_mem_cons.mpr ⟨⟨List.mem_of_getElem? (i := 46) rfl, good_of_word rfl⟩, List.forall_mem_cons.mpr ⟨⟨List.mem_of_getElem? (i := 47) rfl, good_of_word rfl⟩, List.forall_mem_cons.mpr ⟨⟨List.mem_of_getElem? (i := 48) rfl, good_of_word rfl⟩, List.forall_mem_cons.mpr ⟨⟨List.mem_of_getElem? (i := 49) rfl, good_of_word rfl⟩, List.forall_mem_cons.mpr ⟨⟨List.mem_of_getElem? (i := 50) rfl, good_of_word rfl⟩, fun _ h => absurd h List.not_mem_nil⟩⟩⟩⟩⟩⟩⟩⟩⟩⟩⟩⟩⟩⟩⟩⟩⟩⟩⟩⟩⟩⟩⟩⟩⟩
set_option maxRecDepth 20000 in
theorem gpL_build_L_act_1 : GoodIn wsL_build wsL_act_r2 := goodIn_r _ [51, 52, 53, 54, 55, 56, 57, 58, 59, 60, 61, 62, 63, 64, 65, 66, 67, 68, 69, 70, 71, 72, 73, 74] (by decide +kernel) (by decide +kernel)
set_option maxRecDepth 20000 in
theorem gpL_build_L_act_2 : GoodIn wsL_build wsL_act_r3 := goodIn_r _ [3, 75, 76, 77, 78, 79, 80, 81, 82, 83, 84, 85, 86, 87, 88, 89, 90, 91, 92, 93, 94, 95, 96, 97] (by decide +kernel) (by decide +kernel)
set_option maxRecDepth 20000 in
theorem gpL_build_L_act_3 : GoodIn wsL_build wsL_act_r4 := goodIn_r _ [98, 99, 100, 101, 102, 103, 104, 105, 106, 107, 108, 109, 110, 111, 112, 113, 114, 115, 116, 117, 118, 119, 120, 14] (by decide +kernel) (by decide +kernel)
set_option maxRecDepth 20000 in
theorem gpL_build_L_act_4 : GoodIn wsL_build wsL_act_r5 := goodIn_r _ [121, 122, 123, 124, 125, 126, 127, 128, 129, 130, 131, 132, 133, 134, 135, 136, 137, 138, 139, 140, 141, 142, 143, 144] (by decide +kernel) (by decide +kernel)
set_option maxRecDepth 20000 in
theorem gpL_build_L_act_5 : GoodIn wsL_build wsL_act_r6 := goodIn_r _ [145, 146, 147, 148, 149, 150, 151, 152, 153, 154, 155, 156, 157, 158, 159, 160, 161, 162, 163, 164, 165, 166, 167, 168] (by decide +kernel) (by decide +kernel)
set_option maxRecDepth 20000 in
theorem gpL_build_L_act_6 : GoodIn wsL_build wsL_act_r7 := goodIn_r _ [169, 170, 171, 172, 173, 174, 175, 176, 177, 178, 179, 180, 181, 182, 183, 184, 185, 186, 187, 188, 189, 190, 191, 192] (by decide +kernel) (by decide +kernel)
set_option maxRecDepth 20000 in
theorem gpL_build_L_act_7 : GoodIn wsL_build wsL_act_r8 := goodIn_r _ [193, 194, 195, 196, 197, 198, 199, 200, 201, 202, 203, 204, 205, 206, 207, 208, 209, 210, 211, 212, 213, 214, 215, 216] (by decide +kernel) (by decide +kernel)
set_option maxRecDepth 20000 in
theorem gpL_build_L_act_8 : GoodIn wsL_build wsL_act_r9 := goodIn_r _ [217, 218, 219, 220, 221, 222, 223, 224, 225, 226, 15, 16, 227, 228, 229, 230, 10, 18] (by decide +kernel) (by decide +kernel)
set_option maxRecDepth 20000 in
theorem gpL_build_L_act_wsX60 : GoodIn wsL_build wsX60 := goodIn_r _ [337, 338, 339, 340, 341, 342, 343, 344, 345, 346, 347, 348] (by decide +kernel) (by decide +kernel)
set_option maxRecDepth 20000 in
theorem gpL_build_L_act_wsX50 : GoodIn wsL_build wsX50 := goodIn_r _ [349, 350] (by decide +kernel) (by decide +kernel)
set_option maxRecDepth 20000 in
theorem gpL_build_L_act_wsX00 : GoodIn wsL_build wsX00 := goodIn_r _ [351, 352, 353, 354, 355, 356, 357, 358, 359, 360, 361, 362] (by decide +kernel) (by decide +kernel)
set_option maxRecDepth 20000 in
theorem gpL_build_L_act_wsX40 : GoodIn wsL_build wsX40 := goodIn_r _ [363, 364, 365] (by decide +kernel) (by decide +kernel)
set_option maxRecDepth 20000 in
theorem gpL_build_L_act_wsX10 : GoodIn wsL_build wsX10 := goodIn_r _ [366, 367, 368, 369] (by decide +kernel) (by decide +kernel)
set_option maxRecDepth 20000 in
theorem gpL_build_L_act_wsX30 : GoodIn wsL_build wsX30 := goodIn_r _ [370, 371, 372, 373] (by decide +kernel) (by decide +kernel)
set_option maxRecDepth 20000 in
theorem gpL_build_L_act_wsX20 : GoodIn wsL_build wsX20 := goodIn_r _ [374, 375, 376, 377, 378] (by decide +kernel) (by decide +kernel)
set_option maxRecDepth 20000 in
theorem ggL_build_L_act : GoodIn wsL_build wsL_act := goodIn_ca (goodIn_ca (goodIn_ca (goodIn_ca (goodIn_ca (goodIn_ca (goodIn_ca (goodIn_ca (goodIn_ca (goodIn_ca (goodIn_ca gpL_build_L_act_0 (goodIn_app gpL_build_L_act_1 (goodIn_app gpL_build_L_act_2 (goodIn_app gpL_build_L_act_3 (goodIn_app gpL_build_L_act_4 (goodIn_app gpL_build_L_act_5 (goodIn_app gpL_build_L_act_6 (goodIn_app gpL_build_L_act_7 gpL_build_L_act_8)))))))) gpL_build_L_act_wsX60) gpL_build_L_act_wsX50) gpL_build_L_act_wsX00) gpL_build_L_act_wsX40) gpL_build_L_act_wsX10) gpL_build_L_act_wsX30) gpL_build_L_act_wsX20) (goodIn_sub (fun _ h => List.mem_cons_of_mem _ (List.mem_append_left _ (List.mem_append_left _ (List.mem_append_right _ h)))) (by decide +kernel))) (goodIn_sub (fun _ h => List.mem_cons_of_mem _ (List.mem_append_left _ (List.mem_append_right _ h))) (by decide +kernel))) (goodIn_sub (fun _ h => List.mem_cons_of_mem _ (List.mem_append_right _ h)) (by decide +kernel))
set_option maxRecDepth 20000 in
theorem gL_build_L_act : GoodIn wsL_build (va_wsS RL 96 yL_act wsL_act) := goodIn_app (goodIn_of _ (by decide +kernel)) ggL_build_L_act
set_option maxRecDepth 20000 in
theorem gpL_build_X5_pass_0 : GoodIn wsL_build (.code yX5_pass cX5_pass 3 (some .int) :: wsX5_pass_r1) := goodIn_r _ [234, 54, 55, 59, 63, 64, 50, 65, 235, 236, 237, 69, 238, 239, 240, 241, 242, 194, 243, 244, 193, 245, 246, 247, 248] (by decide +kernel) (by decide +kernel)
set_option maxRecDepth 20000 in
theorem gpL_build_X5_pass_1 : GoodIn wsL_build wsX5_pass_r2 := goodIn_r _ [249, 250, 251, 100, 252, 102, 107, 253, 197, 198, 199, 254, 255, 256, 257, 258, 259, 260, 261, 221, 195, 262, 263, 264] (by decide +kernel) (by decide +kernel)
set_option maxRecDepth 20000 in
theorem gpL_build_X5_pass_2 : GoodIn wsL_build wsX5_pass_r3 := goodIn_r _ [190, 191, 192, 196, 200, 201, 202, 158, 203, 162, 184, 173, 174, 175, 160, 204, 181, 182, 183, 163, 205, 206, 207, 208] (by decide +kernel) (by decide +kernel)
set_option maxRecDepth 20000 in
theorem gpL_build_X5_pass_3 : GoodIn wsL_build wsX5_pass_r4 := goodIn_r _ [61, 62, 209, 210, 211, 128, 212, 132, 146, 139, 140, 141, 130, 213, 214, 215, 216, 161, 217, 218, 219, 220, 71, 222] (by decide +kernel) (by decide +kernel)
set_option maxRecDepth 20000 in
theorem gpL_build_X5_pass_4 : GoodIn wsL_build wsX5_pass_r5 := goodIn_r _ [98, 99, 101, 265, 266, 267, 268, 269, 270, 271, 272, 108, 273, 274, 275, 276, 143, 144, 145, 133, 277, 278, 279, 280] (by decide +kernel) (by decide +kernel)
set_option maxRecDepth 20000 in
theorem gpL_build_X5_pass_5 : GoodIn wsL_build wsX5_pass_r6 := goodIn_r _ [131, 281, 282, 283, 284, 285, 286, 287, 288, 289, 290, 86, 87, 88, 60, 291, 114, 115, 116, 117, 104, 105, 106, 292] (by decide +kernel) (by decide +kernel)
set_option maxRecDepth 20000 in
theorem gpL_build_X5_pass_6 : GoodIn wsL_build wsX5_pass_r7 := goodIn_r _ [293, 294, 295, 296, 297, 298, 299, 300, 301, 302, 303, 304, 305, 306, 307, 308, 309, 310, 311, 312, 313, 314, 315, 316] (by decide +kernel) (by decide +kernel)
set_option maxRecDepth 20000 in
theorem gpL_build_X5_pass_7 : GoodIn wsL_build wsX5_pass_r8 := goodIn_r _ [317, 90, 91, 92, 84, 318, 319, 320, 321, 322, 323, 324, 325] (by decide +kernel) (by decide +kernel)
set_option maxRecDepth 20000 in
theorem gpL_build_X5_pass_wsX50 : GoodIn wsL_build wsX50 := goodIn_r _ [349, 350] (by decide +kernel) (by decide +kernel)
set_option maxRecDepth 20000 in
theorem gpL_build_X5_pass_wsX00 : GoodIn wsL_build wsX00 := goodIn_r _ [351, 352, 353, 354, 355, 356, 357, 358, 359, 360, 361, 362] (by decide +kernel) (by decide +kernel)
set_option maxRecDepth 20000 in
theorem gpL_build_X5_pass_wsX30 : GoodIn wsL_build wsX30 := goodIn_r _ [370, 371, 372, 373] (by decide +kernel) (by decide +kernel)
set_option maxRecDepth 20000 in
theorem gpL_build_X5_pass_wsX40 : GoodIn wsL_build wsX40 := goodIn_r _ [363, 364, 365] (by decide +kernel) (by decide +kernel)
set_option maxRecDepth 20000 in
theorem gpL_build_X5_pass_wsX10 : GoodIn wsL_build wsX10 := goodIn_r _ [366, 367, 368, 369] (by decide +kernel) (by decide +kernel)
set_option maxRecDepth 20000 in
theorem gpL_build_X5_pass_wsX20 : GoodIn wsL_build wsX20 := goodIn_r _ [374, 375, 376, 377, 378] (by decide +kernel) (by decide +kernel)
set_option maxRecDepth 20000 in
theorem ggL_build_X5_pass : GoodIn wsL_build wsX5_pass := goodIn_ca (goodIn_ca (goodIn_ca (goodIn_ca (goodIn_ca (goodIn_ca (goodIn_ca (goodIn_ca gpL_build_X5_pass_0 (goodIn_app gpL_build_X5_pass_1 (goodIn_app gpL_build_X5_pass_2 (goodIn_app gpL_build_X5_pass_3 (goodIn_app gpL_build_X5_pass_4 (goodIn_app gpL_build_X5_pass_5 (goodIn_app gpL_build_X5_pass_6 gpL_build_X5_pass_7))))))) gpL_build_X5_pass_wsX50) gpL_build_X5_pass_wsX00) gpL_build_X5_pass_wsX30) gpL_build_X5_pass_wsX40) gpL_build_X5_pass_wsX10) gpL_build_X5_pass_wsX20) (goodIn_sub (fun _ h => List.mem_cons_of_mem _ (List.mem_append_left _ (List.mem_append_right _ h))) (by decide +kernel))
set_option maxRecDepth 20000 in
theorem gL_build_X5_pass : GoodIn wsL_build (wsV RL 100 RX5 yX5_pass wsX5_pass) := goodIn_app (goodIn_of _ (by decide +kernel)) ggL_build_X5_pass
set_option maxRecDepth 20000 in
set_option maxHeartbeats 4000000 in
theorem gpL_build_X6_pass_0 : GoodIn wsL_build (.code yX6_pass cX6_pass 12 (some .int) :: wsX6_pass_r1) := by
  show ∀ w ∈ ([_, _, _, _, _, _, _, _, _, _, _, _, _, _, _, _, _, _, _, _, _, _, _, _, _] : List Cond), _
  exact List.forall_mem_cons.mpr ⟨⟨List.mem_of_getElem? (i := 329) rfl, good_of_word rfl⟩, List.forall_mem_cons.mpr ⟨⟨List.mem_of_getElem? (i := 15) rfl, good_of_word rfl⟩, List.forall_mem_cons.mpr ⟨⟨List.mem_of_getElem? (i := 12) rfl, good_of_word rfl⟩, List.forall_mem_cons.mpr ⟨⟨List.mem_of_getElem? (i := 330) rfl, good_of_word rfl⟩, List.forall_mem_cons.mpr ⟨⟨List.mem_of_getElem? (i := 331) rfl, good_of_word rfl⟩, List.forall_mem_cons.mpr ⟨⟨List.mem_of_getElem? (i := 197) rfl, good_of_word rfl⟩, List.forall_mem_cons.mpr ⟨⟨List.mem_of_getElem? (i := 198) rfl, good_of_word rfl⟩, List.forall_mem_cons.mpr ⟨⟨List.mem_of_getElem? (i := 199) rfl, good_of_word rfl⟩, List.forall_mem_cons.mpr ⟨⟨List.mem_of_getElem? (i := 17) rfl, good_of_word rfl⟩, List.forall_mem_cons.mpr ⟨⟨List.mem_of_getElem? (i := 16) rfl, good_of_word rfl⟩, List.forall_mem_cons.mpr ⟨⟨List.mem_of_getElem? (i := 18) rfl, good_of_word rfl⟩, List.forall_mem_cons.mpr ⟨⟨List.mem_of_getElem? (i := 11) rfl, good_of_word rfl⟩, List.forall_mem_cons.mpr ⟨⟨List.mem_of_getElem? (i := 332) rfl, good_of_word rfl⟩, List.forall_mem_cons.mpr ⟨⟨List.mem_of_getElem? (i := 333) rfl, good_of_word rfl⟩, List.forall_mem_cons.mpr ⟨⟨List.mem_of_getElem? (i := 20) rfl, good_of_word rfl⟩, List.forall_mem_cons.mpr ⟨⟨List.mem_of_getElem? (i := 14) rfl, good_of_word rfl⟩, List.forall_mem_cons.mpr ⟨⟨List.mem_of_getElem? (i := 334) rfl, good_of_word rfl⟩, List.forall_mem_cons.mpr ⟨⟨List.mem_of_getElem? (i := 224) rfl, good_of_word rfl⟩, List.forall_mem_cons.mpr ⟨⟨List.mem_of_getElem? (i := 225) rfl, good_of_word rfl⟩, List.forall_mem_cons.mpr ⟨⟨List.mem_of_getElem? (i := 3) rfl, good_of_word rfl⟩, List.forall_mem_cons.mpr ⟨⟨List.mem_of_getElem? (i := 226) rfl, good_of_word rfl⟩, List.forall_mem_cons.mpr ⟨⟨List.mem_of_getElem? (i := 227) rfl, good_of_word rfl⟩, List.forall_mem_cons.mpr ⟨⟨List.mem_of_getElem? (i := 228) rfl, good_of_word rfl⟩, List.forall_mem_cons.mpr ⟨⟨List.mem_of_getElem? (i := 229) rfl, good_of_word rfl⟩, List.forall_mem_cons.mpr ⟨⟨List.mem_of_getElem? (i := 230) rfl, good_of_word rfl⟩, fun _ h => absurd h List.not_mem_nil⟩⟩⟩⟩⟩⟩⟩⟩⟩⟩⟩⟩⟩⟩⟩⟩⟩⟩⟩⟩⟩⟩⟩⟩⟩
set_option maxRecDepth 20000 in
theorem gpL_build_X6_pass_1 : GoodIn wsL_build wsX6_pass_r2 := goodIn_r _ [10, 335, 119, 120, 336, 74, 75] (by decide +kernel) (by decide +kernel)
set_option maxRecDepth 20000 in
theorem gpL_build_X6_pass_wsX60 : GoodIn wsL_build wsX60 := goodIn_r _ [337, 338, 339, 340, 341, 342, 343, 344, 345, 346, 347, 348] (by decide +kernel) (by decide +kernel)
set_option maxRecDepth 20000 in
theorem ggL_build_X6_pass : GoodIn wsL_build wsX6_pass := (goodIn_ca (goodIn_ca gpL_build_X6_pass_0 gpL_build_X6_pass_1) gpL_build_X6_pass_wsX60)
set_option maxRecDepth 20000 in
theorem gL_build_X6_pass : GoodIn wsL_build (wsV RL 103 RX6 yX6_pass wsX6_pass) := goodIn_app (goodIn_of _ (by decide +kernel)) ggL_build_X6_pass
end
section
set_option maxRecDepth 20000 in
theorem gpL_law_X5_init_0 : GoodIn wsL_law (.code yX5_init cX5_init 1 none :: wsX5_init_r1) := goodIn_r _ [14, 15, 16, 17, 18, 19, 20, 21, 22, 23, 24, 25, 26, 27, 28, 29, 30, 31, 4, 32, 33, 34, 35, 36, 37] (by decide +kernel) (by decide +kernel)
set_option maxRecDepth 20000 in
theorem gpL_law_X5_init_1 : GoodIn wsL_law wsX5_init_r2 := goodIn_r _ [38, 39, 40, 41, 42, 43, 44, 45, 46, 47, 48, 49, 50, 51, 52, 53, 54, 55, 56, 57, 58, 59, 60, 61] (by decide +kernel) (by decide +kernel)
set_option maxRecDepth 20000 in
theorem gpL_law_X5_init_2 : GoodIn wsL_law wsX5_init_r3 := goodIn_r _ [62, 63, 64, 65, 66, 67, 68, 69, 70, 71, 72, 73, 74, 75, 76, 77, 78, 79, 80, 81, 82, 83, 84] (by decide +kernel) (by decide +kernel)
set_option maxRecDepth 20000 in
theorem gpL_law_X5_init_wsX00 : GoodIn wsL_law wsX00 := goodIn_r _ [513, 514, 515, 516, 517, 518, 519, 520, 521, 522, 523, 524] (by decide +kernel) (by decide +kernel)
set_option maxRecDepth 20000 in
theorem gpL_law_X5_init_wsX50 : GoodIn wsL_law wsX50 := goodIn_r _ [499, 500] (by decide +kernel) (by decide +kernel)
set_option maxRecDepth 20000 in
theorem gpL_law_X5_init_wsX40 : GoodIn wsL_law wsX40 := goodIn_r _ [525, 526, 527] (by decide +kernel) (by decide +kernel)
set_option maxRecDepth 20000 in
theorem gpL_law_X5_init_wsX10 : GoodIn wsL_law wsX10 := goodIn_r _ [528, 529, 530, 531] (by decide +kernel) (by decide +kernel)
set_option maxRecDepth 20000 in
theorem gpL_law_X5_init_wsX30 : GoodIn wsL_law wsX30 := goodIn_r _ [532, 533, 534, 535] (by decide +kernel) (by decide +kernel)
set_option maxRecDepth 20000 in
theorem gpL_law_X5_init_wsX20 : GoodIn wsL_law wsX20 := goodIn_r _ [536, 537, 538, 539, 540] (by decide +kernel) (by decide +kernel)
set_option maxRecDepth 20000 in
theorem ggL_law_X5_init : GoodIn wsL_law wsX5_init := (goodIn_ca (goodIn_ca (goodIn_ca (goodIn_ca (goodIn_ca (goodIn_ca (goodIn_ca gpL_law_X5_init_0 (goodIn_app gpL_law_X5_init_1 gpL_law_X5_init_2)) gpL_law_X5_init_wsX00) gpL_law_X5_init_wsX50) gpL_law_X5_init_wsX40) gpL_law_X5_init_wsX10) gpL_law_X5_init_wsX30) gpL_law_X5_init_wsX20)
set_option maxRecDepth 20000 in
theorem gL_law_X5_init : GoodIn wsL_law (wsX5_init) := ggL_law_X5_init
set_option maxRecDepth 20000 in
set_option maxHeartbeats 4000000 in
theorem gpL_law_L_build_0 : GoodIn wsL_law (.code yL_build cL_build 4 (some (.object "RagVatsLaw$Sim")) :: wsL_build_r1) := by
  show ∀ w ∈ ([_, _, _, _, _, _, _, _, _, _, _, _, _, _, _, _, _, _, _, _, _, _, _, _, _] : List Cond), _
  exact List.forall_mem_cons.mpr ⟨⟨List.mem_of_getElem? (i := 88) rfl, good_of_word rfl⟩, List.forall_mem_cons.mpr ⟨⟨List.mem_of_getElem? (i := 89) rfl, good_of_word rfl⟩, List.forall_mem_cons.mpr ⟨⟨List.mem_of_getElem? (i := 90) rfl, good_of_word rfl⟩, List.forall_mem_cons.mpr ⟨⟨List.mem_of_getElem? (i := 91) rfl, good_of_word rfl⟩, List.forall_mem_cons.mpr ⟨⟨List.mem_of_getElem? (i := 92) rfl, good_of_word rfl⟩, List.forall_mem_cons.mpr ⟨⟨List.mem_of_getElem? (i := 93) rfl, good_of_word rfl⟩, List.forall_mem_cons.mpr ⟨⟨List.mem_of_getElem? (i := 94) rfl, good_of_word rfl⟩, List.forall_mem_cons.mpr ⟨⟨List.mem_of_getElem? (i := 16) rfl, good_of_word rfl⟩, List.forall_mem_cons.mpr ⟨⟨List.mem_of_getElem? (i := 17) rfl, good_of_word rfl⟩, List.forall_mem_cons.mpr ⟨⟨List.mem_of_getElem? (i := 95) rfl, good_of_word rfl⟩, List.forall_mem_cons.mpr ⟨⟨List.mem_of_getElem? (i := 96) rfl, good_of_word rfl⟩, List.forall_mem_cons.mpr ⟨⟨List.mem_of_getElem? (i := 4) rfl, good_of_word rfl⟩, List.forall_mem_cons.mpr ⟨⟨List.mem_of_getElem? (i := 97) rfl, good_of_word rfl⟩, List.forall_mem_cons.mpr ⟨⟨List.mem_of_getElem? (i := 98) rfl, good_of_word rfl⟩, List.forall_mem_cons.mpr ⟨⟨List.mem_of_getElem? (i := 99) rfl, good_of_word rfl⟩, List.forall_mem_cons.mpr ⟨⟨List.mem_of_getElem? (i := 100) rfl, good_of_word rfl⟩, List.forall_mem_cons.mpr ⟨⟨List.mem_of_getElem? (i := 101) rfl, good_of_word rfl⟩, List.forall_mem_cons.mpr ⟨⟨List.mem_of_getElem? (i := 102) rfl, good_of_word rfl⟩, List.forall_mem_cons.mpr ⟨⟨List.mem_of_getElem? (i := 103) rfl, good_of_word rfl⟩, List.forall_mem_cons.mpr ⟨⟨List.mem_of_getElem? (i := 104) rfl, good_of_word rfl⟩, List.forall_mem_cons.mpr ⟨⟨List.mem_of_getElem? (i := 105) rfl, good_of_word rfl⟩, List.forall_mem_cons.mpr ⟨⟨List.mem_of_getElem? (i := 106) rfl, good_of_word rfl⟩, List.forall_mem_cons.mpr ⟨⟨List.mem_of_getElem? (i := 107) rfl, good_of_word rfl⟩, List.forall_mem_cons.mpr ⟨⟨List.mem_of_getElem? (i := 87) rfl, good_of_word rfl⟩, List.forall_mem_cons.mpr ⟨⟨List.mem_of_getElem? (i := 108) rfl, good_of_word rfl⟩, fun _ h => absurd h List.not_mem_nil⟩⟩⟩⟩⟩⟩⟩⟩⟩⟩⟩⟩⟩⟩⟩⟩⟩⟩⟩⟩⟩⟩⟩⟩⟩
set_option maxRecDepth 20000 in
set_option maxHeartbeats 4000000 in
theorem gpL_law_L_build_1 : GoodIn wsL_law wsL_build_r2 := by
  show ∀ w ∈ ([_, _, _, _, _, _, _, _, _, _, _, _, _, _, _, _, _, _, _, _, _, _, _, _] : List Cond), _
  exact List.forall_mem_cons.mpr ⟨⟨List.mem_of_getElem? (i := 109) rfl, good_of_word rfl⟩, List.forall_mem_cons.mpr ⟨⟨List.mem_of_getElem? (i := 110) rfl, good_of_word rfl⟩, List.forall_mem_cons.mpr ⟨⟨List.mem_of_getElem? (i := 111) rfl, good_of_word rfl⟩, List.forall_mem_cons.mpr ⟨⟨List.mem_of_getElem? (i := 112) rfl, good_of_word rfl⟩, List.forall_mem_cons.mpr ⟨⟨List.mem_of_getElem? (i := 10) rfl, good_of_word rfl⟩, List.forall_mem_cons.mpr ⟨⟨List.mem_of_getElem? (i := 11) rfl, good_of_word rfl⟩, List.forall_mem_cons.mpr ⟨⟨List.mem_of_getElem? (i := 113) rfl, good_of_word rfl⟩, List.forall_mem_cons.mpr ⟨⟨List.mem_of_getElem? (i := 114) rfl, good_of_word rfl⟩, List.forall_mem_cons.mpr ⟨⟨List.mem_of_getElem? (i := 115) rfl, good_of_word rfl⟩, List.forall_mem_cons.mpr ⟨⟨List.mem_of_getElem? (i := 116) rfl, good_of_word rfl⟩, List.forall_mem_cons.mpr ⟨⟨List.mem_of_getElem? (i := 117) rfl, good_of_word rfl⟩, List.forall_mem_cons.mpr ⟨⟨List.mem_of_getElem? (i := 5) rfl, good_of_word rfl⟩, List.forall_mem_cons.mpr ⟨⟨List.mem_of_getElem? (i := 118) rfl, good_of_word rfl⟩, List.forall_mem_cons.mpr ⟨⟨List.mem_of_getElem? (i := 119) rfl, good_of_word rfl⟩, List.forall_mem_cons.mpr ⟨⟨List.mem_of_getElem? (i := 120) rfl, good_of_word rfl⟩, List.forall_mem_cons.mpr ⟨⟨List.mem_of_getElem? (i := 121) rfl, good_of_word rfl⟩, List.forall_mem_cons.mpr ⟨⟨List.mem_of_getElem? (i := 122) rfl, good_of_word rfl⟩, List.forall_mem_cons.mpr ⟨⟨List.mem_of_getElem? (i := 123) rfl, good_of_word rfl⟩, List.forall_mem_cons.mpr ⟨⟨List.mem_of_getElem? (i := 124) rfl, good_of_word rfl⟩, List.forall_mem_cons.mpr ⟨⟨List.mem_of_getElem? (i := 125) rfl, good_of_word rfl⟩, List.forall_mem_cons.mpr ⟨⟨List.mem_of_getElem? (i := 126) rfl, good_of_word rfl⟩, List.forall_mem_cons.mpr ⟨⟨List.mem_of_getElem? (i := 127) rfl, good_of_word rfl⟩, List.forall_mem_cons.mpr ⟨⟨List.mem_of_getElem? (i := 128) rfl, good_of_word rfl⟩, List.forall_mem_cons.mpr ⟨⟨List.mem_of_getElem? (i := 129) rfl, good_of_word rfl⟩, fun _ h => absurd h List.not_mem_nil⟩⟩⟩⟩⟩⟩⟩⟩⟩⟩⟩⟩⟩⟩⟩⟩⟩⟩⟩⟩⟩⟩⟩⟩
set_option maxRecDepth 20000 in
theorem gpL_law_L_build_2 : GoodIn wsL_law wsL_build_r3 := goodIn_r _ [130, 2, 131, 132, 133, 134, 135, 136, 137, 138, 21, 139, 140, 141, 142, 143, 144, 145, 146, 147, 20, 148, 29, 32] (by decide +kernel) (by decide +kernel)
set_option maxRecDepth 20000 in
theorem gpL_law_L_build_3 : GoodIn wsL_law wsL_build_r4 := goodIn_r _ [149, 150, 151, 152, 153, 154, 155, 156, 157, 158, 159, 50, 160, 161, 162, 163, 164, 165, 166, 167, 168, 169, 170, 171] (by decide +kernel) (by decide +kernel)
set_option maxRecDepth 20000 in
theorem gpL_law_L_build_4 : GoodIn wsL_law wsL_build_r5 := goodIn_r _ [172, 173, 174, 36, 175, 55, 176, 177, 178, 179, 56, 57, 180, 181, 182, 183, 184, 185, 186, 187, 188, 189, 190, 191] (by decide +kernel) (by decide +kernel)
set_option maxRecDepth 20000 in
theorem gpL_law_L_build_5 : GoodIn wsL_law wsL_build_r6 := goodIn_r _ [192, 193, 194, 195, 196, 197, 198, 40, 199, 65, 66, 67, 68, 200, 201, 202, 203, 204, 205, 206, 207, 208, 209, 210] (by decide +kernel) (by decide +kernel)
set_option maxRecDepth 20000 in
theorem gpL_law_L_build_6 : GoodIn wsL_law wsL_build_r7 := goodIn_r _ [211, 212, 213, 214, 215, 216, 217, 218, 219, 220, 221, 222, 223, 44, 224, 72, 73, 74, 75, 225, 226, 227, 228, 229] (by decide +kernel) (by decide +kernel)
set_option maxRecDepth 20000 in
theorem gpL_law_L_build_7 : GoodIn wsL_law wsL_build_r8 := goodIn_r _ [230, 231, 232, 233, 234, 235, 236, 237, 238, 239, 240, 241, 242, 243, 244, 245, 246, 247, 248, 249, 250, 251, 252, 253] (by decide +kernel) (by decide +kernel)
set_option maxRecDepth 20000 in
theorem gpL_law_L_build_8 : GoodIn wsL_law wsL_build_r9 := goodIn_r _ [45, 37, 41, 254, 7, 8, 9, 255, 256, 257, 258, 259, 260, 261, 262, 263, 264, 265, 266, 267, 268, 269, 270, 271] (by decide +kernel) (by decide +kernel)
set_option maxRecDepth 20000 in
theorem gpL_law_L_build_9 : GoodIn wsL_law wsL_build_r10 := goodIn_r _ [272, 273, 274, 275, 49, 276, 277, 278, 279, 280, 281, 282, 283, 284, 285, 286, 287, 288, 289, 290, 291, 292, 293, 294] (by decide +kernel) (by decide +kernel)
set_option maxRecDepth 20000 in
theorem gpL_law_L_build_10 : GoodIn wsL_law wsL_build_r11 := goodIn_r _ [295, 296, 33, 27, 297, 298, 299, 300, 301, 302, 303, 304, 305, 306, 307, 308, 309, 310, 311, 312, 313, 30, 31, 314] (by decide +kernel) (by decide +kernel)
set_option maxRecDepth 20000 in
theorem gpL_law_L_build_11 : GoodIn wsL_law wsL_build_r12 := goodIn_r _ [315, 316, 317, 318, 319, 320, 321, 322, 323, 324, 325, 326, 327, 328, 329, 330, 331, 332, 333, 48, 334, 79, 81, 82] (by decide +kernel) (by decide +kernel)
set_option maxRecDepth 20000 in
theorem gpL_law_L_build_12 : GoodIn wsL_law wsL_build_r13 := goodIn_r _ [83, 80, 335, 336, 337, 338, 339, 340, 341, 342, 343, 344, 345, 346, 347, 348, 349, 350, 351, 352, 353, 354, 355, 356] (by decide +kernel) (by decide +kernel)
set_option maxRecDepth 20000 in
set_option maxHeartbeats 4000000 in
theorem gpL_law_L_build_13 : GoodIn wsL_law wsL_build_r14 := by
  show ∀ w ∈ ([_, _, _, _, _, _, _, _, _, _, _, _, _, _, _, _, _, _, _, _, _, _, _, _] : List Cond), _
  exact List.forall_mem_cons.mpr ⟨⟨List.mem_of_getElem? (i := 357) rfl, good_of_word rfl⟩, List.forall_mem_cons.mpr ⟨⟨List.mem_of_getElem? (i := 358) rfl, good_of_word rfl⟩, List.forall_mem_cons.mpr ⟨⟨List.mem_of_getElem? (i := 359) rfl, good_of_word rfl⟩, List.forall_mem_cons.mpr ⟨⟨List.mem_of_getElem? (i := 360) rfl, good_of_word rfl⟩, List.forall_mem_cons.mpr ⟨⟨List.mem_of_getElem? (i := 361) rfl, good_of_word rfl⟩, List.forall_mem_cons.mpr ⟨⟨List.mem_of_getElem? (i := 362) rfl, good_of_word rfl⟩, List.forall_mem_cons.mpr ⟨⟨List.mem_of_getElem? (i := 363) rfl, good_of_word rfl⟩, List.forall_mem_cons.mpr ⟨⟨List.mem_of_getElem? (i := 364) rfl, good_of_word rfl⟩, List.forall_mem_cons.mpr ⟨⟨List.mem_of_getElem? (i := 365) rfl, good_of_word rfl⟩, List.forall_mem_cons.mpr ⟨⟨List.mem_of_getElem? (i := 366) rfl, good_of_word rfl⟩, List.forall_mem_cons.mpr ⟨⟨List.mem_of_getElem? (i := 367) rfl, good_of_word rfl⟩, List.forall_mem_cons.mpr ⟨⟨List.mem_of_getElem? (i := 368) rfl, good_of_word rfl⟩, List.forall_mem_cons.mpr ⟨⟨List.mem_of_getElem? (i := 369) rfl, good_of_word rfl⟩, List.forall_mem_cons.mpr ⟨⟨List.mem_of_getElem? (i := 370) rfl, good_of_word rfl⟩, List.forall_mem_cons.mpr ⟨⟨List.mem_of_getElem? (i := 371) rfl, good_of_word rfl⟩, List.forall_mem_cons.mpr ⟨⟨List.mem_of_getElem? (i := 372) rfl, good_of_word rfl⟩, List.forall_mem_cons.mpr ⟨⟨List.mem_of_getElem? (i := 373) rfl, good_of_word rfl⟩, List.forall_mem_cons.mpr ⟨⟨List.mem_of_getElem? (i := 374) rfl, good_of_word rfl⟩, List.forall_mem_cons.mpr ⟨⟨List.mem_of_getElem? (i := 375) rfl, good_of_word rfl⟩, List.forall_mem_cons.mpr ⟨⟨List.mem_of_getElem? (i := 376) rfl, good_of_word rfl⟩, List.forall_mem_cons.mpr ⟨⟨List.mem_of_getElem? (i := 377) rfl, good_of_word rfl⟩, List.forall_mem_cons.mpr ⟨⟨List.mem_of_getElem? (i := 378) rfl, good_of_word rfl⟩, List.forall_mem_cons.mpr ⟨⟨List.mem_of_getElem? (i := 379) rfl, good_of_word rfl⟩, List.forall_mem_cons.mpr ⟨⟨List.mem_of_getElem? (i := 380) rfl, good_of_word rfl⟩, fun _ h => absurd h List.not_mem_nil⟩⟩⟩⟩⟩⟩⟩⟩⟩⟩⟩⟩⟩⟩⟩⟩⟩⟩⟩⟩⟩⟩⟩⟩
set_option maxRecDepth 20000 in
theorem gpL_law_L_build_wsX60 : GoodIn wsL_law wsX60 := goodIn_r _ [501, 502, 503, 504, 505, 506, 507, 508, 509, 510, 511, 512] (by decide +kernel) (by decide +kernel)
set_option maxRecDepth 20000 in
theorem gpL_law_L_build_wsX50 : GoodIn wsL_law wsX50 := goodIn_r _ [499, 500] (by decide +kernel) (by decide +kernel)
set_option maxRecDepth 20000 in
theorem gpL_law_L_build_wsX00 : GoodIn wsL_law wsX00 := goodIn_r _ [513, 514, 515, 516, 517, 518, 519, 520, 521, 522, 523, 524] (by decide +kernel) (by decide +kernel)
set_option maxRecDepth 20000 in
theorem gpL_law_L_build_wsX40 : GoodIn wsL_law wsX40 := goodIn_r _ [525, 526, 527] (by decide +kernel) (by decide +kernel)
set_option maxRecDepth 20000 in
theorem gpL_law_L_build_wsX10 : GoodIn wsL_law wsX10 := goodIn_r _ [528, 529, 530, 531] (by decide +kernel) (by decide +kernel)
set_option maxRecDepth 20000 in
theorem gpL_law_L_build_wsX30 : GoodIn wsL_law wsX30 := goodIn_r _ [532, 533, 534, 535] (by decide +kernel) (by decide +kernel)
set_option maxRecDepth 20000 in
theorem gpL_law_L_build_wsX20 : GoodIn wsL_law wsX20 := goodIn_r _ [536, 537, 538, 539, 540] (by decide +kernel) (by decide +kernel)
set_option maxRecDepth 20000 in
theorem ggL_law_L_build : GoodIn wsL_law wsL_build := goodIn_ca (goodIn_ca (goodIn_ca (goodIn_ca (goodIn_ca (goodIn_ca (goodIn_ca (goodIn_ca (goodIn_ca (goodIn_ca (goodIn_ca gpL_law_L_build_0 (goodIn_app gpL_law_L_build_1 (goodIn_app gpL_law_L_build_2 (goodIn_app gpL_law_L_build_3 (goodIn_app gpL_law_L_build_4 (goodIn_app gpL_law_L_build_5 (goodIn_app gpL_law_L_build_6 (goodIn_app gpL_law_L_build_7 (goodIn_app gpL_law_L_build_8 (goodIn_app gpL_law_L_build_9 (goodIn_app gpL_law_L_build_10 (goodIn_app gpL_law_L_build_11 (goodIn_app gpL_law_L_build_12 gpL_law_L_build_13))))))))))))) gpL_law_L_build_wsX60) gpL_law_L_build_wsX50) gpL_law_L_build_wsX00) gpL_law_L_build_wsX40) gpL_law_L_build_wsX10) gpL_law_L_build_wsX30) gpL_law_L_build_wsX20) (goodIn_sub (fun _ h => List.mem_append_left _ (List.mem_append_left _ (List.mem_append_right _ h))) (by decide +kernel))) (goodIn_sub (fun _ h => List.mem_append_left _ (List.mem_append_right _ h)) (by decide +kernel))) (goodIn_sub (fun _ h => List.mem_append_right _ h) (by decide +kernel))
set_option maxRecDepth 20000 in
theorem gL_law_L_build : GoodIn wsL_law (va_wsS RL 107 yL_build wsL_build) := goodIn_app (goodIn_of _ (by decide +kernel)) ggL_law_L_build
set_option maxRecDepth 20000 in
theorem ggL_law_L_cell : GoodIn wsL_law wsL_cell := goodIn_r _ [108, 109] (by decide +kernel) (by decide +kernel)
set_option maxRecDepth 20000 in
theorem gL_law_L_cell : GoodIn wsL_law (va_wsS RL 92 yL_cell wsL_cell) := goodIn_app (goodIn_of _ (by decide +kernel)) ggL_law_L_cell
set_option maxRecDepth 20000 in
set_option maxHeartbeats 4000000 in
theorem gpL_law_L_act_0 : GoodIn wsL_law (.code yL_act cL_act 22 (some .boolean) :: wsL_act_r1) := by
  show ∀ w ∈ ([_, _, _, _, _, _, _, _, _, _, _, _, _, _, _, _, _, _, _, _, _, _, _, _, _] : List Cond), _
  exact List.forall_mem_cons.mpr ⟨⟨List.mem_of_getElem? (i := 112) rfl, good_of_word rfl⟩, List.forall_mem_cons.mpr ⟨⟨List.mem_of_getElem? (i := 10) rfl, good_of_word rfl⟩, List.forall_mem_cons.mpr ⟨⟨List.mem_of_getElem? (i := 11) rfl, good_of_word rfl⟩, List.forall_mem_cons.mpr ⟨⟨List.mem_of_getElem? (i := 113) rfl, good_of_word rfl⟩, List.forall_mem_cons.mpr ⟨⟨List.mem_of_getElem? (i := 114) rfl, good_of_word rfl⟩, List.forall_mem_cons.mpr ⟨⟨List.mem_of_getElem? (i := 115) rfl, good_of_word rfl⟩, List.forall_mem_cons.mpr ⟨⟨List.mem_of_getElem? (i := 116) rfl, good_of_word rfl⟩, List.forall_mem_cons.mpr ⟨⟨List.mem_of_getElem? (i := 117) rfl, good_of_word rfl⟩, List.forall_mem_cons.mpr ⟨⟨List.mem_of_getElem? (i := 4) rfl, good_of_word rfl⟩, List.forall_mem_cons.mpr ⟨⟨List.mem_of_getElem? (i := 5) rfl, good_of_word rfl⟩, List.forall_mem_cons.mpr ⟨⟨List.mem_of_getElem? (i := 118) rfl, good_of_word rfl⟩, List.forall_mem_cons.mpr ⟨⟨List.mem_of_getElem? (i := 119) rfl, good_of_word rfl⟩, List.forall_mem_cons.mpr ⟨⟨List.mem_of_getElem? (i := 120) rfl, good_of_word rfl⟩, List.forall_mem_cons.mpr ⟨⟨List.mem_of_getElem? (i := 121) rfl, good_of_word rfl⟩, List.forall_mem_cons.mpr ⟨⟨List.mem_of_getElem? (i := 122) rfl, good_of_word rfl⟩, List.forall_mem_cons.mpr ⟨⟨List.mem_of_getElem? (i := 123) rfl, good_of_word rfl⟩, List.forall_mem_cons.mpr ⟨⟨List.mem_of_getElem? (i := 124) rfl, good_of_word rfl⟩, List.forall_mem_cons.mpr ⟨⟨List.mem_of_getElem? (i := 125) rfl, good_of_word rfl⟩, List.forall_mem_cons.mpr ⟨⟨List.mem_of_getElem? (i := 87) rfl, good_of_word rfl⟩, List.forall_mem_cons.mpr ⟨⟨List.mem_of_getElem? (i := 126) rfl, good_of_word rfl⟩, List.forall_mem_cons.mpr ⟨⟨List.mem_of_getElem? (i := 127) rfl, good_of_word rfl⟩, List.forall_mem_cons.mpr ⟨⟨List.mem_of_getElem? (i := 128) rfl, good_of_word rfl⟩, List.forall_mem_cons.mpr ⟨⟨List.mem_of_getElem? (i := 129) rfl, good_of_word rfl⟩, List.forall_mem_cons.mpr ⟨⟨List.mem_of_getElem? (i := 130) rfl, good_of_word rfl⟩, List.forall_mem_cons.mpr ⟨⟨List.mem_of_getElem? (i := 2) rfl, good_of_word rfl⟩, fun _ h => absurd h List.not_mem_nil⟩⟩⟩⟩⟩⟩⟩⟩⟩⟩⟩⟩⟩⟩⟩⟩⟩⟩⟩⟩⟩⟩⟩⟩⟩
set_option maxRecDepth 20000 in
theorem gpL_law_L_act_1 : GoodIn wsL_law wsL_act_r2 := goodIn_r _ [131, 132, 133, 134, 135, 136, 137, 138, 21, 139, 140, 141, 142, 143, 144, 145, 146, 147, 20, 148, 29, 32, 149, 150] (by decide +kernel) (by decide +kernel)
set_option maxRecDepth 20000 in
theorem gpL_law_L_act_2 : GoodIn wsL_law wsL_act_r3 := goodIn_r _ [91, 151, 152, 153, 154, 155, 156, 157, 158, 159, 50, 160, 161, 162, 163, 164, 165, 166, 167, 168, 169, 170, 171, 172] (by decide +kernel) (by decide +kernel)
set_option maxRecDepth 20000 in
theorem gpL_law_L_act_3 : GoodIn wsL_law wsL_act_r4 := goodIn_r _ [173, 174, 36, 175, 55, 176, 177, 178, 179, 56, 57, 180, 181, 182, 183, 184, 185, 186, 187, 188, 189, 190, 191, 99] (by decide +kernel) (by decide +kernel)
set_option maxRecDepth 20000 in
theorem gpL_law_L_act_4 : GoodIn wsL_law wsL_act_r5 := goodIn_r _ [192, 193, 194, 195, 196, 197, 198, 40, 199, 65, 66, 67, 68, 200, 201, 202, 203, 204, 205, 206, 207, 208, 209, 210] (by decide +kernel) (by decide +kernel)
set_option maxRecDepth 20000 in
theorem gpL_law_L_act_5 : GoodIn wsL_law wsL_act_r6 := goodIn_r _ [211, 212, 213, 214, 215, 216, 217, 218, 219, 220, 221, 222, 223, 44, 224, 72, 73, 74, 75, 225, 226, 227, 228, 229] (by decide +kernel) (by decide +kernel)
set_option maxRecDepth 20000 in
theorem gpL_law_L_act_6 : GoodIn wsL_law wsL_act_r7 := goodIn_r _ [230, 231, 232, 233, 234, 235, 236, 237, 238, 239, 240, 241, 242, 243, 244, 245, 246, 247, 248, 249, 250, 251, 252, 253] (by decide +kernel) (by decide +kernel)
set_option maxRecDepth 20000 in
theorem gpL_law_L_act_7 : GoodIn wsL_law wsL_act_r8 := goodIn_r _ [45, 37, 41, 254, 7, 8, 9, 255, 256, 257, 258, 259, 260, 261, 262, 263, 264, 265, 266, 267, 268, 269, 270, 271] (by decide +kernel) (by decide +kernel)
set_option maxRecDepth 20000 in
theorem gpL_law_L_act_8 : GoodIn wsL_law wsL_act_r9 := goodIn_r _ [272, 273, 274, 275, 49, 276, 277, 278, 279, 280, 100, 101, 281, 282, 283, 284, 96, 103] (by decide +kernel) (by decide +kernel)
set_option maxRecDepth 20000 in
theorem gpL_law_L_act_wsX60 : GoodIn wsL_law wsX60 := goodIn_r _ [501, 502, 503, 504, 505, 506, 507, 508, 509, 510, 511, 512] (by decide +kernel) (by decide +kernel)
set_option maxRecDepth 20000 in
theorem gpL_law_L_act_wsX50 : GoodIn wsL_law wsX50 := goodIn_r _ [499, 500] (by decide +kernel) (by decide +kernel)
set_option maxRecDepth 20000 in
theorem gpL_law_L_act_wsX00 : GoodIn wsL_law wsX00 := goodIn_r _ [513, 514, 515, 516, 517, 518, 519, 520, 521, 522, 523, 524] (by decide +kernel) (by decide +kernel)
set_option maxRecDepth 20000 in
theorem gpL_law_L_act_wsX40 : GoodIn wsL_law wsX40 := goodIn_r _ [525, 526, 527] (by decide +kernel) (by decide +kernel)
set_option maxRecDepth 20000 in
theorem gpL_law_L_act_wsX10 : GoodIn wsL_law wsX10 := goodIn_r _ [528, 529, 530, 531] (by decide +kernel) (by decide +kernel)
set_option maxRecDepth 20000 in
theorem gpL_law_L_act_wsX30 : GoodIn wsL_law wsX30 := goodIn_r _ [532, 533, 534, 535] (by decide +kernel) (by decide +kernel)
set_option maxRecDepth 20000 in
theorem gpL_law_L_act_wsX20 : GoodIn wsL_law wsX20 := goodIn_r _ [536, 537, 538, 539, 540] (by decide +kernel) (by decide +kernel)
set_option maxRecDepth 20000 in
theorem ggL_law_L_act : GoodIn wsL_law wsL_act := goodIn_ca (goodIn_ca (goodIn_ca (goodIn_ca (goodIn_ca (goodIn_ca (goodIn_ca (goodIn_ca (goodIn_ca (goodIn_ca (goodIn_ca gpL_law_L_act_0 (goodIn_app gpL_law_L_act_1 (goodIn_app gpL_law_L_act_2 (goodIn_app gpL_law_L_act_3 (goodIn_app gpL_law_L_act_4 (goodIn_app gpL_law_L_act_5 (goodIn_app gpL_law_L_act_6 (goodIn_app gpL_law_L_act_7 gpL_law_L_act_8)))))))) gpL_law_L_act_wsX60) gpL_law_L_act_wsX50) gpL_law_L_act_wsX00) gpL_law_L_act_wsX40) gpL_law_L_act_wsX10) gpL_law_L_act_wsX30) gpL_law_L_act_wsX20) (goodIn_sub (fun _ h => List.mem_append_left _ (List.mem_append_left _ (List.mem_append_right _ h))) (by decide +kernel))) (goodIn_sub (fun _ h => List.mem_append_left _ (List.mem_append_right _ h)) (by decide +kernel))) (goodIn_sub (fun _ h => List.mem_append_right _ h) (by decide +kernel))
set_option maxRecDepth 20000 in
theorem gL_law_L_act : GoodIn wsL_law (va_wsS RL 96 yL_act wsL_act) := goodIn_app (goodIn_of _ (by decide +kernel)) ggL_law_L_act
set_option maxRecDepth 20000 in
theorem ggL_law_L_below : GoodIn wsL_law wsL_below := goodIn_r _ [126, 127] (by decide +kernel) (by decide +kernel)
set_option maxRecDepth 20000 in
theorem gL_law_L_below : GoodIn wsL_law (va_wsS RL 18 yL_below wsL_below) := goodIn_app (goodIn_of _ (by decide +kernel)) ggL_law_L_below
set_option maxRecDepth 20000 in
theorem gpL_law_X5_ripe_0 : GoodIn wsL_law (.code yX5_ripe cX5_ripe 4 (some .int) :: wsX5_ripe_r1) := goodIn_r _ [384, 132, 133, 134, 135, 22, 21, 139, 140, 2, 141, 142, 143, 144, 385, 386, 387, 20, 388, 27, 28, 29, 30, 31, 32] (by decide +kernel) (by decide +kernel)
set_option maxRecDepth 20000 in
theorem gpL_law_X5_ripe_1 : GoodIn wsL_law wsX5_ripe_r2 := goodIn_r _ [389, 390, 391, 392, 33, 37, 41, 45, 49, 50, 393, 394, 395, 36, 396, 55, 397, 56, 57, 398, 399, 400, 40, 401] (by decide +kernel) (by decide +kernel)
set_option maxRecDepth 20000 in
theorem gpL_law_X5_ripe_2 : GoodIn wsL_law wsX5_ripe_r3 := goodIn_r _ [65, 66, 402, 67, 68, 403, 404, 405, 44, 406, 72, 73, 407, 74, 75, 408, 409, 410, 48, 411, 79, 80, 81, 412] (by decide +kernel) (by decide +kernel)
set_option maxRecDepth 20000 in
theorem gpL_law_X5_ripe_3 : GoodIn wsL_law wsX5_ripe_r4 := goodIn_r _ [82, 83, 413, 261, 262, 263, 414, 294, 295, 296, 297, 298, 299, 300, 301, 302, 303, 304, 305, 7, 8, 9, 306, 307] (by decide +kernel) (by decide +kernel)
set_option maxRecDepth 20000 in
theorem gpL_law_X5_ripe_4 : GoodIn wsL_law wsX5_ripe_r5 := goodIn_r _ [308, 309, 310, 311, 312, 313, 314, 251, 252, 253, 254, 255, 256, 257, 258, 245, 234, 235, 236, 259, 242, 243, 244, 260] (by decide +kernel) (by decide +kernel)
set_option maxRecDepth 20000 in
theorem gpL_law_X5_ripe_5 : GoodIn wsL_law wsX5_ripe_r6 := goodIn_r _ [264, 265, 266, 267, 212, 205, 206, 207, 268, 269, 270, 271, 272, 273, 274, 275, 276, 173, 174, 175, 315, 316, 317, 318] (by decide +kernel) (by decide +kernel)
set_option maxRecDepth 20000 in
theorem gpL_law_X5_ripe_6 : GoodIn wsL_law wsX5_ripe_r7 := goodIn_r _ [319, 320, 321, 322, 323, 324, 325, 326, 209, 210, 211, 327, 328, 329, 330, 331, 332, 333, 334, 161, 162, 163, 335, 185] (by decide +kernel) (by decide +kernel)
set_option maxRecDepth 20000 in
theorem gpL_law_X5_ripe_7 : GoodIn wsL_law wsX5_ripe_r8 := goodIn_r _ [186, 187, 188, 177, 178, 179, 336, 337, 338, 339, 340, 341, 342, 343, 344, 345, 346, 347, 348, 349, 350, 351, 352, 353] (by decide +kernel) (by decide +kernel)
set_option maxRecDepth 20000 in
theorem gpL_law_X5_ripe_8 : GoodIn wsL_law wsX5_ripe_r9 := goodIn_r _ [354, 355, 356, 357, 358, 359, 360, 361, 165, 166, 167, 362, 363, 364, 365, 366, 367, 368, 369] (by decide +kernel) (by decide +kernel)
set_option maxRecDepth 20000 in
theorem gpL_law_X5_ripe_wsX50 : GoodIn wsL_law wsX50 := goodIn_r _ [499, 500] (by decide +kernel) (by decide +kernel)
set_option maxRecDepth 20000 in
theorem gpL_law_X5_ripe_wsX00 : GoodIn wsL_law wsX00 := goodIn_r _ [513, 514, 515, 516, 517, 518, 519, 520, 521, 522, 523, 524] (by decide +kernel) (by decide +kernel)
set_option maxRecDepth 20000 in
theorem gpL_law_X5_ripe_wsX40 : GoodIn wsL_law wsX40 := goodIn_r _ [525, 526, 527] (by decide +kernel) (by decide +kernel)
set_option maxRecDepth 20000 in
theorem gpL_law_X5_ripe_wsX10 : GoodIn wsL_law wsX10 := goodIn_r _ [528, 529, 530, 531] (by decide +kernel) (by decide +kernel)
set_option maxRecDepth 20000 in
theorem gpL_law_X5_ripe_wsX30 : GoodIn wsL_law wsX30 := goodIn_r _ [532, 533, 534, 535] (by decide +kernel) (by decide +kernel)
set_option maxRecDepth 20000 in
theorem gpL_law_X5_ripe_wsX20 : GoodIn wsL_law wsX20 := goodIn_r _ [536, 537, 538, 539, 540] (by decide +kernel) (by decide +kernel)
set_option maxRecDepth 20000 in
theorem ggL_law_X5_ripe : GoodIn wsL_law wsX5_ripe := goodIn_ca (goodIn_ca (goodIn_ca (goodIn_ca (goodIn_ca (goodIn_ca (goodIn_ca (goodIn_ca (goodIn_ca gpL_law_X5_ripe_0 (goodIn_app gpL_law_X5_ripe_1 (goodIn_app gpL_law_X5_ripe_2 (goodIn_app gpL_law_X5_ripe_3 (goodIn_app gpL_law_X5_ripe_4 (goodIn_app gpL_law_X5_ripe_5 (goodIn_app gpL_law_X5_ripe_6 (goodIn_app gpL_law_X5_ripe_7 gpL_law_X5_ripe_8)))))))) gpL_law_X5_ripe_wsX50) gpL_law_X5_ripe_wsX00) gpL_law_X5_ripe_wsX40) gpL_law_X5_ripe_wsX10) gpL_law_X5_ripe_wsX30) gpL_law_X5_ripe_wsX20) (goodIn_sub (fun _ h => List.mem_append_left _ (List.mem_append_left _ (List.mem_append_right _ h))) (by decide +kernel))) (goodIn_sub (fun _ h => List.mem_append_left _ (List.mem_append_right _ h)) (by decide +kernel))
set_option maxRecDepth 20000 in
theorem gL_law_X5_ripe : GoodIn wsL_law (wsV RL 111 RX5 yX5_ripe wsX5_ripe) := goodIn_app (goodIn_of _ (by decide +kernel)) ggL_law_X5_ripe
set_option maxRecDepth 20000 in
theorem ggL_law_X5_about : GoodIn wsL_law wsX5_about := goodIn_ca (goodIn_r _ [418, 132, 133, 21, 139, 140, 2, 141, 419, 420, 421, 36, 422, 423, 173, 174, 175, 55, 424, 261, 262, 263, 56, 425, 320, 321, 322, 57, 499, 500, 513, 514, 515, 516, 517, 518, 519, 520, 521, 522, 523, 524, 525, 526, 527] (by decide +kernel) (by decide +kernel)) (goodIn_sub (fun _ h => List.mem_append_left _ (List.mem_append_left _ (List.mem_append_right _ h))) (by decide +kernel))
set_option maxRecDepth 20000 in
theorem gL_law_X5_about : GoodIn wsL_law (wsV RL 115 RX5 yX5_about wsX5_about) := goodIn_app (goodIn_of _ (by decide +kernel)) ggL_law_X5_about
set_option maxRecDepth 20000 in
theorem gpL_law_X5_count_0 : GoodIn wsL_law (.code yX5_count cX5_count 2 (some .int) :: wsX5_count_r1) := goodIn_r _ [429, 132, 133, 21, 139, 140, 2, 141, 430, 431, 432, 20, 433, 27, 28, 29, 30, 31, 49, 37, 272, 273, 274, 275, 434] (by decide +kernel) (by decide +kernel)
set_option maxRecDepth 20000 in
theorem gpL_law_X5_count_1 : GoodIn wsL_law wsX5_count_r2 := goodIn_r _ [435, 436, 437, 50, 438, 439, 440, 36, 441, 55, 442, 443, 444, 445, 32] (by decide +kernel) (by decide +kernel)
set_option maxRecDepth 20000 in
theorem gpL_law_X5_count_wsX50 : GoodIn wsL_law wsX50 := goodIn_r _ [499, 500] (by decide +kernel) (by decide +kernel)
set_option maxRecDepth 20000 in
theorem gpL_law_X5_count_wsX00 : GoodIn wsL_law wsX00 := goodIn_r _ [513, 514, 515, 516, 517, 518, 519, 520, 521, 522, 523, 524] (by decide +kernel) (by decide +kernel)
set_option maxRecDepth 20000 in
theorem gpL_law_X5_count_wsX20 : GoodIn wsL_law wsX20 := goodIn_r _ [536, 537, 538, 539, 540] (by decide +kernel) (by decide +kernel)
set_option maxRecDepth 20000 in
theorem gpL_law_X5_count_wsX40 : GoodIn wsL_law wsX40 := goodIn_r _ [525, 526, 527] (by decide +kernel) (by decide +kernel)
set_option maxRecDepth 20000 in
theorem ggL_law_X5_count : GoodIn wsL_law wsX5_count := goodIn_ca (goodIn_ca (goodIn_ca (goodIn_ca (goodIn_ca (goodIn_ca gpL_law_X5_count_0 gpL_law_X5_count_1) gpL_law_X5_count_wsX50) gpL_law_X5_count_wsX00) gpL_law_X5_count_wsX20) gpL_law_X5_count_wsX40) (goodIn_sub (fun _ h => List.mem_append_left _ (List.mem_append_left _ (List.mem_append_right _ h))) (by decide +kernel))
set_option maxRecDepth 20000 in
theorem gL_law_X5_count : GoodIn wsL_law (wsV RL 118 RX5 yX5_count wsX5_count) := goodIn_app (goodIn_of _ (by decide +kernel)) ggL_law_X5_count
set_option maxRecDepth 20000 in
theorem gpL_law_X5_foresee_0 : GoodIn wsL_law (.code yX5_foresee cX5_foresee 3 (some .int) :: wsX5_foresee_r1) := goodIn_r _ [449, 134, 135, 132, 133, 22, 21, 142, 143, 2, 144, 139, 140, 141, 385, 386, 387, 20, 388, 27, 28, 29, 30, 31, 32] (by decide +kernel) (by decide +kernel)
set_option maxRecDepth 20000 in
theorem gpL_law_X5_foresee_1 : GoodIn wsL_law wsX5_foresee_r2 := goodIn_r _ [389, 390, 391, 392, 33, 37, 41, 45, 49, 50, 393, 394, 395, 36, 396, 55, 397, 56, 57, 398, 399, 400, 40, 401] (by decide +kernel) (by decide +kernel)
set_option maxRecDepth 20000 in
theorem gpL_law_X5_foresee_2 : GoodIn wsL_law wsX5_foresee_r3 := goodIn_r _ [65, 66, 402, 67, 68, 403, 404, 405, 44, 406, 72, 73, 407, 74, 75, 408, 409, 410, 48, 411, 79, 80, 81, 412] (by decide +kernel) (by decide +kernel)
set_option maxRecDepth 20000 in
theorem gpL_law_X5_foresee_3 : GoodIn wsL_law wsX5_foresee_r4 := goodIn_r _ [82, 83, 289, 290, 291, 292, 293, 294, 295, 296, 297, 298, 299, 300, 301, 302, 303, 304, 305, 7, 8, 9, 306, 307] (by decide +kernel) (by decide +kernel)
set_option maxRecDepth 20000 in
theorem gpL_law_X5_foresee_4 : GoodIn wsL_law wsX5_foresee_r5 := goodIn_r _ [308, 309, 310, 311, 312, 313, 314, 251, 252, 253, 254, 255, 256, 257, 258, 245, 234, 235, 236, 259, 242, 243, 244, 260] (by decide +kernel) (by decide +kernel)
set_option maxRecDepth 20000 in
theorem gpL_law_X5_foresee_5 : GoodIn wsL_law wsX5_foresee_r6 := goodIn_r _ [261, 262, 263, 264, 265, 266, 267, 212, 205, 206, 207, 268, 269, 270, 271, 272, 273, 274, 275, 276, 173, 174, 175, 315] (by decide +kernel) (by decide +kernel)
set_option maxRecDepth 20000 in
theorem gpL_law_X5_foresee_6 : GoodIn wsL_law wsX5_foresee_r7 := goodIn_r _ [316, 317, 318, 319, 320, 321, 322, 323, 324, 325, 326, 209, 210, 211, 327, 328, 329, 330, 331, 332, 333, 334, 161, 162] (by decide +kernel) (by decide +kernel)
set_option maxRecDepth 20000 in
theorem gpL_law_X5_foresee_7 : GoodIn wsL_law wsX5_foresee_r8 := goodIn_r _ [163, 335, 185, 186, 187, 188, 177, 178, 179, 336, 337, 338, 339, 340, 341, 342, 343, 344, 345, 346, 347, 348, 349, 350] (by decide +kernel) (by decide +kernel)
set_option maxRecDepth 20000 in
theorem gpL_law_X5_foresee_8 : GoodIn wsL_law wsX5_foresee_r9 := goodIn_r _ [351, 352, 353, 354, 355, 356, 357, 358, 359, 360, 361, 165, 166, 167, 362, 363, 364, 365, 366, 367, 368, 369, 430, 431] (by decide +kernel) (by decide +kernel)
set_option maxRecDepth 20000 in
theorem gpL_law_X5_foresee_9 : GoodIn wsL_law wsX5_foresee_r10 := goodIn_r _ [432, 433, 434, 435, 436, 437, 438, 439, 440, 441, 442, 443, 444, 445] (by decide +kernel) (by decide +kernel)
set_option maxRecDepth 20000 in
theorem gpL_law_X5_foresee_wsX50 : GoodIn wsL_law wsX50 := goodIn_r _ [499, 500] (by decide +kernel) (by decide +kernel)
set_option maxRecDepth 20000 in
theorem gpL_law_X5_foresee_wsX00 : GoodIn wsL_law wsX00 := goodIn_r _ [513, 514, 515, 516, 517, 518, 519, 520, 521, 522, 523, 524] (by decide +kernel) (by decide +kernel)
set_option maxRecDepth 20000 in
theorem gpL_law_X5_foresee_wsX40 : GoodIn wsL_law wsX40 := goodIn_r _ [525, 526, 527] (by decide +kernel) (by decide +kernel)
set_option maxRecDepth 20000 in
theorem gpL_law_X5_foresee_wsX10 : GoodIn wsL_law wsX10 := goodIn_r _ [528, 529, 530, 531] (by decide +kernel) (by decide +kernel)
set_option maxRecDepth 20000 in
theorem gpL_law_X5_foresee_wsX30 : GoodIn wsL_law wsX30 := goodIn_r _ [532, 533, 534, 535] (by decide +kernel) (by decide +kernel)
set_option maxRecDepth 20000 in
theorem gpL_law_X5_foresee_wsX20 : GoodIn wsL_law wsX20 := goodIn_r _ [536, 537, 538, 539, 540] (by decide +kernel) (by decide +kernel)
set_option maxRecDepth 20000 in
theorem ggL_law_X5_foresee : GoodIn wsL_law wsX5_foresee := goodIn_ca (goodIn_ca (goodIn_ca (goodIn_ca (goodIn_ca (goodIn_ca (goodIn_ca (goodIn_ca (goodIn_ca gpL_law_X5_foresee_0 (goodIn_app gpL_law_X5_foresee_1 (goodIn_app gpL_law_X5_foresee_2 (goodIn_app gpL_law_X5_foresee_3 (goodIn_app gpL_law_X5_foresee_4 (goodIn_app gpL_law_X5_foresee_5 (goodIn_app gpL_law_X5_foresee_6 (goodIn_app gpL_law_X5_foresee_7 (goodIn_app gpL_law_X5_foresee_8 gpL_law_X5_foresee_9))))))))) gpL_law_X5_foresee_wsX50) gpL_law_X5_foresee_wsX00) gpL_law_X5_foresee_wsX40) gpL_law_X5_foresee_wsX10) gpL_law_X5_foresee_wsX30) gpL_law_X5_foresee_wsX20) (goodIn_sub (fun _ h => List.mem_append_left _ (List.mem_append_right _ h)) (by decide +kernel))) (goodIn_sub (fun _ h => List.mem_append_left _ (List.mem_append_left _ (List.mem_append_right _ h))) (by decide +kernel))
set_option maxRecDepth 20000 in
theorem gL_law_X5_foresee : GoodIn wsL_law (wsV RL 121 RX5 yX5_foresee wsX5_foresee) := goodIn_app (goodIn_of _ (by decide +kernel)) ggL_law_X5_foresee
set_option maxRecDepth 20000 in
theorem gpL_law_X5_mould_0 : GoodIn wsL_law (.code yX5_mould cX5_mould 3 (some .int) :: wsX5_mould_r1) := goodIn_r _ [453, 132, 133, 21, 204, 205, 206, 40, 207, 65, 139, 140, 2, 141, 454, 455, 456, 20, 457, 41, 45, 327, 328, 329, 330] (by decide +kernel) (by decide +kernel)
set_option maxRecDepth 20000 in
theorem gpL_law_X5_mould_1 : GoodIn wsL_law wsX5_mould_r2 := goodIn_r _ [66, 212, 264, 265, 266, 267, 67, 326, 209, 210, 211, 68, 458, 238, 239, 44, 240, 72, 241, 242, 243, 244, 75, 245] (by decide +kernel) (by decide +kernel)
set_option maxRecDepth 20000 in
theorem gpL_law_X5_mould_2 : GoodIn wsL_law wsX5_mould_r3 := goodIn_r _ [234, 235, 236] (by decide +kernel) (by decide +kernel)
set_option maxRecDepth 20000 in
theorem gpL_law_X5_mould_wsX50 : GoodIn wsL_law wsX50 := goodIn_r _ [499, 500] (by decide +kernel) (by decide +kernel)
set_option maxRecDepth 20000 in
theorem gpL_law_X5_mould_wsX00 : GoodIn wsL_law wsX00 := goodIn_r _ [513, 514, 515, 516, 517, 518, 519, 520, 521, 522, 523, 524] (by decide +kernel) (by decide +kernel)
set_option maxRecDepth 20000 in
theorem gpL_law_X5_mould_wsX10 : GoodIn wsL_law wsX10 := goodIn_r _ [528, 529, 530, 531] (by decide +kernel) (by decide +kernel)
set_option maxRecDepth 20000 in
theorem gpL_law_X5_mould_wsX30 : GoodIn wsL_law wsX30 := goodIn_r _ [532, 533, 534, 535] (by decide +kernel) (by decide +kernel)
set_option maxRecDepth 20000 in
theorem ggL_law_X5_mould : GoodIn wsL_law wsX5_mould := goodIn_ca (goodIn_ca (goodIn_ca (goodIn_ca (goodIn_ca (goodIn_ca gpL_law_X5_mould_0 (goodIn_app gpL_law_X5_mould_1 gpL_law_X5_mould_2)) gpL_law_X5_mould_wsX50) gpL_law_X5_mould_wsX00) gpL_law_X5_mould_wsX10) gpL_law_X5_mould_wsX30) (goodIn_sub (fun _ h => List.mem_append_left _ (List.mem_append_left _ (List.mem_append_right _ h))) (by decide +kernel))
set_option maxRecDepth 20000 in
theorem gL_law_X5_mould : GoodIn wsL_law (wsV RL 129 RX5 yX5_mould wsX5_mould) := goodIn_app (goodIn_of _ (by decide +kernel)) ggL_law_X5_mould
set_option maxRecDepth 20000 in
theorem gpL_law_X5_told_0 : GoodIn wsL_law (.code yX5_told cX5_told 3 (some .int) :: wsX5_told_r1) := goodIn_r _ [462, 132, 133, 21, 233, 234, 235, 44, 236, 72, 139, 140, 2, 141, 463, 464, 465, 20, 466, 45, 268, 269, 270, 271, 73] (by decide +kernel) (by decide +kernel)
set_option maxRecDepth 20000 in
theorem gpL_law_X5_told_1 : GoodIn wsL_law wsX5_told_r2 := goodIn_r _ [245, 255, 256, 257, 258, 74, 259, 242, 243, 244, 75, 314, 251, 252, 253, 37, 41, 254, 7, 8, 9, 260, 261, 262] (by decide +kernel) (by decide +kernel)
set_option maxRecDepth 20000 in
theorem gpL_law_X5_told_2 : GoodIn wsL_law wsX5_told_r3 := goodIn_r _ [36, 263, 56, 264, 265, 266, 40, 267, 67, 212, 205, 206, 207, 65, 272, 273, 274, 275, 29, 49, 276, 173, 174, 175] (by decide +kernel) (by decide +kernel)
set_option maxRecDepth 20000 in
theorem gpL_law_X5_told_3 : GoodIn wsL_law wsX5_told_r4 := goodIn_r _ [55] (by decide +kernel) (by decide +kernel)
set_option maxRecDepth 20000 in
theorem gpL_law_X5_told_wsX50 : GoodIn wsL_law wsX50 := goodIn_r _ [499, 500] (by decide +kernel) (by decide +kernel)
set_option maxRecDepth 20000 in
theorem gpL_law_X5_told_wsX00 : GoodIn wsL_law wsX00 := goodIn_r _ [513, 514, 515, 516, 517, 518, 519, 520, 521, 522, 523, 524] (by decide +kernel) (by decide +kernel)
set_option maxRecDepth 20000 in
theorem gpL_law_X5_told_wsX30 : GoodIn wsL_law wsX30 := goodIn_r _ [532, 533, 534, 535] (by decide +kernel) (by decide +kernel)
set_option maxRecDepth 20000 in
theorem gpL_law_X5_told_wsX40 : GoodIn wsL_law wsX40 := goodIn_r _ [525, 526, 527] (by decide +kernel) (by decide +kernel)
set_option maxRecDepth 20000 in
theorem gpL_law_X5_told_wsX10 : GoodIn wsL_law wsX10 := goodIn_r _ [528, 529, 530, 531] (by decide +kernel) (by decide +kernel)
set_option maxRecDepth 20000 in
theorem gpL_law_X5_told_wsX20 : GoodIn wsL_law wsX20 := goodIn_r _ [536, 537, 538, 539, 540] (by decide +kernel) (by decide +kernel)
set_option maxRecDepth 20000 in
theorem ggL_law_X5_told : GoodIn wsL_law wsX5_told := goodIn_ca (goodIn_ca (goodIn_ca (goodIn_ca (goodIn_ca (goodIn_ca (goodIn_ca (goodIn_ca gpL_law_X5_told_0 (goodIn_app gpL_law_X5_told_1 (goodIn_app gpL_law_X5_told_2 gpL_law_X5_told_3))) gpL_law_X5_told_wsX50) gpL_law_X5_told_wsX00) gpL_law_X5_told_wsX30) gpL_law_X5_told_wsX40) gpL_law_X5_told_wsX10) gpL_law_X5_told_wsX20) (goodIn_sub (fun _ h => List.mem_append_left _ (List.mem_append_left _ (List.mem_append_right _ h))) (by decide +kernel))
set_option maxRecDepth 20000 in
theorem gL_law_X5_told : GoodIn wsL_law (wsV RL 132 RX5 yX5_told wsX5_told) := goodIn_app (goodIn_of _ (by decide +kernel)) ggL_law_X5_told
set_option maxRecDepth 20000 in
theorem gpL_law_X5_pass_0 : GoodIn wsL_law (.code yX5_pass cX5_pass 3 (some .int) :: wsX5_pass_r1) := goodIn_r _ [288, 134, 135, 21, 142, 143, 2, 144, 289, 290, 291, 20, 292, 293, 294, 295, 296, 37, 33, 27, 45, 297, 298, 299, 300] (by decide +kernel) (by decide +kernel)
set_option maxRecDepth 20000 in
theorem gpL_law_X5_pass_1 : GoodIn wsL_law wsX5_pass_r2 := goodIn_r _ [301, 302, 303, 36, 304, 55, 56, 305, 7, 8, 9, 306, 307, 308, 309, 310, 311, 312, 313, 49, 41, 30, 31, 314] (by decide +kernel) (by decide +kernel)
set_option maxRecDepth 20000 in
theorem gpL_law_X5_pass_2 : GoodIn wsL_law wsX5_pass_r3 := goodIn_r _ [251, 252, 253, 254, 255, 256, 257, 44, 258, 74, 245, 234, 235, 236, 72, 259, 242, 243, 244, 75, 260, 261, 262, 263] (by decide +kernel) (by decide +kernel)
set_option maxRecDepth 20000 in
theorem gpL_law_X5_pass_3 : GoodIn wsL_law wsX5_pass_r4 := goodIn_r _ [140, 141, 264, 265, 266, 40, 267, 67, 212, 205, 206, 207, 65, 268, 269, 270, 271, 73, 272, 273, 274, 275, 29, 276] (by decide +kernel) (by decide +kernel)
set_option maxRecDepth 20000 in
theorem gpL_law_X5_pass_4 : GoodIn wsL_law wsX5_pass_r5 := goodIn_r _ [173, 174, 175, 315, 316, 317, 318, 319, 320, 321, 322, 57, 323, 324, 325, 326, 209, 210, 211, 68, 327, 328, 329, 330] (by decide +kernel) (by decide +kernel)
set_option maxRecDepth 20000 in
theorem gpL_law_X5_pass_5 : GoodIn wsL_law wsX5_pass_r6 := goodIn_r _ [66, 331, 332, 333, 48, 334, 79, 81, 82, 83, 80, 161, 162, 163, 139, 335, 185, 186, 187, 188, 177, 178, 179, 336] (by decide +kernel) (by decide +kernel)
set_option maxRecDepth 20000 in
theorem gpL_law_X5_pass_6 : GoodIn wsL_law wsX5_pass_r7 := goodIn_r _ [337, 338, 339, 340, 341, 342, 343, 344, 345, 346, 347, 348, 349, 350, 351, 352, 353, 354, 355, 356, 357, 358, 359, 360] (by decide +kernel) (by decide +kernel)
set_option maxRecDepth 20000 in
theorem gpL_law_X5_pass_7 : GoodIn wsL_law wsX5_pass_r8 := goodIn_r _ [361, 165, 166, 167, 50, 362, 363, 364, 365, 366, 367, 368, 369] (by decide +kernel) (by decide +kernel)
set_option maxRecDepth 20000 in
theorem gpL_law_X5_pass_wsX50 : GoodIn wsL_law wsX50 := goodIn_r _ [499, 500] (by decide +kernel) (by decide +kernel)
set_option maxRecDepth 20000 in
theorem gpL_law_X5_pass_wsX00 : GoodIn wsL_law wsX00 := goodIn_r _ [513, 514, 515, 516, 517, 518, 519, 520, 521, 522, 523, 524] (by decide +kernel) (by decide +kernel)
set_option maxRecDepth 20000 in
theorem gpL_law_X5_pass_wsX30 : GoodIn wsL_law wsX30 := goodIn_r _ [532, 533, 534, 535] (by decide +kernel) (by decide +kernel)
set_option maxRecDepth 20000 in
theorem gpL_law_X5_pass_wsX40 : GoodIn wsL_law wsX40 := goodIn_r _ [525, 526, 527] (by decide +kernel) (by decide +kernel)
set_option maxRecDepth 20000 in
theorem gpL_law_X5_pass_wsX10 : GoodIn wsL_law wsX10 := goodIn_r _ [528, 529, 530, 531] (by decide +kernel) (by decide +kernel)
set_option maxRecDepth 20000 in
theorem gpL_law_X5_pass_wsX20 : GoodIn wsL_law wsX20 := goodIn_r _ [536, 537, 538, 539, 540] (by decide +kernel) (by decide +kernel)
set_option maxRecDepth 20000 in
theorem ggL_law_X5_pass : GoodIn wsL_law wsX5_pass := goodIn_ca (goodIn_ca (goodIn_ca (goodIn_ca (goodIn_ca (goodIn_ca (goodIn_ca (goodIn_ca gpL_law_X5_pass_0 (goodIn_app gpL_law_X5_pass_1 (goodIn_app gpL_law_X5_pass_2 (goodIn_app gpL_law_X5_pass_3 (goodIn_app gpL_law_X5_pass_4 (goodIn_app gpL_law_X5_pass_5 (goodIn_app gpL_law_X5_pass_6 gpL_law_X5_pass_7))))))) gpL_law_X5_pass_wsX50) gpL_law_X5_pass_wsX00) gpL_law_X5_pass_wsX30) gpL_law_X5_pass_wsX40) gpL_law_X5_pass_wsX10) gpL_law_X5_pass_wsX20) (goodIn_sub (fun _ h => List.mem_append_left _ (List.mem_append_right _ h)) (by decide +kernel))
set_option maxRecDepth 20000 in
theorem gL_law_X5_pass : GoodIn wsL_law (wsV RL 100 RX5 yX5_pass wsX5_pass) := goodIn_app (goodIn_of _ (by decide +kernel)) ggL_law_X5_pass
set_option maxRecDepth 20000 in
set_option maxHeartbeats 4000000 in
theorem gpL_law_X6_pass_0 : GoodIn wsL_law (.code yX6_pass cX6_pass 12 (some .int) :: wsX6_pass_r1) := by
  show ∀ w ∈ ([_, _, _, _, _, _, _, _, _, _, _, _, _, _, _, _, _, _, _, _, _, _, _, _, _] : List Cond), _
  exact List.forall_mem_cons.mpr ⟨⟨List.mem_of_getElem? (i := 373) rfl, good_of_word rfl⟩, List.forall_mem_cons.mpr ⟨⟨List.mem_of_getElem? (i := 100) rfl, good_of_word rfl⟩, List.forall_mem_cons.mpr ⟨⟨List.mem_of_getElem? (i := 97) rfl, good_of_word rfl⟩, List.forall_mem_cons.mpr ⟨⟨List.mem_of_getElem? (i := 374) rfl, good_of_word rfl⟩, List.forall_mem_cons.mpr ⟨⟨List.mem_of_getElem? (i := 375) rfl, good_of_word rfl⟩, List.forall_mem_cons.mpr ⟨⟨List.mem_of_getElem? (i := 7) rfl, good_of_word rfl⟩, List.forall_mem_cons.mpr ⟨⟨List.mem_of_getElem? (i := 8) rfl, good_of_word rfl⟩, List.forall_mem_cons.mpr ⟨⟨List.mem_of_getElem? (i := 9) rfl, good_of_word rfl⟩, List.forall_mem_cons.mpr ⟨⟨List.mem_of_getElem? (i := 102) rfl, good_of_word rfl⟩, List.forall_mem_cons.mpr ⟨⟨List.mem_of_getElem? (i := 101) rfl, good_of_word rfl⟩, List.forall_mem_cons.mpr ⟨⟨List.mem_of_getElem? (i := 103) rfl, good_of_word rfl⟩, List.forall_mem_cons.mpr ⟨⟨List.mem_of_getElem? (i := 4) rfl, good_of_word rfl⟩, List.forall_mem_cons.mpr ⟨⟨List.mem_of_getElem? (i := 376) rfl, good_of_word rfl⟩, List.forall_mem_cons.mpr ⟨⟨List.mem_of_getElem? (i := 377) rfl, good_of_word rfl⟩, List.forall_mem_cons.mpr ⟨⟨List.mem_of_getElem? (i := 105) rfl, good_of_word rfl⟩, List.forall_mem_cons.mpr ⟨⟨List.mem_of_getElem? (i := 99) rfl, good_of_word rfl⟩, List.forall_mem_cons.mpr ⟨⟨List.mem_of_getElem? (i := 378) rfl, good_of_word rfl⟩, List.forall_mem_cons.mpr ⟨⟨List.mem_of_getElem? (i := 278) rfl, good_of_word rfl⟩, List.forall_mem_cons.mpr ⟨⟨List.mem_of_getElem? (i := 279) rfl, good_of_word rfl⟩, List.forall_mem_cons.mpr ⟨⟨List.mem_of_getElem? (i := 91) rfl, good_of_word rfl⟩, List.forall_mem_cons.mpr ⟨⟨List.mem_of_getElem? (i := 280) rfl, good_of_word rfl⟩, List.forall_mem_cons.mpr ⟨⟨List.mem_of_getElem? (i := 281) rfl, good_of_word rfl⟩, List.forall_mem_cons.mpr ⟨⟨List.mem_of_getElem? (i := 282) rfl, good_of_word rfl⟩, List.forall_mem_cons.mpr ⟨⟨List.mem_of_getElem? (i := 283) rfl, good_of_word rfl⟩, List.forall_mem_cons.mpr ⟨⟨List.mem_of_getElem? (i := 284) rfl, good_of_word rfl⟩, fun _ h => absurd h List.not_mem_nil⟩⟩⟩⟩⟩⟩⟩⟩⟩⟩⟩⟩⟩⟩⟩⟩⟩⟩⟩⟩⟩⟩⟩⟩⟩
set_option maxRecDepth 20000 in
theorem gpL_law_X6_pass_1 : GoodIn wsL_law wsX6_pass_r2 := goodIn_r _ [96, 379, 190, 191, 380, 150, 151] (by decide +kernel) (by decide +kernel)
set_option maxRecDepth 20000 in
theorem gpL_law_X6_pass_wsX60 : GoodIn wsL_law wsX60 := goodIn_r _ [501, 502, 503, 504, 505, 506, 507, 508, 509, 510, 511, 512] (by decide +kernel) (by decide +kernel)
set_option maxRecDepth 20000 in
theorem ggL_law_X6_pass : GoodIn wsL_law wsX6_pass := (goodIn_ca (goodIn_ca gpL_law_X6_pass_0 gpL_law_X6_pass_1) gpL_law_X6_pass_wsX60)
set_option maxRecDepth 20000 in
theorem gL_law_X6_pass : GoodIn wsL_law (wsV RL 103 RX6 yX6_pass wsX6_pass) := goodIn_app (goodIn_of _ (by decide +kernel)) ggL_law_X6_pass
set_option maxRecDepth 20000 in
set_option maxHeartbeats 4000000 in
theorem gpL_law_X6_isSame_0 : GoodIn wsL_law (.code yX6_isSame cX6_isSame 6 (some .boolean) :: wsX6_isSame_r1) := by
  show ∀ w ∈ ([_, _, _, _, _, _, _, _, _, _, _, _, _, _, _, _, _, _, _, _, _, _, _, _, _] : List Cond), _
  exact List.forall_mem_cons.mpr ⟨⟨List.mem_of_getElem? (i := 470) rfl, good_of_word rfl⟩, List.forall_mem_cons.mpr ⟨⟨List.mem_of_getElem? (i := 100) rfl, good_of_word rfl⟩, List.forall_mem_cons.mpr ⟨⟨List.mem_of_getElem? (i := 101) rfl, good_of_word rfl⟩, List.forall_mem_cons.mpr ⟨⟨List.mem_of_getElem? (i := 102) rfl, good_of_word rfl⟩, List.forall_mem_cons.mpr ⟨⟨List.mem_of_getElem? (i := 103) rfl, good_of_word rfl⟩, List.forall_mem_cons.mpr ⟨⟨List.mem_of_getElem? (i := 105) rfl, good_of_word rfl⟩, List.forall_mem_cons.mpr ⟨⟨List.mem_of_getElem? (i := 471) rfl, good_of_word rfl⟩, List.forall_mem_cons.mpr ⟨⟨List.mem_of_getElem? (i := 416) rfl, good_of_word rfl⟩, List.forall_mem_cons.mpr ⟨⟨List.mem_of_getElem? (i := 417) rfl, good_of_word rfl⟩, List.forall_mem_cons.mpr ⟨⟨List.mem_of_getElem? (i := 2) rfl, good_of_word rfl⟩, List.forall_mem_cons.mpr ⟨⟨List.mem_of_getElem? (i := 418) rfl, good_of_word rfl⟩, List.forall_mem_cons.mpr ⟨⟨List.mem_of_getElem? (i := 132) rfl, good_of_word rfl⟩, List.forall_mem_cons.mpr ⟨⟨List.mem_of_getElem? (i := 133) rfl, good_of_word rfl⟩, List.forall_mem_cons.mpr ⟨⟨List.mem_of_getElem? (i := 21) rfl, good_of_word rfl⟩, List.forall_mem_cons.mpr ⟨⟨List.mem_of_getElem? (i := 139) rfl, good_of_word rfl⟩, List.forall_mem_cons.mpr ⟨⟨List.mem_of_getElem? (i := 140) rfl, good_of_word rfl⟩, List.forall_mem_cons.mpr ⟨⟨List.mem_of_getElem? (i := 141) rfl, good_of_word rfl⟩, List.forall_mem_cons.mpr ⟨⟨List.mem_of_getElem? (i := 419) rfl, good_of_word rfl⟩, List.forall_mem_cons.mpr ⟨⟨List.mem_of_getElem? (i := 420) rfl, good_of_word rfl⟩, List.forall_mem_cons.mpr ⟨⟨List.mem_of_getElem? (i := 421) rfl, good_of_word rfl⟩, List.forall_mem_cons.mpr ⟨⟨List.mem_of_getElem? (i := 36) rfl, good_of_word rfl⟩, List.forall_mem_cons.mpr ⟨⟨List.mem_of_getElem? (i := 422) rfl, good_of_word rfl⟩, List.forall_mem_cons.mpr ⟨⟨List.mem_of_getElem? (i := 423) rfl, good_of_word rfl⟩, List.forall_mem_cons.mpr ⟨⟨List.mem_of_getElem? (i := 173) rfl, good_of_word rfl⟩, List.forall_mem_cons.mpr ⟨⟨List.mem_of_getElem? (i := 174) rfl, good_of_word rfl⟩, fun _ h => absurd h List.not_mem_nil⟩⟩⟩⟩⟩⟩⟩⟩⟩⟩⟩⟩⟩⟩⟩⟩⟩⟩⟩⟩⟩⟩⟩⟩⟩
set_option maxRecDepth 20000 in
theorem gpL_law_X6_isSame_1 : GoodIn wsL_law wsX6_isSame_r2 := goodIn_r _ [175, 55, 424, 261, 262, 263, 56, 425, 320, 321, 322, 57, 472, 451, 452, 453, 204, 205, 206, 40, 207, 65, 454, 455] (by decide +kernel) (by decide +kernel)
set_option maxRecDepth 20000 in
theorem gpL_law_X6_isSame_2 : GoodIn wsL_law wsX6_isSame_r3 := goodIn_r _ [456, 20, 457, 41, 45, 327, 328, 329, 330, 66, 212, 264, 265, 266, 267, 67, 326, 209, 210, 211, 68, 458, 238, 239] (by decide +kernel) (by decide +kernel)
set_option maxRecDepth 20000 in
theorem gpL_law_X6_isSame_3 : GoodIn wsL_law wsX6_isSame_r4 := goodIn_r _ [44, 240, 72, 241, 242, 243, 244, 75, 245, 234, 235, 236, 473, 460, 461, 462, 233, 463, 464, 465, 466, 268, 269, 270] (by decide +kernel) (by decide +kernel)
set_option maxRecDepth 20000 in
theorem gpL_law_X6_isSame_4 : GoodIn wsL_law wsX6_isSame_r5 := goodIn_r _ [271, 73, 255, 256, 257, 258, 74, 259, 314, 251, 252, 253, 37, 254, 7, 8, 9, 260, 272, 273, 274, 275, 29, 49] (by decide +kernel) (by decide +kernel)
set_option maxRecDepth 20000 in
theorem gpL_law_X6_isSame_5 : GoodIn wsL_law wsX6_isSame_r6 := goodIn_r _ [276, 378, 278, 279, 91, 280, 281, 282, 283, 284, 96, 474, 475, 476, 477, 478, 350, 351, 48, 352, 79, 479, 480, 481] (by decide +kernel) (by decide +kernel)
set_option maxRecDepth 20000 in
theorem gpL_law_X6_isSame_6 : GoodIn wsL_law wsX6_isSame_r7 := goodIn_r _ [482, 483, 354, 355, 356, 81, 349, 484, 358, 359, 360, 82, 485, 346, 347, 348, 83, 486, 487, 488, 489, 156, 157, 158] (by decide +kernel) (by decide +kernel)
set_option maxRecDepth 20000 in
theorem gpL_law_X6_isSame_7 : GoodIn wsL_law wsX6_isSame_r8 := goodIn_r _ [159, 50, 490, 427, 428, 429, 430, 431, 432, 433, 27, 28, 30, 31, 434, 435, 436, 437, 438, 439, 440, 441, 442, 443] (by decide +kernel) (by decide +kernel)
set_option maxRecDepth 20000 in
set_option maxHeartbeats 4000000 in
theorem gpL_law_X6_isSame_8 : GoodIn wsL_law wsX6_isSame_r9 := by
  show ∀ w ∈ ([_, _, _, _, _, _, _, _, _, _, _, _, _, _, _, _, _, _] : List Cond), _
  exact List.forall_mem_cons.mpr ⟨⟨List.mem_of_getElem? (i := 444) rfl, good_of_word rfl⟩, List.forall_mem_cons.mpr ⟨⟨List.mem_of_getElem? (i := 445) rfl, good_of_word rfl⟩, List.forall_mem_cons.mpr ⟨⟨List.mem_of_getElem? (i := 32) rfl, good_of_word rfl⟩, List.forall_mem_cons.mpr ⟨⟨List.mem_of_getElem? (i := 491) rfl, good_of_word rfl⟩, List.forall_mem_cons.mpr ⟨⟨List.mem_of_getElem? (i := 492) rfl, good_of_word rfl⟩, List.forall_mem_cons.mpr ⟨⟨List.mem_of_getElem? (i := 493) rfl, good_of_word rfl⟩, List.forall_mem_cons.mpr ⟨⟨List.mem_of_getElem? (i := 494) rfl, good_of_word rfl⟩, List.forall_mem_cons.mpr ⟨⟨List.mem_of_getElem? (i := 4) rfl, good_of_word rfl⟩, List.forall_mem_cons.mpr ⟨⟨List.mem_of_getElem? (i := 374) rfl, good_of_word rfl⟩, List.forall_mem_cons.mpr ⟨⟨List.mem_of_getElem? (i := 95) rfl, good_of_word rfl⟩, List.forall_mem_cons.mpr ⟨⟨List.mem_of_getElem? (i := 377) rfl, good_of_word rfl⟩, List.forall_mem_cons.mpr ⟨⟨List.mem_of_getElem? (i := 376) rfl, good_of_word rfl⟩, List.forall_mem_cons.mpr ⟨⟨List.mem_of_getElem? (i := 98) rfl, good_of_word rfl⟩, List.forall_mem_cons.mpr ⟨⟨List.mem_of_getElem? (i := 495) rfl, good_of_word rfl⟩, List.forall_mem_cons.mpr ⟨⟨List.mem_of_getElem? (i := 496) rfl, good_of_word rfl⟩, List.forall_mem_cons.mpr ⟨⟨List.mem_of_getElem? (i := 497) rfl, good_of_word rfl⟩, List.forall_mem_cons.mpr ⟨⟨List.mem_of_getElem? (i := 498) rfl, good_of_word rfl⟩, List.forall_mem_cons.mpr ⟨⟨List.mem_of_getElem? (i := 208) rfl, good_of_word rfl⟩, fun _ h => absurd h List.not_mem_nil⟩⟩⟩⟩⟩⟩⟩⟩⟩⟩⟩⟩⟩⟩⟩⟩⟩⟩
set_option maxRecDepth 20000 in
theorem gpL_law_X6_isSame_wsX60 : GoodIn wsL_law wsX60 := goodIn_r _ [501, 502, 503, 504, 505, 506, 507, 508, 509, 510, 511, 512] (by decide +kernel) (by decide +kernel)
set_option maxRecDepth 20000 in
theorem gpL_law_X6_isSame_wsX50 : GoodIn wsL_law wsX50 := goodIn_r _ [499, 500] (by decide +kernel) (by decide +kernel)
set_option maxRecDepth 20000 in
theorem gpL_law_X6_isSame_wsX00 : GoodIn wsL_law wsX00 := goodIn_r _ [513, 514, 515, 516, 517, 518, 519, 520, 521, 522, 523, 524] (by decide +kernel) (by decide +kernel)
set_option maxRecDepth 20000 in
theorem gpL_law_X6_isSame_wsX40 : GoodIn wsL_law wsX40 := goodIn_r _ [525, 526, 527] (by decide +kernel) (by decide +kernel)
set_option maxRecDepth 20000 in
theorem gpL_law_X6_isSame_wsX10 : GoodIn wsL_law wsX10 := goodIn_r _ [528, 529, 530, 531] (by decide +kernel) (by decide +kernel)
set_option maxRecDepth 20000 in
theorem gpL_law_X6_isSame_wsX30 : GoodIn wsL_law wsX30 := goodIn_r _ [532, 533, 534, 535] (by decide +kernel) (by decide +kernel)
set_option maxRecDepth 20000 in
theorem gpL_law_X6_isSame_wsX20 : GoodIn wsL_law wsX20 := goodIn_r _ [536, 537, 538, 539, 540] (by decide +kernel) (by decide +kernel)
set_option maxRecDepth 20000 in
theorem ggL_law_X6_isSame : GoodIn wsL_law wsX6_isSame := goodIn_ca (goodIn_ca (goodIn_ca (goodIn_ca (goodIn_ca (goodIn_ca (goodIn_ca (goodIn_ca (goodIn_ca gpL_law_X6_isSame_0 (goodIn_app gpL_law_X6_isSame_1 (goodIn_app gpL_law_X6_isSame_2 (goodIn_app gpL_law_X6_isSame_3 (goodIn_app gpL_law_X6_isSame_4 (goodIn_app gpL_law_X6_isSame_5 (goodIn_app gpL_law_X6_isSame_6 (goodIn_app gpL_law_X6_isSame_7 gpL_law_X6_isSame_8)))))))) gpL_law_X6_isSame_wsX60) gpL_law_X6_isSame_wsX50) gpL_law_X6_isSame_wsX00) gpL_law_X6_isSame_wsX40) gpL_law_X6_isSame_wsX10) gpL_law_X6_isSame_wsX30) gpL_law_X6_isSame_wsX20) (goodIn_sub (fun _ h => List.mem_append_left _ (List.mem_append_left _ (List.mem_append_right _ h))) (by decide +kernel))
set_option maxRecDepth 20000 in
theorem gL_law_X6_isSame : GoodIn wsL_law (wsV RL 135 RX6 yX6_isSame wsX6_isSame) := goodIn_app (goodIn_of _ (by decide +kernel)) ggL_law_X6_isSame
end
section
abbrev vwCl : List vw_C := [(RX0, TX0, 12), (RX1, TX1, 4), (RX2, TX2, 5), (RX3, TX3, 4), (RX4, TX4, 3), (RX5, TX5, 2), (RX6, TX6, 12)]
theorem dJ9_floorMod_7cf53_0 : decode cJ9_floorMod_7cf53 0 = .ok (.iload_n 0, 1) := by decide +kernel
theorem dJ9_floorMod_7cf53_1 : decode cJ9_floorMod_7cf53 1 = .ok (.iload_n 1, 1) := by decide +kernel
theorem dJ9_floorMod_7cf53_2 : decode cJ9_floorMod_7cf53 2 = .ok (.irem, 1) := by decide +kernel
theorem dJ9_floorMod_7cf53_3 : decode cJ9_floorMod_7cf53 3 = .ok (.istore_n 2, 1) := by decide +kernel
theorem dJ9_floorMod_7cf53_4 : decode cJ9_floorMod_7cf53 4 = .ok (.iload_n 0, 1) := by decide +kernel
theorem dJ9_floorMod_7cf53_5 : decode cJ9_floorMod_7cf53 5 = .ok (.iload_n 1, 1) := by decide +kernel
theorem dJ9_floorMod_7cf53_6 : decode cJ9_floorMod_7cf53 6 = .ok (.ixor, 1) := by decide +kernel
theorem dJ9_floorMod_7cf53_7 : decode cJ9_floorMod_7cf53 7 = .ok (.ifCond .ge 11, 3) := by decide +kernel
theorem dJ9_floorMod_7cf53_10 : decode cJ9_floorMod_7cf53 10 = .ok (.iload_n 2, 1) := by decide +kernel
theorem dJ9_floorMod_7cf53_11 : decode cJ9_floorMod_7cf53 11 = .ok (.ifCond .eq 7, 3) := by decide +kernel
theorem dJ9_floorMod_7cf53_14 : decode cJ9_floorMod_7cf53 14 = .ok (.iload_n 2, 1) := by decide +kernel
theorem dJ9_floorMod_7cf53_15 : decode cJ9_floorMod_7cf53 15 = .ok (.iload_n 1, 1) := by decide +kernel
theorem dJ9_floorMod_7cf53_16 : decode cJ9_floorMod_7cf53 16 = .ok (.iadd, 1) := by decide +kernel
theorem dJ9_floorMod_7cf53_17 : decode cJ9_floorMod_7cf53 17 = .ok (.ireturn, 1) := by decide +kernel
theorem dJ9_floorMod_7cf53_18 : decode cJ9_floorMod_7cf53 18 = .ok (.iload_n 2, 1) := by decide +kernel
theorem dJ9_floorMod_7cf53_19 : decode cJ9_floorMod_7cf53 19 = .ok (.ireturn, 1) := by decide +kernel
theorem dJ9_min_7cf53_0 : decode cJ9_min_7cf53 0 = .ok (.iload_n 0, 1) := by decide +kernel
theorem dJ9_min_7cf53_1 : decode cJ9_min_7cf53 1 = .ok (.iload_n 1, 1) := by decide +kernel
theorem dJ9_min_7cf53_2 : decode cJ9_min_7cf53 2 = .ok (.if_icmp .gt 7, 3) := by decide +kernel
theorem dJ9_min_7cf53_5 : decode cJ9_min_7cf53 5 = .ok (.iload_n 0, 1) := by decide +kernel
theorem dJ9_min_7cf53_6 : decode cJ9_min_7cf53 6 = .ok (.goto 4, 3) := by decide +kernel
theorem dJ9_min_7cf53_9 : decode cJ9_min_7cf53 9 = .ok (.iload_n 1, 1) := by decide +kernel
theorem dJ9_min_7cf53_10 : decode cJ9_min_7cf53 10 = .ok (.ireturn, 1) := by decide +kernel
theorem dJ7_fill_53178_0 : decode cJ7_fill_53178 0 = .ok (.iconst 0, 1) := by decide +kernel
theorem dJ7_fill_53178_1 : decode cJ7_fill_53178 1 = .ok (.istore_n 2, 1) := by decide +kernel
theorem dJ7_fill_53178_2 : decode cJ7_fill_53178 2 = .ok (.aload_n 0, 1) := by decide +kernel
theorem dJ7_fill_53178_3 : decode cJ7_fill_53178 3 = .ok (.arraylength, 1) := by decide +kernel
theorem dJ7_fill_53178_4 : decode cJ7_fill_53178 4 = .ok (.istore_n 3, 1) := by decide +kernel
theorem dJ7_fill_53178_5 : decode cJ7_fill_53178 5 = .ok (.iload_n 2, 1) := by decide +kernel
theorem dJ7_fill_53178_6 : decode cJ7_fill_53178 6 = .ok (.iload_n 3, 1) := by decide +kernel
theorem dJ7_fill_53178_7 : decode cJ7_fill_53178 7 = .ok (.if_icmp .ge 13, 3) := by decide +kernel
theorem dJ7_fill_53178_10 : decode cJ7_fill_53178 10 = .ok (.aload_n 0, 1) := by decide +kernel
theorem dJ7_fill_53178_11 : decode cJ7_fill_53178 11 = .ok (.iload_n 2, 1) := by decide +kernel
theorem dJ7_fill_53178_12 : decode cJ7_fill_53178 12 = .ok (.iload_n 1, 1) := by decide +kernel
theorem dJ7_fill_53178_13 : decode cJ7_fill_53178 13 = .ok (.iastore, 1) := by decide +kernel
theorem dJ7_fill_53178_14 : decode cJ7_fill_53178 14 = .ok (.iinc 2 1, 3) := by decide +kernel
theorem dJ7_fill_53178_17 : decode cJ7_fill_53178 17 = .ok (.goto (-12), 3) := by decide +kernel
theorem dJ7_fill_53178_20 : decode cJ7_fill_53178 20 = .ok (.return_, 1) := by decide +kernel
end
section
abbrev FN : Type := Nat → Int32
/-- where the statics' tables lie, and the script: its place is sa.1 3 -/
abbrev SAT : Type := (Nat → Nat) × (Nat × FN)
/-- checks: an answer only where the check holds -/
def ckI {α : Type} (i : Int32) (n : Nat) (k : Option α) : Option α := if 0 ≤ i.toInt ∧ i.toInt < n then k else none
def ckZ {α : Type} (y : Int32) (k : Option α) : Option α := if y = 0 then none else k
def ckC {α : Type} (sp dp n : Int32) (n0 n1 : Nat) (k : Option α) : Option α := if ¬ sp < 0 ∧ ¬ dp < 0 ∧ ¬ n < 0 ∧ sp.toNatClampNeg + n.toNatClampNeg ≤ n0 ∧ dp.toNatClampNeg + n.toNatClampNeg ≤ n1 then k else none
theorem ckI_some {α : Type} {i : Int32} {n : Nat} {k : Option α} {r : α} (h : ckI i n k = some r) : vp_in i n ∧ k = some r := by
  unfold ckI at h
  by_cases c : 0 ≤ i.toInt ∧ i.toInt < n
  · rw [if_pos c] at h
    exact ⟨vp_in_iff.mpr c, h⟩
  · rw [if_neg c] at h
    cases h
theorem ckZ_some {α : Type} {y : Int32} {k : Option α} {r : α} (h : ckZ y k = some r) : ¬ y = 0 ∧ k = some r := by
  unfold ckZ at h
  by_cases c : y = 0
  · rw [if_pos c] at h
    cases h
  · rw [if_neg c] at h
    exact ⟨c, h⟩
theorem ckC_some {α : Type} {sp dp n : Int32} {n0 n1 : Nat} {k : Option α} {r : α} (h : ckC sp dp n n0 n1 k = some r) : (¬ sp < 0 ∧ ¬ dp < 0 ∧ ¬ n < 0 ∧ sp.toNatClampNeg + n.toNatClampNeg ≤ n0 ∧ dp.toNatClampNeg + n.toNatClampNeg ≤ n1) ∧ k = some r := by
  unfold ckC at h
  by_cases c : ¬ sp < 0 ∧ ¬ dp < 0 ∧ ¬ n < 0 ∧ sp.toNatClampNeg + n.toNatClampNeg ≤ n0 ∧ dp.toNatClampNeg + n.toNatClampNeg ≤ n1
  · rw [if_pos c] at h
    exact ⟨c, h⟩
  · rw [if_neg c] at h
    cases h
theorem bnd_some {α β : Type} {o : Option β} {k : β → Option α} {r : α} (h : o.bind k = some r) : ∃ z, o = some z ∧ k z = some r := by
  cases o with
  | none => cases h
  | some z => exact ⟨z, rfl, h⟩
theorem if_t {α : Type} {c : Prop} [Decidable c] {a b x : α} (h : (if c then a else b) = x) (hc : c) : a = x := by rw [if_pos hc] at h; exact h
theorem if_f {α : Type} {c : Prop} [Decidable c] {a b x : α} (h : (if c then a else b) = x) (hc : ¬ c) : b = x := by rw [if_neg hc] at h; exact h
/-- the statics of the class: three tables of numbers -/
def tPRICES : Nat → Value := fun j => .int (([3, 2, 1, 2] : List Int32).getD j 0)
def tSORT : Nat → Value := fun j => .int (([6, 3, 0] : List Int32).getD j 0)
def tWORTH : Nat → Value := fun j => .int (([12, 7, 3] : List Int32).getD j 0)
def nwL : List Cond := [.fieldLinkNest RX5 112 "RagVats$Mill" "moulds" "LRagVats$Moulds;" "RagVats", .fieldLinkNest RX5 116 "RagVats$Moulds" "number" "I" "RagVats", .fieldLinkNest RX5 143 "RagVats$Mill" "teams" "LRagVats$Teams;" "RagVats", .fieldLinkNest RX5 147 "RagVats$Teams" "number" "I" "RagVats", .fieldLinkNest RX5 172 "RagVats$Mill" "water" "[I" "RagVats", .fieldLinkNest RX5 190 "RagVats$Mill" "posts" "LRagVats$Posts;" "RagVats", .fieldLinkNest RX5 206 "RagVats$Mill" "made" "I" "RagVats", .fieldLinkNest RX5 42 "RagVats$Mill" "coins" "I" "RagVats", .fieldLinkNest RX5 51 "RagVats$Mill" "felts" "I" "RagVats", .fieldLinkNest RX5 81 "RagVats$Mill" "vats" "LRagVats$Vats;" "RagVats", .fieldLinkNest RX5 92 "RagVats$Mill" "rags" "[I" "RagVats", .fieldLinkNest RX0 101 "RagVats$Posts" "number" "I" "RagVats", .fieldLinkNest RX0 190 "RagVats" "SORT_POINTS" "[I" "RagVats", .fieldLinkNest RX0 94 "RagVats$Posts" "allSheets" "I" "RagVats"]
def nwF : List Cond := [.fieldLinkNest RX0 160 "RagVats$Teams" "number" "I" "RagVats"]
def nwM : List Cond := [.methodLinkNest RX0 174 yX5_worthOf "RagVats", .methodLinkNest RX0 43 yX1_init "RagVats", .methodLinkNest RX0 50 yX3_init "RagVats", .methodLinkNest RX0 57 yX2_init "RagVats", .methodLinkNest RX0 90 yX5_isBelow "RagVats", .methodLinkNest RX4 33 yX5_isBelow "RagVats", .methodLinkNest RL 91 yX6_init "RagVatsLaw"]
def nwC : List Cond := [.castable "[I" "java/lang/Cloneable", .castable "java/lang/IndexOutOfBoundsException" "java/lang/IndexOutOfBoundsException", .castable "java/lang/IllegalArgumentException" "java/lang/IllegalArgumentException", .castable "java/lang/IllegalStateException" "java/lang/IllegalStateException"]
def nwD : List Cond := [.declares (Bundle.initS "java/lang/RuntimeException"), .declares (Bundle.initS "java/lang/Exception"), .declares (Bundle.initS "java/lang/Throwable")]
def nwA : List Cond := nwL ++ nwF ++ nwM ++ nwC ++ nwD
theorem nwL_w : ∀ w ∈ nwL ++ nwF, ∀ {s U : State}, s.WarmedH U.vm → va_Nw w s → va_Nw w U := by
  show ∀ w ∈ ([_, _, _, _, _, _, _, _, _, _, _, _, _, _, _] : List Cond), ∀ {s U : State}, s.WarmedH U.vm → va_Nw w s → va_Nw w U
  exact List.forall_mem_cons.mpr ⟨fun h z => va_Nw.warmF h z, List.forall_mem_cons.mpr ⟨fun h z => va_Nw.warmF h z, List.forall_mem_cons.mpr ⟨fun h z => va_Nw.warmF h z, List.forall_mem_cons.mpr ⟨fun h z => va_Nw.warmF h z, List.forall_mem_cons.mpr ⟨fun h z => va_Nw.warmF h z, List.forall_mem_cons.mpr ⟨fun h z => va_Nw.warmF h z, List.forall_mem_cons.mpr ⟨fun h z => va_Nw.warmF h z, List.forall_mem_cons.mpr ⟨fun h z => va_Nw.warmF h z, List.forall_mem_cons.mpr ⟨fun h z => va_Nw.warmF h z, List.forall_mem_cons.mpr ⟨fun h z => va_Nw.warmF h z, List.forall_mem_cons.mpr ⟨fun h z => va_Nw.warmF h z, List.forall_mem_cons.mpr ⟨fun h z => va_Nw.warmF h z, List.forall_mem_cons.mpr ⟨fun h z => va_Nw.warmF h z, List.forall_mem_cons.mpr ⟨fun h z => va_Nw.warmF h z, List.forall_mem_cons.mpr ⟨fun h z => va_Nw.warmF h z, fun _ h => absurd h List.not_mem_nil⟩⟩⟩⟩⟩⟩⟩⟩⟩⟩⟩⟩⟩⟩⟩
theorem nwM_w : ∀ w ∈ nwM, ∀ {s U : State}, s.WarmedH U.vm → va_Nw w s → va_Nw w U := by
  show ∀ w ∈ ([_, _, _, _, _, _, _] : List Cond), ∀ {s U : State}, s.WarmedH U.vm → va_Nw w s → va_Nw w U
  exact List.forall_mem_cons.mpr ⟨fun h z => va_Nw.warmM h z, List.forall_mem_cons.mpr ⟨fun h z => va_Nw.warmM h z, List.forall_mem_cons.mpr ⟨fun h z => va_Nw.warmM h z, List.forall_mem_cons.mpr ⟨fun h z => va_Nw.warmM h z, List.forall_mem_cons.mpr ⟨fun h z => va_Nw.warmM h z, List.forall_mem_cons.mpr ⟨fun h z => va_Nw.warmM h z, List.forall_mem_cons.mpr ⟨fun h z => va_Nw.warmM h z, fun _ h => absurd h List.not_mem_nil⟩⟩⟩⟩⟩⟩⟩
theorem nwC_w : ∀ w ∈ nwC, ∀ {s U : State}, s.WarmedH U.vm → va_Nw w s → va_Nw w U := by
  show ∀ w ∈ ([_, _, _, _] : List Cond), ∀ {s U : State}, s.WarmedH U.vm → va_Nw w s → va_Nw w U
  exact List.forall_mem_cons.mpr ⟨fun h z => va_Nw.warmC h z, List.forall_mem_cons.mpr ⟨fun h z => va_Nw.warmC h z, List.forall_mem_cons.mpr ⟨fun h z => va_Nw.warmC h z, List.forall_mem_cons.mpr ⟨fun h z => va_Nw.warmC h z, fun _ h => absurd h List.not_mem_nil⟩⟩⟩⟩
theorem nwD_w : ∀ w ∈ nwD, ∀ {s U : State}, s.WarmedH U.vm → va_Nw w s → va_Nw w U := by
  show ∀ w ∈ ([_, _, _] : List Cond), ∀ {s U : State}, s.WarmedH U.vm → va_Nw w s → va_Nw w U
  exact List.forall_mem_cons.mpr ⟨fun h z => va_Nw.warmD h z, List.forall_mem_cons.mpr ⟨fun h z => va_Nw.warmD h z, List.forall_mem_cons.mpr ⟨fun h z => va_Nw.warmD h z, fun _ h => absurd h List.not_mem_nil⟩⟩⟩
theorem nwA_w : ∀ w ∈ nwA, ∀ {s U : State}, s.WarmedH U.vm → va_Nw w s → va_Nw w U := by
  intro w hw s U
  rcases List.mem_append.mp (show w ∈ ((nwL ++ nwF ++ nwM) ++ nwC) ++ nwD from hw) with hw | h
  rcases List.mem_append.mp hw with h | h
  · rcases List.mem_append.mp h with h | h
    · exact nwL_w w h
    · exact nwM_w w h
  · exact nwC_w w h
  · exact nwD_w w h
/-- the class of rows of ints has been made -/
def AOA (U : State) : Prop := (Cond.arrayOver (.array .int)).before #[] U = true
theorem AOA.moved {u U : State} (hvm : u.vm.Alike U.vm) (h : AOA u) : AOA U := by
  obtain ⟨comp, c, k, h1, h2, h3, h4, h5⟩ := arrayOverA_spec (args := #[]) (first := u) (o := none) (idx := []) h
  obtain ⟨k', hk', he⟩ := hvm.2.2 _ _ h3
  have hi : (U.vm.classes.findIdx? fun (x : Class) => match x.kind with | .array component _ => component == comp | _ => false) = some c := by
    have hbr : U.vm.bare = u.vm.bare := by first | exact hvm.bare_eq | exact hvm.bare_eq.symm
    refine (va_idx_bare U.vm comp).symm.trans ?_
    rw [hbr]
    exact (va_idx_bare u.vm comp).trans h2
  have hkind : k'.kind = .array comp (.array .int) := by rw [he]; exact h4
  have f1 : U.vm.findClass (FieldType.array .int).toString = some comp := by rw [hvm.findClass]; exact h1
  have f2 : U.vm.findClass ("[" ++ (FieldType.array .int).toString) = some c := by rw [hvm.findClass]; exact h5
  unfold AOA Cond.before Cond.holds
  simp only [Cond.value]
  rw [f1, Option.bind_some]
  refine (congrArg (fun o : Option Nat => (o.bind (fun c => (U.vm.classes[c]?).map fun (k : Class) => match k.kind with | .array _ ty => decide (ty = FieldType.array .int) && decide (U.vm.findClass ("[" ++ (FieldType.array .int).toString) = some c) | _ => false) == some true)) hi).trans ?_
  simp [hk', hkind, f2]
def ncL : List (String × String) := [("java/lang/IllegalArgumentException", "java/lang/IndexOutOfBoundsException"), ("java/lang/IllegalStateException", "java/lang/IndexOutOfBoundsException"), ("java/lang/IllegalStateException", "java/lang/IllegalArgumentException"), ("java/lang/IndexOutOfBoundsException", "java/lang/IllegalArgumentException")]
def strL : List (Nat × String) := [(100, "no such vat"), (102, "the vat is empty"), (108, "mark is not 0 to 9"), (110, "size is not 1 to 3"), (121, "there are 5 pairs"), (130, "no such pair"), (135, "the pair is not worn"), (141, "skill is not 1 to 12"), (150, "there are 3 teams"), (155, "no such team"), (160, "another team has this pair"), (168, "day is not 0 to 6"), (170, "water is not 0 to 9"), (175, "no such vat, or what is not 0 to 2"), (180, "no such pair, or what is not 0 to 3"), (185, "no such team, or what is not 0 to 3"), (197, "no such post, or what is not 0 to 2"), (200, "what is not 0 to 11"), (204, "days is not 1 to 40"), (212, "beat is not 1 to 99"), (25, "what is not 0 to 3"), (35, "many is not 1 to 99"), (48, "too few coins"), (54, "more than 90 felts"), (60, "no such mark or grade"), (62, "quires is not 1 to 9"), (67, "too few sheets in the loft"), (77, "no such vat or sort"), (79, "pounds is not 1 to 40"), (90, "the vat is not empty"), (95, "too few pounds")]
/-- what the tables say everywhere, beside the words -/
def GEt (U : State) : Prop := (∀ w ∈ nwA, va_Nw w U) ∧ (∀ q ∈ ncL, va_Nc q.1 q.2 U) ∧ (∀ q ∈ strL, ∃ a, vk_R RX5 q.1 q.2 a U) ∧ AOA U
/-- the statics -/
def GEh (sa : SAT) (A : Nat → Prop) (U : State) (H : Heap) : Prop := (va_Z RX5 "PRICES" "[I" (.ref (sa.1 0)) A U H ∧ va_T .int (sa.1 0) 4 tPRICES A U H) ∧ (va_Z RX5 "SORT_POINTS" "[I" (.ref (sa.1 1)) A U H ∧ va_T .int (sa.1 1) 3 tSORT A U H) ∧ (va_Z RX5 "SHEET_WORTH" "[I" (.ref (sa.1 2)) A U H ∧ va_T .int (sa.1 2) 3 tWORTH A U H) ∧ vx_Zq Bundle.tN "UNASSIGNED_STACK" Bundle.steD A U H ∧ vx_Zq Bundle.tN "SUPPRESSED_SENTINEL" Bundle.listD A U H ∧ va_T .int (sa.1 3) sa.2.1 (fun j => .int (sa.2.2 j)) A U H
def GE (sa : SAT) (A : Nat → Prop) (U : State) (H : Heap) : Prop := GEt U ∧ GEh sa A U H
theorem GE.moved {sa : SAT} {A : Nat → Prop} {s U : State} {H : Heap} (hW : s.WarmedH U.vm) (h : GE sa A s H) : GE sa A U H := by
  obtain ⟨⟨h1, h2, h3, h4⟩, ⟨a1, a2⟩, ⟨b1, b2⟩, ⟨c1, c2⟩, d1, e1, x1⟩ := h
  refine ⟨⟨fun w hw => nwA_w w hw hW (h1 w hw), fun q hq => (h2 q hq).moved hW.alike, fun q hq => ?_, h4.moved hW.alike⟩, ⟨a1.moved hW.alike, a2.moved hW.alike⟩, ⟨b1.moved hW.alike, b2.moved hW.alike⟩, ⟨c1.moved hW.alike, c2.moved hW.alike⟩, vx_Zq.moved hW.alike d1, vx_Zq.moved hW.alike e1, x1.moved hW.alike⟩
  obtain ⟨a, ha⟩ := h3 q hq
  exact ⟨a, vk_R.warm hW ha⟩
theorem GE.kept {sa : SAT} {A : Nat → Prop} {U : State} {H H1 : Heap} (h : GE sa A U H) (hq : ∀ a : Nat, a < H.size → ¬ A a → H1[a]? = H[a]?) : GE sa A U H1 := by
  obtain ⟨h1, ⟨a1, a2⟩, ⟨b1, b2⟩, ⟨c1, c2⟩, d1, e1, x1⟩ := h
  exact ⟨h1, ⟨a1.kept hq, a2.kept hq⟩, ⟨b1.kept hq, b2.kept hq⟩, ⟨c1.kept hq, c2.kept hq⟩, d1.kept hq, e1.kept hq, x1.kept hq⟩
theorem GE.narrow {sa : SAT} {A B : Nat → Prop} {U : State} {H : Heap} (h : GE sa A U H) (hq : ∀ q, B q → A q) : GE sa B U H := by
  obtain ⟨h1, ⟨a1, a2⟩, ⟨b1, b2⟩, ⟨c1, c2⟩, d1, e1, x1⟩ := h
  exact ⟨h1, ⟨a1.narrow hq, a2.narrow hq⟩, ⟨b1.narrow hq, b2.narrow hq⟩, ⟨c1.narrow hq, c2.narrow hq⟩, d1.narrow hq, e1.narrow hq, x1.narrow hq⟩
/-- a method's start over the world w -/
def KPc (D : va_G) (tys : List (ClassId × FieldType)) (sa : SAT) (w : va_W) (sz : Nat) : State → Prop := fun U => U.heap.size = sz ∧ va_P D vwCl w U.heap ∧ va_K D vwCl tys U ∧ va_D (fun _ => True) w ∧ GE sa (va_A w sz) U U.heap
/-- the world behind it -/
def KB (D : va_G) (tys : List (ClassId × FieldType)) (w : va_W) (sz : Nat) (w1 : (Nat → Nat) → va_W) : (Nat → Nat) → State → Prop := fun ad t => va_P D vwCl (w1 ad) t.heap ∧ va_K D vwCl tys t ∧ va_D (va_A w sz) (w1 ad)
theorem KPc_blind (D : va_G) (tys : List (ClassId × FieldType)) (sa : SAT) (w : va_W) (sz : Nat) (As : List Value) : FrameBlind (va_Pc As (KPc D tys sa w sz)) := by
  intro a U g mk q
  obtain ⟨q0, q1, qP, qK, qD, qG⟩ := q
  exact ⟨q0, q1, qP, va_K.moved (u := U) (U := U.calling g mk a) (Vm.Alike.refl U.vm) qK, qD, GE.moved (s := U) (U := U.calling g mk a) (State.WarmedH.refl U) qG⟩
/-- contracts: from any heap with the world w, the method answers r0, and the world is w1 -/
def KI (l : Launch) (D : va_G) (tys : List (ClassId × FieldType)) (sa : SAT) (y : MethodName) (ws : List Cond) (rm : Room) (As : List Value) (w : va_W) (r0 : Int32) (w1 : (Nat → Nat) → va_W) (mc ms : Nat) : Prop := ∀ sz : Nat, Met l y ws rm (va_Pc As (KPc D tys sa w sz)) (va_Qi (fun (r : Int32) (_ : Nat → Nat) => r = r0) (KB D tys w sz w1) (va_A w sz)) mc ms (va_A w sz)
def KL (l : Launch) (D : va_G) (tys : List (ClassId × FieldType)) (sa : SAT) (y : MethodName) (ws : List Cond) (rm : Room) (As : List Value) (w : va_W) (r0 : Int64) (w1 : (Nat → Nat) → va_W) (mc ms : Nat) : Prop := ∀ sz : Nat, Met l y ws rm (va_Pc As (KPc D tys sa w sz)) (va_Ql (fun (r : Int64) (_ : Nat → Nat) => r = r0) (KB D tys w sz w1) (va_A w sz)) mc ms (va_A w sz)
def KV (l : Launch) (D : va_G) (tys : List (ClassId × FieldType)) (sa : SAT) (y : MethodName) (ws : List Cond) (rm : Room) (As : List Value) (w : va_W) (w1 : (Nat → Nat) → va_W) (mc ms : Nat) : Prop := ∀ sz : Nat, Met l y ws rm (va_Pc As (KPc D tys sa w sz)) (va_Qv (fun (_ : Nat → Nat) => True) (KB D tys w sz w1) (va_A w sz)) mc ms (va_A w sz)
/-- what a body has at its entry -/
def KEn (D : va_G) (tys : List (ClassId × FieldType)) (sa : SAT) (y : MethodName) (ws : List Cond) (cc : ByteArray) (maxL : Nat) (As : List Value) (w : va_W) (p : Program) (s : State) (m : MethodId) (args : Array Value) (meth : Method) (c : Code) (A : Nat → Prop) (ls : Array Slot) : Prop :=
  p.tables.exec = Jvm.exec ∧ c.code = cc ∧ c.maxLocals = maxL ∧ s.vm.findClass y.cls = some m.cls ∧ (∀ q ∈ ws, q.before args s = true) ∧ (∀ q : Nat, s.heap.size ≤ q → A q) ∧ va_P D vwCl w s.heap ∧ va_K D vwCl tys s ∧ va_D A w ∧ GE sa A s s.heap ∧ lv_has ls maxL (lv_args 0 As) ∧ meth.name = y.name
theorem KI.of {l : Launch} {D : va_G} {tys : List (ClassId × FieldType)} {sa : SAT} {y : MethodName} {ws ws' : List Cond} {rm : Room} {As : List Value} {w : va_W} {r0 : Int32} {w1 : (Nat → Nat) → va_W} {mc ms : Nat} {cc : ByteArray} {maxL : Nat}
    (hy : plainName y.cls = true) (hw : ws = Cond.code y cc maxL (some .int) :: ws') (hlen : (lg_sl As).length ≤ maxL)
    (body : ∀ (p : Program) (e : Env) (s : State) (m : MethodId) (args : Array Value) (below : List Frame) (meth : Method) (c : Code) (A : Nat → Prop) (ls : Array Slot) (Q : State → Prop), KEn D tys sa y ws cc maxL As w p s m args meth c A ls →
      (∀ (H : Heap) (locs : List Loc) (cells slots pc : Nat) (ls : Array Slot) (ad : Nat → Nat), decode cc pc = .ok (.ireturn, 1) → va_P D vwCl (w1 ad) H → va_D A (w1 ad) → va_S A s.heap H locs → cells ≤ mc → slots ≤ ms → W p l e rm s m args below meth c H locs cells slots Q (F0 m pc ls [.int r0])) →
      W p l e rm s m args below meth c s.heap [] 0 0 Q (F0 m 0 ls [])) : KI l D tys sa y ws rm As w r0 w1 mc ms := by
  intro sz
  refine Met.ofW (cc := cc) (maxL := maxL) (ret := some .int) hy hw ?_
  intro p e s m args below meth c s₁ B hml hv
  obtain ⟨rfl, hsz, hP, hK, hD0, hG⟩ := hv
  have hx := B.exec
  have hb := B.bytes
  have hr := B.returns
  have hts := atoms_spec (ws := ws) B.pre
  have hown : s.vm.findClass y.cls = some m.cls := findClass_of_methodNamed B.named
  have hlocks := B.notSynchronized
  have hnm := (name_of_methodNamed B.named B.method).1
  subst hsz
  have hD := hD0.self (sz := s.heap.size)
  have hl := lv_entry As (n := maxL) hlen
  rw [lg_entry_eq]
  refine body p e s m _ below meth c (va_A w s.heap.size) _ _ ⟨hx, hb, hml, hown, hts, fun q h => Or.inr h, hP, hK, hD, hG, hl, hnm⟩ ?_
  intro H locs cells slots pc ls ad hdg hP1 hD1 hS h1 h2
  refine W.widen (k := mc) (n := ms) h1 h2 ?_
  exact W.iret (v := r0) hx hb hr (fun t ht hW => ⟨⟨r0, ad, rfl, rfl, by rw [ht]; exact hP1, va_K.moved hW.alike hK, hD1⟩, hS.F ht⟩) hS.2.2 hdg
theorem KI.ofZ {l : Launch} {D : va_G} {tys : List (ClassId × FieldType)} {sa : SAT} {y : MethodName} {ws ws' : List Cond} {rm : Room} {As : List Value} {w : va_W} {r0 : Int32} {w1 : (Nat → Nat) → va_W} {mc ms : Nat} {cc : ByteArray} {maxL : Nat}
    (hy : plainName y.cls = true) (hw : ws = Cond.code y cc maxL (some .boolean) :: ws') (hlen : (lg_sl As).length ≤ maxL)
    (body : ∀ (p : Program) (e : Env) (s : State) (m : MethodId) (args : Array Value) (below : List Frame) (meth : Method) (c : Code) (A : Nat → Prop) (ls : Array Slot) (Q : State → Prop), KEn D tys sa y ws cc maxL As w p s m args meth c A ls →
      (∀ (H : Heap) (locs : List Loc) (cells slots pc : Nat) (ls : Array Slot) (ad : Nat → Nat), narrow .boolean (.int r0) = .int r0 → decode cc pc = .ok (.ireturn, 1) → va_P D vwCl (w1 ad) H → va_D A (w1 ad) → va_S A s.heap H locs → cells ≤ mc → slots ≤ ms → W p l e rm s m args below meth c H locs cells slots Q (F0 m pc ls [.int r0])) →
      W p l e rm s m args below meth c s.heap [] 0 0 Q (F0 m 0 ls [])) : KI l D tys sa y ws rm As w r0 w1 mc ms := by
  intro sz
  refine Met.ofW (cc := cc) (maxL := maxL) (ret := some .boolean) hy hw ?_
  intro p e s m args below meth c s₁ B hml hv
  obtain ⟨rfl, hsz, hP, hK, hD0, hG⟩ := hv
  have hx := B.exec
  have hb := B.bytes
  have hr := B.returns
  have hts := atoms_spec (ws := ws) B.pre
  have hown : s.vm.findClass y.cls = some m.cls := findClass_of_methodNamed B.named
  have hlocks := B.notSynchronized
  have hnm := (name_of_methodNamed B.named B.method).1
  subst hsz
  have hD := hD0.self (sz := s.heap.size)
  have hl := lv_entry As (n := maxL) hlen
  rw [lg_entry_eq]
  refine body p e s m _ below meth c (va_A w s.heap.size) _ _ ⟨hx, hb, hml, hown, hts, fun q h => Or.inr h, hP, hK, hD, hG, hl, hnm⟩ ?_
  intro H locs cells slots pc ls ad hnr hdg hP1 hD1 hS h1 h2
  refine W.widen (k := mc) (n := ms) h1 h2 ?_
  exact W.zret (v := r0) hx hb hr hnr (fun t ht hW => ⟨⟨r0, ad, rfl, rfl, by rw [ht]; exact hP1, va_K.moved hW.alike hK, hD1⟩, hS.F ht⟩) hS.2.2 hdg
theorem KL.of {l : Launch} {D : va_G} {tys : List (ClassId × FieldType)} {sa : SAT} {y : MethodName} {ws ws' : List Cond} {rm : Room} {As : List Value} {w : va_W} {r0 : Int64} {w1 : (Nat → Nat) → va_W} {mc ms : Nat} {cc : ByteArray} {maxL : Nat}
    (hy : plainName y.cls = true) (hw : ws = Cond.code y cc maxL (some .long) :: ws') (hlen : (lg_sl As).length ≤ maxL)
    (body : ∀ (p : Program) (e : Env) (s : State) (m : MethodId) (args : Array Value) (below : List Frame) (meth : Method) (c : Code) (A : Nat → Prop) (ls : Array Slot) (Q : State → Prop), KEn D tys sa y ws cc maxL As w p s m args meth c A ls →
      (∀ (H : Heap) (locs : List Loc) (cells slots pc : Nat) (ls : Array Slot) (ad : Nat → Nat), decode cc pc = .ok (.lreturn, 1) → va_P D vwCl (w1 ad) H → va_D A (w1 ad) → va_S A s.heap H locs → cells ≤ mc → slots ≤ ms → W p l e rm s m args below meth c H locs cells slots Q (F0 m pc ls [.long r0])) →
      W p l e rm s m args below meth c s.heap [] 0 0 Q (F0 m 0 ls [])) : KL l D tys sa y ws rm As w r0 w1 mc ms := by
  intro sz
  refine Met.ofW (cc := cc) (maxL := maxL) (ret := some .long) hy hw ?_
  intro p e s m args below meth c s₁ B hml hv
  obtain ⟨rfl, hsz, hP, hK, hD0, hG⟩ := hv
  have hx := B.exec
  have hb := B.bytes
  have hr := B.returns
  have hts := atoms_spec (ws := ws) B.pre
  have hown : s.vm.findClass y.cls = some m.cls := findClass_of_methodNamed B.named
  have hlocks := B.notSynchronized
  have hnm := (name_of_methodNamed B.named B.method).1
  subst hsz
  have hD := hD0.self (sz := s.heap.size)
  have hl := lv_entry As (n := maxL) hlen
  rw [lg_entry_eq]
  refine body p e s m _ below meth c (va_A w s.heap.size) _ _ ⟨hx, hb, hml, hown, hts, fun q h => Or.inr h, hP, hK, hD, hG, hl, hnm⟩ ?_
  intro H locs cells slots pc ls ad hdg hP1 hD1 hS h1 h2
  refine W.widen (k := mc) (n := ms) h1 h2 ?_
  exact W.lret (v := r0) hx hb hr (fun t ht hW => ⟨⟨r0, ad, rfl, rfl, by rw [ht]; exact hP1, va_K.moved hW.alike hK, hD1⟩, hS.F ht⟩) hS.2.2 hdg
theorem KV.of {l : Launch} {D : va_G} {tys : List (ClassId × FieldType)} {sa : SAT} {y : MethodName} {ws ws' : List Cond} {rm : Room} {As : List Value} {w : va_W} {w1 : (Nat → Nat) → va_W} {mc ms : Nat} {cc : ByteArray} {maxL : Nat}
    (hy : plainName y.cls = true) (hw : ws = Cond.code y cc maxL none :: ws') (hlen : (lg_sl As).length ≤ maxL)
    (body : ∀ (p : Program) (e : Env) (s : State) (m : MethodId) (args : Array Value) (below : List Frame) (meth : Method) (c : Code) (A : Nat → Prop) (ls : Array Slot) (Q : State → Prop), KEn D tys sa y ws cc maxL As w p s m args meth c A ls →
      (∀ (H : Heap) (locs : List Loc) (cells slots pc : Nat) (ls : Array Slot) (ad : Nat → Nat), decode cc pc = .ok (.return_, 1) → va_P D vwCl (w1 ad) H → va_D A (w1 ad) → va_S A s.heap H locs → cells ≤ mc → slots ≤ ms → W p l e rm s m args below meth c H locs cells slots Q (F0 m pc ls [])) →
      W p l e rm s m args below meth c s.heap [] 0 0 Q (F0 m 0 ls [])) : KV l D tys sa y ws rm As w w1 mc ms := by
  intro sz
  refine Met.ofW (cc := cc) (maxL := maxL) (ret := none) hy hw ?_
  intro p e s m args below meth c s₁ B hml hv
  obtain ⟨rfl, hsz, hP, hK, hD0, hG⟩ := hv
  have hx := B.exec
  have hb := B.bytes
  have hr := B.returns
  have hts := atoms_spec (ws := ws) B.pre
  have hown : s.vm.findClass y.cls = some m.cls := findClass_of_methodNamed B.named
  have hlocks := B.notSynchronized
  have hnm := (name_of_methodNamed B.named B.method).1
  subst hsz
  have hD := hD0.self (sz := s.heap.size)
  have hl := lv_entry As (n := maxL) hlen
  rw [lg_entry_eq]
  refine body p e s m _ below meth c (va_A w s.heap.size) _ _ ⟨hx, hb, hml, hown, hts, fun q h => Or.inr h, hP, hK, hD, hG, hl, hnm⟩ ?_
  intro H locs cells slots pc ls ad hdg hP1 hD1 hS h1 h2
  refine W.widen (k := mc) (n := ms) h1 h2 ?_
  exact W.vret hx hb hr (fun t ht hW => ⟨⟨ad, rfl, trivial, by rw [ht]; exact hP1, va_K.moved hW.alike hK, hD1⟩, hS.F ht⟩) hS.2.2 hdg
/-- the world with the places is set anew -/
def kput : va_W → List Nat → va_W → va_W
  | w, i :: is, q :: qs => kput (w.set i q) is qs
  | w, [], _ => w
  | w, _ :: _, [] => w
theorem kput_get {k : Nat} {x : Nat × va_E} : ∀ (is : List Nat) (qs w : va_W), is.length = qs.length → (kput w is qs)[k]? = some x → (∃ j : Nat, is[j]? = some k ∧ qs[j]? = some x) ∨ (w[k]? = some x ∧ k ∉ is) := by
  intro is
  induction is with
  | nil =>
    intro qs w _ h
    exact Or.inr ⟨by simpa [kput] using h, List.not_mem_nil⟩
  | cons i is ih =>
    intro qs w hl h
    cases qs with
    | nil => simp at hl
    | cons q qs =>
      rcases ih qs (w.set i q) (by simpa using hl) h with ⟨j, h1, h2⟩ | ⟨h1, h2⟩
      · exact Or.inl ⟨j + 1, by simpa using h1, by simpa using h2⟩
      · by_cases hk : k = i
        · subst hk
          refine Or.inl ⟨0, rfl, ?_⟩
          have hlt : k < (w.set k q).length := (List.getElem?_eq_some_iff.mp h1).1
          rw [List.length_set] at hlt
          rw [List.getElem?_set_self hlt] at h1
          simpa using h1
        · rw [List.getElem?_set_ne (fun e => hk e.symm)] at h1
          refine Or.inr ⟨h1, fun hm => ?_⟩
          rcases List.mem_cons.mp hm with e | e
          · exact hk e
          · exact h2 e
theorem kmap_len {α β : Type} {is : List α} {g : α → Option β} {ws : List β} (h : is.map g = ws.map some) : is.length = ws.length := by
  have := congrArg List.length h
  simpa using this
theorem kmap_get {is : List Nat} {w wc : va_W} {j k : Nat} {x : Nat × va_E} (hC : is.map (fun i => w[i]?) = wc.map some) (h1 : is[j]? = some k) (h2 : wc[j]? = some x) : w[k]? = some x := by
  have h3 : (is.map (fun i => w[i]?))[j]? = some (some x) := by rw [hC, List.getElem?_map, h2]; rfl
  rw [List.getElem?_map, h1] at h3
  exact Option.some.inj h3
theorem kjoin {A0 : Nat → Prop} {D : va_G} {w wc wm : va_W} {H H1 : Heap} (hP : va_P D vwCl w H) (hD : va_D A0 w) (isC : List Nat) (hC : isC.map (fun i => w[i]?) = wc.map some) (hm : wm.map (fun q => q.1) = wc.map (fun q => q.1))
    (hk : ∀ q : Nat, q < H.size → ¬ va_A wc H.size q → H1[q]? = H[q]?) (hP1 : va_P D vwCl wm H1) : va_P D vwCl (kput w isC wm) H1 ∧ va_D A0 (kput w isC wm) := by
  have hlen : isC.length = wm.length := by
    have h1 := kmap_len hC
    have h2 := congrArg List.length hm
    rw [List.length_map, List.length_map] at h2
    omega
  have key : ∀ (k : Nat) (x : Nat × va_E), (kput w isC wm)[k]? = some x → ∃ e, w[k]? = some (x.1, e) := by
    intro k x hx
    rcases kput_get isC wm w hlen hx with ⟨j, h1, h2⟩ | ⟨h1, -⟩
    · have hj : (wm.map (fun q => q.1))[j]? = some x.1 := by rw [List.getElem?_map, h2]; rfl
      rw [hm, List.getElem?_map] at hj
      cases hw : wc[j]? with
      | none => rw [hw] at hj; cases hj
      | some y =>
        rw [hw] at hj
        have e1 : y.1 = x.1 := Option.some.inj hj
        have := kmap_get hC h1 hw
        exact ⟨y.2, by rw [this, ← e1]⟩
    · exact ⟨x.2, h1⟩
  refine ⟨fun k x hx => ?_, fun i j a b ha hb hab => ?_, fun k x hx => ?_⟩
  · rcases kput_get isC wm w hlen hx with ⟨j, h1, h2⟩ | ⟨h1, hn⟩
    · exact hP1 j x h2
    · refine (hP k x h1).kept (hk x.1 (hP k x h1).lt ?_)
      rintro (⟨k2, e, h⟩ | h)
      · have h3 : k2 < isC.length := by
          rw [kmap_len hC]
          exact (List.getElem?_eq_some_iff.mp h).1
        obtain ⟨i2, hi2⟩ : ∃ i2, isC[k2]? = some i2 := ⟨_, List.getElem?_eq_getElem h3⟩
        have h4 := kmap_get hC hi2 h
        have h5 := hD.1 i2 k _ _ h4 h1 rfl
        subst h5
        exact hn (List.mem_of_getElem? hi2)
      · exact absurd (hP k x h1).lt (Nat.not_lt.mpr h)
  · obtain ⟨e1, h1⟩ := key i a ha
    obtain ⟨e2, h2⟩ := key j b hb
    exact hD.1 i j _ _ h1 h2 hab
  · obtain ⟨e1, h1⟩ := key k x hx
    exact hD.2 k (x.1, e1) h1
/-- a reader's world comes back as it was -/
theorem kread {D : va_G} {w wc : va_W} {A0 : Nat → Prop} {H H1 : Heap} (hP : va_P D vwCl w H) (hD : va_D A0 w) (isC : List Nat) (hC : isC.map (fun i => w[i]?) = wc.map some)
    (hk : ∀ q : Nat, q < H.size → ¬ va_A wc H.size q → H1[q]? = H[q]?) (hP1 : va_P D vwCl wc H1) : va_P D vwCl w H1 := by
  intro k x hx
  by_cases hn : k ∈ isC
  · obtain ⟨j, hj⟩ := List.getElem?_of_mem hn
    have h3 : j < wc.length := by
      rw [← kmap_len hC]
      exact (List.getElem?_eq_some_iff.mp hj).1
    have h4 := kmap_get hC hj (List.getElem?_eq_getElem h3)
    rw [h4] at hx
    have := hP1 j _ (List.getElem?_eq_getElem h3)
    rw [Option.some.inj hx] at this
    exact this
  · refine (hP k x hx).kept (hk x.1 (hP k x hx).lt ?_)
    rintro (⟨k2, e, h⟩ | h)
    · have h3 : k2 < isC.length := by
        rw [kmap_len hC]
        exact (List.getElem?_eq_some_iff.mp h).1
      obtain ⟨i2, hi2⟩ : ∃ i2, isC[k2]? = some i2 := ⟨_, List.getElem?_eq_getElem h3⟩
      have h4 := kmap_get hC hi2 h
      have h5 := hD.1 i2 k _ _ h4 hx rfl
      subst h5
      exact hn (List.mem_of_getElem? hi2)
    · exact absurd (hP k x hx).lt (Nat.not_lt.mpr h)
end
section
section KC
variable {p : Program} {l : Launch} {e : Env} {R : Room} {s : State} {m : MethodId} {args : Array Value} {below : List Frame} {meth : Method} {c : Code} {H : Heap} {locs : List Loc} {cells slots : Nat} {Q : State → Prop}
variable {D : va_G} {tys : List (ClassId × FieldType)} {sa : SAT} {pc : Nat} {ls : Array Slot} {rest st0 : List Value} {a : Array Value} {A0 : Nat → Prop} {H0 : Heap} {mc ms : Nat} {w wc wm : va_W}
/-- behind a call: a reader's, a writer's -/
theorem krI {r0 : Int32} (hr : va_Run p l e R s m args below meth c H locs cells slots mc ms (F0 m pc ls st0) rest (va_Qi (fun (r : Int32) (_ : Nat → Nat) => r = r0) (KB D tys wc H.size (fun _ => wc)) (va_A wc H.size) a) (va_A wc H.size)) (hP : va_P D vwCl w H) (hD : va_D A0 w) (hS : va_S A0 H0 H locs) (hA : ∀ q, H0.size ≤ q → A0 q) (isC : List Nat) (hC : isC.map (fun i => w[i]?) = wc.map some)
    (kk : ∀ (H1 : Heap) (locs1 : List Loc), va_P D vwCl w H1 → va_S A0 H0 H1 locs1 → W p l e R s m args below meth c H1 locs1 (cells + mc) (slots + ms) Q (F0 m (pc + 3) ls (.int r0 :: rest))) : W p l e R s m args below meth c H locs cells slots Q (F0 m pc ls st0) := by
  have hF := va_free (wc := wc) hD hS hA isC hC
  refine va_calli hr hS (fun q _ h => hF q h) hF (fun r u t H1 locs1 ht hvm hw hB hz hk hS1 => ?_)
  subst hw
  obtain ⟨hP1, -, -⟩ := hB
  rw [ht] at hP1
  exact kk H1 locs1 (kread hP hD isC hC hk hP1) hS1
theorem krL {r0 : Int64} (hr : va_Run p l e R s m args below meth c H locs cells slots mc ms (F0 m pc ls st0) rest (va_Ql (fun (r : Int64) (_ : Nat → Nat) => r = r0) (KB D tys wc H.size (fun _ => wc)) (va_A wc H.size) a) (va_A wc H.size)) (hP : va_P D vwCl w H) (hD : va_D A0 w) (hS : va_S A0 H0 H locs) (hA : ∀ q, H0.size ≤ q → A0 q) (isC : List Nat) (hC : isC.map (fun i => w[i]?) = wc.map some)
    (kk : ∀ (H1 : Heap) (locs1 : List Loc), va_P D vwCl w H1 → va_S A0 H0 H1 locs1 → W p l e R s m args below meth c H1 locs1 (cells + mc) (slots + ms) Q (F0 m (pc + 3) ls (.long r0 :: rest))) : W p l e R s m args below meth c H locs cells slots Q (F0 m pc ls st0) := by
  have hF := va_free (wc := wc) hD hS hA isC hC
  refine va_calll hr hS (fun q _ h => hF q h) hF (fun r u t H1 locs1 ht hvm hw hB hz hk hS1 => ?_)
  subst hw
  obtain ⟨hP1, -, -⟩ := hB
  rw [ht] at hP1
  exact kk H1 locs1 (kread hP hD isC hC hk hP1) hS1
theorem kwI {r0 : Int32} (hr : va_Run p l e R s m args below meth c H locs cells slots mc ms (F0 m pc ls st0) rest (va_Qi (fun (r : Int32) (_ : Nat → Nat) => r = r0) (KB D tys wc H.size (fun _ => wm)) (va_A wc H.size) a) (va_A wc H.size)) (hP : va_P D vwCl w H) (hD : va_D A0 w) (hS : va_S A0 H0 H locs) (hA : ∀ q, H0.size ≤ q → A0 q) (isC : List Nat) (hC : isC.map (fun i => w[i]?) = wc.map some) (hm : wm.map (fun q => q.1) = wc.map (fun q => q.1))
    (kk : ∀ (H1 : Heap) (locs1 : List Loc), va_P D vwCl (kput w isC wm) H1 → va_D A0 (kput w isC wm) → va_S A0 H0 H1 locs1 → W p l e R s m args below meth c H1 locs1 (cells + mc) (slots + ms) Q (F0 m (pc + 3) ls (.int r0 :: rest))) : W p l e R s m args below meth c H locs cells slots Q (F0 m pc ls st0) := by
  have hF := va_free (wc := wc) hD hS hA isC hC
  refine va_calli hr hS (fun q _ h => hF q h) hF (fun r u t H1 locs1 ht hvm hw hB hz hk hS1 => ?_)
  subst hw
  obtain ⟨hP1, -, -⟩ := hB
  rw [ht] at hP1
  obtain ⟨g1, g2⟩ := kjoin hP hD isC hC hm hk hP1
  exact kk H1 locs1 g1 g2 hS1
theorem kwV (hr : va_Run p l e R s m args below meth c H locs cells slots mc ms (F0 m pc ls st0) rest (va_Qv (fun (_ : Nat → Nat) => True) (KB D tys wc H.size (fun _ => wm)) (va_A wc H.size) a) (va_A wc H.size)) (hP : va_P D vwCl w H) (hD : va_D A0 w) (hS : va_S A0 H0 H locs) (hA : ∀ q, H0.size ≤ q → A0 q) (isC : List Nat) (hC : isC.map (fun i => w[i]?) = wc.map some) (hm : wm.map (fun q => q.1) = wc.map (fun q => q.1))
    (kk : ∀ (H1 : Heap) (locs1 : List Loc), va_P D vwCl (kput w isC wm) H1 → va_D A0 (kput w isC wm) → va_S A0 H0 H1 locs1 → W p l e R s m args below meth c H1 locs1 (cells + mc) (slots + ms) Q (F0 m (pc + 3) ls rest)) : W p l e R s m args below meth c H locs cells slots Q (F0 m pc ls st0) := by
  have hF := va_free (wc := wc) hD hS hA isC hC
  refine va_callv hr hS (fun q _ h => hF q h) hF (fun u t H1 locs1 ht hvm hw hB hz hk hS1 => ?_)
  obtain ⟨hP1, -, -⟩ := hB
  rw [ht] at hP1
  obtain ⟨g1, g2⟩ := kjoin hP hD isC hC hm hk hP1
  exact kk H1 locs1 g1 g2 hS1
/-- a constructor's, or another's that makes cells: its own cells wm, and new ones -/
theorem knV {w1 : (Nat → Nat) → va_W} (hr : va_Run p l e R s m args below meth c H locs cells slots mc ms (F0 m pc ls st0) rest (va_Qv (fun (_ : Nat → Nat) => True) (KB D tys wc H.size w1) (va_A wc H.size) a) (va_A wc H.size)) (hP : va_P D vwCl w H) (hD : va_D A0 w) (hS : va_S A0 H0 H locs) (hA : ∀ q, H0.size ≤ q → A0 q) (isC isR : List Nat) (hC : isC.map (fun i => w[i]?) = wc.map some) (hR : isR.map (fun i => w[i]?) = (isR.filterMap (fun i => w[i]?)).map some) (hn : va_nd isR = true) (hdis : ∀ i ∈ isR, i ∉ isC)
    (kk : ∀ (ad : Nat → Nat) (H1 : Heap) (locs1 : List Loc), va_P D vwCl (isR.filterMap (fun i => w[i]?) ++ w1 ad) H1 → va_D A0 (isR.filterMap (fun i => w[i]?) ++ w1 ad) → va_S A0 H0 H1 locs1 → W p l e R s m args below meth c H1 locs1 (cells + mc) (slots + ms) Q (F0 m (pc + 3) ls rest)) : W p l e R s m args below meth c H locs cells slots Q (F0 m pc ls st0) := by
  have hF := va_free (wc := wc) hD hS hA isC hC
  refine va_callv hr hS (fun q _ h => hF q h) hF (fun u t H1 locs1 ht hvm hw hB hz hk hS1 => ?_)
  obtain ⟨hP1, -, hD1⟩ := hB
  rw [ht] at hP1
  obtain ⟨g1, g2⟩ := va_join hP hD isC isR hC hR hn hdis hk hF hP1 hD1
  exact kk u H1 locs1 g1 g2 hS1
variable {y : MethodName} {bytes cc : ByteArray} {maxL nL n index : Nat} {ret : Option FieldType} {ws : List Cond} {rm : Room} {Qc : Array Value → State → Outcome → State → Prop} {free : Addr → Prop} {Ts : List Cond} {own C host : String} {b : Addr} {As : List Value}
theorem kpre {A : Nat → Prop} (hP : va_P D vwCl w H) (hD : va_D A w) (hK : va_K D vwCl tys s) (hS : va_S A s.heap H locs) (hA : ∀ q, s.heap.size ≤ q → A q) (hG : GE sa A s s.heap) (isC : List Nat) (hC : isC.map (fun i => w[i]?) = wc.map some) (hnd : va_nd isC = true) {U : State} (hU : U.heap = H) (hW : s.WarmedH U.vm) : KPc D tys sa wc H.size U := by
  have hF := va_free (wc := wc) hD hS hA isC hC
  refine ⟨by rw [hU], ?_, hK.moved hW.alike, (hD.sub isC hnd hC).weaken (fun _ _ _ _ => trivial), ?_⟩
  · rw [hU]
    intro k q hq
    have h1 : k < isC.length := by
      rw [kmap_len hC]
      exact (List.getElem?_eq_some_iff.mp hq).1
    exact hP _ q (kmap_get hC (List.getElem?_eq_getElem h1) hq)
  · rw [hU]
    exact ((hG.kept hS.2.1).moved hW).narrow hF
/-- runs: virtual, static, a nest mate's, constructors -/
theorem kV {A : Nat → Prop} (S : CallFix p m c cc nL s args Ts own) (hM : Met l y ws rm (va_Pc (.ref b :: As) (KPc D tys sa wc H.size)) Qc mc ms free) (cw : CallW R s args own C index y bytes maxL ret ws rm mc ms n) (hK : va_K D vwCl tys s) (hP : va_P D vwCl w H) (hD : va_D A w) (hS : va_S A s.heap H locs) (hA : ∀ q, s.heap.size ≤ q → A q) (hG : GE sa A s s.heap) (isC : List Nat) (hC : isC.map (fun i => w[i]?) = wc.map some) (hnd : va_nd isC = true)
    {ci : Nat} {fs : List Value} {q : vw_C} (hb : wc[0]? = some (b, .inr (ci, fs))) (hc : vwCl[ci]? = some q) (hq : q.1 = C) (hn : As.length = n) (hls : ls.size = nL) (rest : List Value) (hst : st0 = As.reverse ++ .ref b :: rest) (hcat : (rest.map fun v => v.category).sum ≤ 8) (hdg : decode cc pc = .ok (.invokevirtual index, 3)) (hf : cells + mc ≤ R.cells ∧ slots + ms ≤ R.slots) :
    va_Run p l e R s m args below meth c H locs cells slots mc ms (F0 m pc ls st0) rest (Qc (Value.ref b :: As).toArray) free := by
  subst hq
  have hPc : va_P D vwCl wc H := fun k q hq => by
    have h1 : k < isC.length := by
      rw [kmap_len hC]
      exact (List.getElem?_eq_some_iff.mp hq).1
    exact hP _ q (kmap_get hC (List.getElem?_eq_getElem h1) hq)
  exact va_runV S hM cw ⟨KPc_blind _ _ _ _ _ _, va_recv hK hPc hc hb, fun U hU hW => ⟨rfl, kpre hP hD hK hS hA hG isC hC hnd hU hW⟩⟩ rfl hn hls hst (lv_room hcat) hdg hf
theorem kVN {A : Nat → Prop} (S : CallFix p m c cc nL s args Ts own) (hM : Met l y ws rm (va_Pc (.ref b :: As) (KPc D tys sa wc H.size)) Qc mc ms free) (cw : va_CN R s args own index y host bytes maxL ret ws rm mc ms n ∧ (Cond.instanceMethod y).before args s = true ∧ (Cond.selects C y y).before args s = true) (hK : va_K D vwCl tys s) (hP : va_P D vwCl w H) (hD : va_D A w) (hS : va_S A s.heap H locs) (hA : ∀ q, s.heap.size ≤ q → A q) (hG : GE sa A s s.heap) (isC : List Nat) (hC : isC.map (fun i => w[i]?) = wc.map some) (hnd : va_nd isC = true)
    {ci : Nat} {fs : List Value} {q : vw_C} (hb : wc[0]? = some (b, .inr (ci, fs))) (hc : vwCl[ci]? = some q) (hq : q.1 = C) (hn : As.length = n) (hls : ls.size = nL) (rest : List Value) (hst : st0 = As.reverse ++ .ref b :: rest) (hcat : (rest.map fun v => v.category).sum ≤ 8) (hdg : decode cc pc = .ok (.invokevirtual index, 3)) (hf : cells + mc ≤ R.cells ∧ slots + ms ≤ R.slots) :
    va_Run p l e R s m args below meth c H locs cells slots mc ms (F0 m pc ls st0) rest (Qc (Value.ref b :: As).toArray) free := by
  subst hq
  have hPc : va_P D vwCl wc H := fun k q hq => by
    have h1 : k < isC.length := by
      rw [kmap_len hC]
      exact (List.getElem?_eq_some_iff.mp hq).1
    exact hP _ q (kmap_get hC (List.getElem?_eq_getElem h1) hq)
  exact va_runVN S hM cw ⟨KPc_blind _ _ _ _ _ _, va_recv hK hPc hc hb, fun U hU hW => ⟨rfl, kpre hP hD hK hS hA hG isC hC hnd hU hW⟩⟩ rfl hn hls hst (lv_room hcat) hdg hf
theorem kS {A : Nat → Prop} (S : CallFix p m c cc nL s args Ts own) (hM : Met l y ws rm (va_Pc As (KPc D tys sa wc H.size)) Qc mc ms free) (cw : CallB R s args own index y bytes maxL ret ws rm mc ms n ∧ (Cond.static y).before args s = true) (hK : va_K D vwCl tys s) (hP : va_P D vwCl w H) (hD : va_D A w) (hS : va_S A s.heap H locs) (hA : ∀ q, s.heap.size ≤ q → A q) (hG : GE sa A s s.heap) (isC : List Nat) (hC : isC.map (fun i => w[i]?) = wc.map some) (hnd : va_nd isC = true)
    (hn : As.length = n) (hls : ls.size = nL) (rest : List Value) (hst : st0 = As.reverse ++ rest) (hcat : (rest.map fun v => v.category).sum ≤ 8) (hdg : decode cc pc = .ok (.invokestatic index, 3)) (hf : cells + mc ≤ R.cells ∧ slots + ms ≤ R.slots) :
    va_Run p l e R s m args below meth c H locs cells slots mc ms (F0 m pc ls st0) rest (Qc As.toArray) free :=
  va_runS S hM cw ⟨KPc_blind _ _ _ _ _ _, fun U hU hW => ⟨rfl, kpre hP hD hK hS hA hG isC hC hnd hU hW⟩⟩ rfl hn hls hst (lv_room hcat) hdg hf
theorem kSN {A : Nat → Prop} (S : CallFix p m c cc nL s args Ts own) (hM : Met l y ws rm (va_Pc As (KPc D tys sa wc H.size)) Qc mc ms free) (cw : va_CN R s args own index y host bytes maxL ret ws rm mc ms n ∧ (Cond.static y).before args s = true ∧ True) (hK : va_K D vwCl tys s) (hP : va_P D vwCl w H) (hD : va_D A w) (hS : va_S A s.heap H locs) (hA : ∀ q, s.heap.size ≤ q → A q) (hG : GE sa A s s.heap) (isC : List Nat) (hC : isC.map (fun i => w[i]?) = wc.map some) (hnd : va_nd isC = true)
    (hn : As.length = n) (hls : ls.size = nL) (rest : List Value) (hst : st0 = As.reverse ++ rest) (hcat : (rest.map fun v => v.category).sum ≤ 8) (hdg : decode cc pc = .ok (.invokestatic index, 3)) (hf : cells + mc ≤ R.cells ∧ slots + ms ≤ R.slots) :
    va_Run p l e R s m args below meth c H locs cells slots mc ms (F0 m pc ls st0) rest (Qc As.toArray) free :=
  va_runSN S hM cw ⟨KPc_blind _ _ _ _ _ _, fun U hU hW => ⟨rfl, kpre hP hD hK hS hA hG isC hC hnd hU hW⟩⟩ rfl hn hls hst (lv_room hcat) hdg hf
theorem kN {A : Nat → Prop} (S : CallFix p m c cc nL s args Ts own) (hM : Met l y ws rm (va_Pc (.ref b :: As) (KPc D tys sa wc H.size)) Qc mc ms free) (cw : CallB R s args own index y bytes maxL none ws rm mc ms n ∧ y.name = "<init>" ∧ (Cond.instanceMethod y).before args s = true) (hK : va_K D vwCl tys s) (hP : va_P D vwCl w H) (hD : va_D A w) (hS : va_S A s.heap H locs) (hA : ∀ q, s.heap.size ≤ q → A q) (hG : GE sa A s s.heap) (isC : List Nat) (hC : isC.map (fun i => w[i]?) = wc.map some) (hnd : va_nd isC = true)
    (hn : As.length = n) (hls : ls.size = nL) (rest : List Value) (hst : st0 = As.reverse ++ .ref b :: rest) (hcat : (rest.map fun v => v.category).sum ≤ 8) (hdg : decode cc pc = .ok (.invokespecial index, 3)) (hf : cells + mc ≤ R.cells ∧ slots + ms ≤ R.slots) :
    va_Run p l e R s m args below meth c H locs cells slots mc ms (F0 m pc ls st0) rest (Qc (Value.ref b :: As).toArray) free :=
  va_runI S hM cw ⟨KPc_blind _ _ _ _ _ _, fun U hU hW => ⟨rfl, kpre hP hD hK hS hA hG isC hC hnd hU hW⟩⟩ rfl hn hls hst (lv_room hcat) hdg hf
theorem kNN {A : Nat → Prop} (S : CallFix p m c cc nL s args Ts own) (hM : Met l y ws rm (va_Pc (.ref b :: As) (KPc D tys sa wc H.size)) Qc mc ms free) (cw : va_CN R s args own index y host bytes maxL none ws rm mc ms n ∧ y.name = "<init>" ∧ (Cond.instanceMethod y).before args s = true) (hK : va_K D vwCl tys s) (hP : va_P D vwCl w H) (hD : va_D A w) (hS : va_S A s.heap H locs) (hA : ∀ q, s.heap.size ≤ q → A q) (hG : GE sa A s s.heap) (isC : List Nat) (hC : isC.map (fun i => w[i]?) = wc.map some) (hnd : va_nd isC = true)
    (hn : As.length = n) (hls : ls.size = nL) (rest : List Value) (hst : st0 = As.reverse ++ .ref b :: rest) (hcat : (rest.map fun v => v.category).sum ≤ 8) (hdg : decode cc pc = .ok (.invokespecial index, 3)) (hf : cells + mc ≤ R.cells ∧ slots + ms ≤ R.slots) :
    va_Run p l e R s m args below meth c H locs cells slots mc ms (F0 m pc ls st0) rest (Qc (Value.ref b :: As).toArray) free :=
  va_runIN S hM cw ⟨KPc_blind _ _ _ _ _ _, fun U hU hW => ⟨rfl, kpre hP hD hK hS hA hG isC hC hnd hU hW⟩⟩ rfl hn hls hst (lv_room hcat) hdg hf
/-- a new array of ints, its class the known one -/
theorem kcls {cI cA : ClassId} {ty : FieldType} (h : va_K D vwCl (tys ++ [(cA, ty)]) s) (t0 : Nat) (ht : tys[t0]? = some (cI, ty)) (hty : va_RA s cI ty → va_RA s cA ty → cI = cA) : cI = cA := by
  have h1 := (h.2 t0 (cI, ty) (by rw [List.getElem?_append_left (List.getElem?_eq_some_iff.mp ht).1]; exact ht)).2
  have h2 := (h.2 tys.length (cA, ty) (by simp)).2
  exact hty h1 h2
end KC
/-- the arrays' classes: of ints, of rows of ints, of longs -/
abbrev tyW (cy : Nat → ClassId) : List (ClassId × FieldType) := [(cy 0, .int), (cy 1, .array .int), (cy 2, .long)]
theorem arrV_congr {c : ClassId} {n : Nat} {f g : Nat → Value} (h : ∀ j, j < n → f j = g j) : arrV c n f = arrV c n g := by
  have hs : ∀ f : Nat → Value, (arrV c n f).slots.size = n := fun f => arrV_size c n f
  have e : (arrV c n f).slots = (arrV c n g).slots := by
    apply Array.ext
    · rw [hs, hs]
    · intro i h1 h2
      rw [hs] at h1
      have a1 := arrV_read c f h1
      have a2 := arrV_read c g h1
      rw [Array.getElem?_eq_getElem (by rw [hs]; exact h1)] at a1 a2
      rw [Option.some.inj a1, Option.some.inj a2, h i h1]
  have e2 : ∀ f : Nat → Value, arrV c n f = { cls := c, slots := (arrV c n f).slots, vm := .none } := fun f => rfl
  rw [e2 f, e2 g, e]
/-- a whole row copied holds what the other holds -/
theorem kcopy {D : va_G} {cl : List vw_C} {w : va_W} {H : Heap} {q1 a : Nat} {c1 : ClassId} {n : Nat} {f g : Nat → Int32} {N : Nat} (h : va_P D cl (w.set q1 (a, .inl (c1, N, .inl (va_cpy f g 0 0 n)))) H) (hn : N = n) : va_P D cl (w.set q1 (a, .inl (c1, N, .inl f))) H := by
  subst hn
  intro k q hq
  by_cases hk : k = q1
  · subst hk
    have hl : k < (w.set k (a, .inl (c1, N, .inl f))).length := (List.getElem?_eq_some_iff.mp hq).1
    rw [List.length_set] at hl
    rw [List.getElem?_set_self hl] at hq
    cases hq
    have h2 := h k (a, .inl (c1, N, .inl (va_cpy f g 0 0 N))) (by rw [List.getElem?_set_self hl])
    refine Eq.trans h2 (congrArg some ?_)
    show vp_cell c1 (N, .inl (va_cpy f g 0 0 N)) = vp_cell c1 (N, .inl f)
    rw [vp_cell_i, vp_cell_i]
    refine arrV_congr (fun j hj => ?_)
    show Value.int (va_cpy f g 0 0 N j) = Value.int (f j)
    rw [pk_cpy_in (Nat.zero_le j) (by omega), Nat.zero_add, Nat.sub_zero]
  · rw [List.getElem?_set_ne (fun e => hk e.symm)] at hq
    exact h k q (by rw [List.getElem?_set_ne (fun e => hk e.symm)]; exact hq)
theorem kcopyD {A : Nat → Prop} {w : va_W} {q1 a : Nat} {e e2 : va_E} (h : va_D A (w.set q1 (a, e))) : va_D A (w.set q1 (a, e2)) := by
  by_cases hl : q1 < w.length
  · have := h.set (p := q1) (a := a) (e0 := e) (e := e2) (by rw [List.getElem?_set_self hl])
    rw [List.set_set] at this
    exact this
  · rw [List.set_eq_of_length_le (by omega)] at h ⊢
    exact h
end
section
/-! throwing -/
abbrev exNames : List String := ["java/lang/RuntimeException", "java/lang/Exception"]
def exN : Nat → String
  | 0 => "java/lang/IndexOutOfBoundsException"
  | 1 => "java/lang/IllegalArgumentException"
  | _ => "java/lang/IllegalStateException"
def KX (l : Launch) (D : va_G) (tys : List (ClassId × FieldType)) (sa : SAT) (y : MethodName) (ws : List Cond) (rm : Room) (As : List Value) (w : va_W) (E0 : String) (mc ms : Nat) : Prop := ∀ sz : Nat, vx_Met l y ws rm (va_Pc As (KPc D tys sa w sz)) (va_Qi (fun (_ : Int32) (_ : Unit) => False) (fun _ _ => True) (va_A w sz)) (vx_X (fun (_ : Unit) => True) (fun E _ t => E = E0 ∧ va_P D vwCl w t.heap ∧ va_K D vwCl tys t ∧ va_D (va_A w sz) w) (va_A w sz)) mc ms (va_A w sz)
theorem KX.of {l : Launch} {D : va_G} {tys : List (ClassId × FieldType)} {sa : SAT} {y : MethodName} {ws ws' : List Cond} {rm : Room} {As : List Value} {w : va_W} {E0 : String} {mc ms : Nat} {cc : ByteArray} {maxL : Nat} {ret : Option FieldType} (hst : l.stackTraces = false)
    (hy : plainName y.cls = true) (hw : ws = Cond.code y cc maxL ret :: ws') (hlen : (lg_sl As).length ≤ maxL) (hrf : 6 ≤ rm.frames) (hrl : 98 ≤ rm.locals) (hrc : mc ≤ rm.cells) (hrs : ms ≤ rm.slots)
    (body : ∀ (p : Program) (e : Env) (s : State) (m : MethodId) (args : Array Value) (below : List Frame) (meth : Method) (c : Code) (A : Nat → Prop) (ls : Array Slot) (Q : State → Prop), KEn D tys sa y ws cc maxL As w p s m args meth c A ls →
      (∀ (H : Heap) (locs : List Loc) (cells slots pc ik is ic : Nat) (ls : Array Slot) (rest : List Value) (text : String), decode cc pc = .ok (.new ik, 3) → decode cc (pc + 3) = .ok (.dup, 1) → decode cc (pc + 4) = .ok (.ldc is, 2) → decode cc (pc + 6) = .ok (.invokespecial ic, 3) → decode cc (pc + 9) = .ok (.athrow, 1) →
        (Cond.classLink RX5 ik E0).before args s = true → (Cond.initialized E0).before args s = true → (is, text) ∈ strL → (∀ q ∈ vx_atS RX5 ic E0 exNames, q.before args s = true) → (Bundle.fit E0 = true ∧ (∀ q ∈ Cond.classLink RX5 ik E0 :: Cond.initialized E0 :: vx_atS RX5 ic E0 exNames, vx_ot q = true)) →
        va_P D vwCl w H → va_D A w → va_S A s.heap H locs → ls.size = maxL → (rest.map fun v => v.category).sum ≤ 8 → cells + 1 ≤ mc → slots + 6 ≤ ms → W p l e rm s m args below meth c H locs cells slots Q (F0 m pc ls rest)) →
      W p l e rm s m args below meth c s.heap [] 0 0 Q (F0 m 0 ls [])) (hyc : y.cls = RX5 := by rfl) : KX l D tys sa y ws rm As w E0 mc ms := by
  intro sz
  refine vx_ofW (cc := cc) (maxL := maxL) (ret := ret) hy hw ?_
  intro p e s m args below meth c s₁ B hml htab hv
  obtain ⟨rfl, hsz, hP, hK, hD0, hG⟩ := hv
  have hx := B.exec
  have hb := B.bytes
  have hr := B.returns
  have hts := atoms_spec (ws := ws) B.pre
  have hown : s.vm.findClass y.cls = some m.cls := findClass_of_methodNamed B.named
  have hlocks := B.notSynchronized
  have hnm := (name_of_methodNamed B.named B.method).1
  subst hsz
  have hD := hD0.self (sz := s.heap.size)
  have hl := lv_entry As (n := maxL) hlen
  rw [lg_entry_eq]
  refine body p e s m _ below meth c (va_A w s.heap.size) _ _ ⟨hx, hb, hml, hown, hts, fun q h => Or.inr h, hP, hK, hD, hG, hl, hnm⟩ ?_
  intro H locs cells slots pc ik is ic ls rest text d0 d3 d4 d6 d9 hk hini hstr hat hgood hP1 hD1 hS hls hcat h1 h2
  obtain ⟨sa9, hstr⟩ := hG.1.2.2.1 _ hstr
  have hownR : s.vm.findClass RX5 = some m.cls := by rw [← hyc]; exact hown
  refine vx_throwS (own := RX5) (cls := E0) (text := text) (names := exNames) (A := va_A w s.heap.size) hx hb hst hownR hgood.1 (by decide +kernel) hk hini hstr hat hgood.2 hG.2.2.2.2.1 hG.2.2.2.2.2.1 hS (hls.trans hml.symm) d0 d3 d4 d6 d9 (fun x hx9 => (htab x hx9).elim) (Nat.lt_of_lt_of_le (by decide) hrf) (Nat.le_trans (Nat.add_le_add hcat (Nat.le_of_ble_eq_true rfl : 13 * (exNames.length + 1) + 43 ≤ 90)) hrl) (Nat.le_trans h1 hrc) (Nat.le_trans h2 hrs) hlocks ?_ hS.2.2 h1 h2
  intro t hvm hz hk9
  refine ⟨(), trivial, ⟨rfl, hP1.kept (fun k q hq => hk9 q.1 (hP1 k q hq).lt), hK.moved hvm, hD1⟩, Nat.le_trans hS.1 hz, fun q g1 g2 => ?_⟩
  rw [hk9 q (Nat.lt_of_lt_of_le g1 hS.1)]
  exact hS.2.1 q g1 g2
end
section
theorem Met_ofWF {l : Launch} {y : MethodName} {ws ws' : List Cond} {rm : Room} {Pc : Array Value → State → Prop} {Qc : Array Value → State → Outcome → State → Prop} {mc ms : Nat} {free : Addr → Prop} {cc : ByteArray} {maxL : Nat} {ret : Option FieldType}
    (hy : plainFor y = true) (hw : ws = Cond.code y cc maxL ret :: ws')
    (body : ∀ p e s m args below meth c s₁, BodyLoose p l y (headSpec ws rm) cc maxL ret e s m args below meth c s₁ → c.maxLocals = maxL → Pc args s →
      W p l e (headSpec ws rm).room s m args below meth c s.heap [] 0 0 (MQ below Qc args s mc ms free) (entryFrame m args maxL)) : Met l y ws rm Pc Qc mc ms free := by
  refine MetFree.of_bodySF (code := cc) (maxLocals := maxL) (ret := ret) hy ?_ ?_
  · intro args s m h hn
    obtain ⟨meth, c, h1, h2, h3, h4, h5, h6, -, -⟩ := Cond.code_spec hn (atoms_spec (ws := ws) h _ (by rw [hw]; exact List.mem_cons_self))
    exact ⟨meth, c, h1, h2, h3, h4, h5, h6⟩
  · intro p e s m args below meth c s₁ B hml hP _
    have hh0 : s₁.heap = s.heap := by rw [B.state]; rfl
    obtain ⟨t, a1, o, b1, b2, b3⟩ := body p e s m args below meth c s₁ B hml hP s₁ hh0 (Stand.of_body B)
    exact ⟨t, o, a1, b1, b2, ⟨b3.1, b3.2⟩⟩
theorem KI.ofF {l : Launch} {D : va_G} {tys : List (ClassId × FieldType)} {sa : SAT} {y : MethodName} {ws ws' : List Cond} {rm : Room} {As : List Value} {w : va_W} {r0 : Int32} {w1 : (Nat → Nat) → va_W} {mc ms : Nat} {cc : ByteArray} {maxL : Nat}
    (hy : plainFor y = true) (hw : ws = Cond.code y cc maxL (some .int) :: ws') (hlen : (lg_sl As).length ≤ maxL)
    (body : ∀ (p : Program) (e : Env) (s : State) (m : MethodId) (args : Array Value) (below : List Frame) (meth : Method) (c : Code) (A : Nat → Prop) (ls : Array Slot) (Q : State → Prop), KEn D tys sa y ws cc maxL As w p s m args meth c A ls →
      (∀ (H : Heap) (locs : List Loc) (cells slots pc : Nat) (ls : Array Slot) (ad : Nat → Nat), decode cc pc = .ok (.ireturn, 1) → va_P D vwCl (w1 ad) H → va_D A (w1 ad) → va_S A s.heap H locs → cells ≤ mc → slots ≤ ms → W p l e rm s m args below meth c H locs cells slots Q (F0 m pc ls [.int r0])) →
      W p l e rm s m args below meth c s.heap [] 0 0 Q (F0 m 0 ls [])) : KI l D tys sa y ws rm As w r0 w1 mc ms := by
  intro sz
  refine Met_ofWF (cc := cc) (maxL := maxL) (ret := some .int) hy hw ?_
  intro p e s m args below meth c s₁ B hml hv
  obtain ⟨rfl, hsz, hP, hK, hD0, hG⟩ := hv
  have hx := B.exec
  have hb := B.bytes
  have hr := B.returns
  have hts := atoms_spec (ws := ws) B.pre
  have hown : s.vm.findClass y.cls = some m.cls := findClass_of_methodNamed B.named
  have hlocks := B.notSynchronized
  have hnm := (name_of_methodNamed B.named B.method).1
  subst hsz
  have hD := hD0.self (sz := s.heap.size)
  have hl := lv_entry As (n := maxL) hlen
  rw [lg_entry_eq]
  refine body p e s m _ below meth c (va_A w s.heap.size) _ _ ⟨hx, hb, hml, hown, hts, fun q h => Or.inr h, hP, hK, hD, hG, hl, hnm⟩ ?_
  intro H locs cells slots pc ls ad hdg hP1 hD1 hS h1 h2
  refine W.widen (k := mc) (n := ms) h1 h2 ?_
  exact W.iret (v := r0) hx hb hr (fun t ht hW => ⟨⟨r0, ad, rfl, rfl, by rw [ht]; exact hP1, va_K.moved hW.alike hK, hD1⟩, hS.F ht⟩) hS.2.2 hdg
section KE
variable {p : Program} {l : Launch} {e : Env} {R : Room} {s : State} {m : MethodId} {args : Array Value} {below : List Frame} {meth : Method} {c : Code} {H : Heap} {locs : List Loc} {cells slots : Nat} {Q : State → Prop}
variable {D : va_G} {tys : List (ClassId × FieldType)} {pc : Nat} {ls : Array Slot} {rest st0 : List Value} {a : Array Value} {A0 : Nat → Prop} {H0 : Heap} {mc ms : Nat} {w wc wm w2 : va_W}
theorem kwIE {r0 : Int32} (hr : va_Run p l e R s m args below meth c H locs cells slots mc ms (F0 m pc ls st0) rest (va_Qi (fun (r : Int32) (_ : Nat → Nat) => r = r0) (KB D tys wc H.size (fun _ => wm)) (va_A wc H.size) a) (va_A wc H.size)) (hP : va_P D vwCl w H) (hD : va_D A0 w) (hS : va_S A0 H0 H locs) (hA : ∀ q, H0.size ≤ q → A0 q) (isC : List Nat) (hC : isC.map (fun i => w[i]?) = wc.map some) (hm : wm.map (fun q => q.1) = wc.map (fun q => q.1)) (hw : kput w isC wm = w2)
    (kk : ∀ (H1 : Heap) (locs1 : List Loc), va_P D vwCl w2 H1 → va_D A0 w2 → va_S A0 H0 H1 locs1 → W p l e R s m args below meth c H1 locs1 (cells + mc) (slots + ms) Q (F0 m (pc + 3) ls (.int r0 :: rest))) : W p l e R s m args below meth c H locs cells slots Q (F0 m pc ls st0) := by
  subst hw
  exact kwI hr hP hD hS hA isC hC hm kk
theorem kwVE (hr : va_Run p l e R s m args below meth c H locs cells slots mc ms (F0 m pc ls st0) rest (va_Qv (fun (_ : Nat → Nat) => True) (KB D tys wc H.size (fun _ => wm)) (va_A wc H.size) a) (va_A wc H.size)) (hP : va_P D vwCl w H) (hD : va_D A0 w) (hS : va_S A0 H0 H locs) (hA : ∀ q, H0.size ≤ q → A0 q) (isC : List Nat) (hC : isC.map (fun i => w[i]?) = wc.map some) (hm : wm.map (fun q => q.1) = wc.map (fun q => q.1)) (hw : kput w isC wm = w2)
    (kk : ∀ (H1 : Heap) (locs1 : List Loc), va_P D vwCl w2 H1 → va_D A0 w2 → va_S A0 H0 H1 locs1 → W p l e R s m args below meth c H1 locs1 (cells + mc) (slots + ms) Q (F0 m (pc + 3) ls rest)) : W p l e R s m args below meth c H locs cells slots Q (F0 m pc ls st0) := by
  subst hw
  exact kwV hr hP hD hS hA isC hC hm kk
end KE
theorem kset_mid (x y : Nat × va_E) (r : List (Nat × va_E)) : ∀ pre : List (Nat × va_E), (pre ++ (x :: r)).set pre.length y = pre ++ (y :: r)
  | [] => rfl
  | q :: pre => congrArg (fun l => q :: l) (kset_mid x y r pre)
theorem kput_block : ∀ (mid new pre post : List (Nat × va_E)), mid.length = new.length → kput (pre ++ (mid ++ post)) (List.range' pre.length mid.length) new = pre ++ (new ++ post)
  | [], new, pre, post, h => by
    have e : new = [] := List.eq_nil_of_length_eq_zero h.symm
    subst e
    rfl
  | x :: mid, [], pre, post, h => by cases h
  | x :: mid, y :: new, pre, post, h => by
    have ih := kput_block mid new (pre ++ [y]) post (Nat.succ.inj h)
    rw [List.length_append, List.append_assoc, List.append_assoc] at ih
    have e := kset_mid x y (mid ++ post) pre
    show kput ((pre ++ (x :: (mid ++ post))).set pre.length y) (List.range' (pre.length + 1) mid.length) new = _
    rw [e]
    exact ih
theorem kput_app : ∀ (is1 is2 : List Nat) (n1 n2 w : va_W), is1.length = n1.length → kput w (is1 ++ is2) (n1 ++ n2) = kput (kput w is1 n1) is2 n2
  | [], is2, n1, n2, w, h => by
    have e : n1 = [] := List.eq_nil_of_length_eq_zero h.symm
    subst e
    show kput w is2 n2 = kput (kput w [] []) is2 n2
    rfl
  | i :: is1, is2, [], n2, w, h => by cases h
  | i :: is1, is2, y :: n1, n2, w, h => kput_app is1 is2 n1 n2 (w.set i y) (Nat.succ.inj h)
theorem kput_at {w mid new pre post w2 : va_W} {is : List Nat} (hw : w = pre ++ (mid ++ post)) (his : is = List.range' pre.length mid.length) (hl : mid.length = new.length) (h2 : pre ++ (new ++ post) = w2) : kput w is new = w2 := by
  subst hw; subst his; subst h2
  exact kput_block mid new pre post hl
def ckB {α : Type} (z : Int32) (k : Option α) : Option α := if z = 0 ∨ z = 1 then k else none
theorem ckB_some {α : Type} {z : Int32} {k : Option α} {r : α} (h : ckB z k = some r) : narrow .boolean (.int z) = .int z ∧ k = some r := by
  unfold ckB at h
  by_cases c : z = 0 ∨ z = 1
  · rw [if_pos c] at h
    refine ⟨?_, h⟩
    rcases c with rfl | rfl <;> rfl
  · rw [if_neg c] at h
    cases h
end
section
section KRR
variable {p : Program} {l : Launch} {e : Env} {R : Room} {s : State} {m : MethodId} {args : Array Value} {below : List Frame} {meth : Method} {c : Code} {H : Heap} {locs : List Loc} {cells slots : Nat} {Q : State → Prop}
variable {cc : ByteArray} {pc : Nat} {ls : Array Slot} {rest : List Value} {D : va_G} {A : Nat → Prop} {a : Nat} {cy : Nat → ClassId} {ws : va_W} {H0 : Heap}
/-- rows of ints' class: its kind -/
theorem kRR (hK : va_K D vwCl (tyW cy) s) (h : AOA s) : ∃ k : Class, s.vm.classes[cy 1]? = some k ∧ k.kind = .array (cy 0) (.array .int) ∧ s.vm.findClass "[I" = some (cy 0) := by
  obtain ⟨comp, c, k, h1, h2, h3, h4, h5⟩ := arrayOverA_spec (args := #[]) (first := s) (o := none) (idx := []) h
  have e0 : s.vm.findClass "[I" = some (cy 0) := (hK.2 0 _ rfl).2
  have e1 : s.vm.findClass ("[" ++ (FieldType.array .int).toString) = some (cy 1) := (hK.2 1 _ rfl).2
  have c0 : comp = cy 0 := Option.some.inj (h1.symm.trans e0)
  have c1 : c = cy 1 := Option.some.inj (h5.symm.trans e1)
  subst c0; subst c1
  exact ⟨k, h3, h4, e0⟩
theorem va_aldA (hexec : p.tables.exec = Jvm.exec) (hb : c.code = cc) (hK : va_K D vwCl (tyW cy) s) (hP : va_P D vwCl ws H) (q0 : Nat) {n : Nat} {f : Nat → Option Nat} (ha : ws[q0]? = some (a, .inl (cy 1, n, .inr (.inr (.inr (.inr f)))))) {i : Int32} (hin : vp_in i n) {v : Value} (hv : va_rf (f i.toNatClampNeg) = v) (hdg : decode cc pc = .ok (.aaload, 1))
    (kk : W p l e R s m args below meth c H locs cells slots Q (F0 m (pc + 1) ls (v :: rest))) : W p l e R s m args below meth c H locs cells slots Q (F0 m pc ls (.int i :: .ref a :: rest)) := by
  subst hv
  have hlt : i.toNatClampNeg < n := Nat.not_le.mp fun q => hin (Or.inr q)
  exact W.aald (v := va_rf (f i.toNatClampNeg)) (ty := .array .int) hexec hb (hP q0 _ ha) ((hK.2 1 _ rfl).1 n (fun j => va_rf (f j))) rfl (fun q => by cases q) (by show ¬ (i < 0 ∨ (arrV _ _ _).slots.size ≤ _); rw [arrV_size]; exact hin) (by show (arrV _ _ _).slots[_]? = _; rw [arrV_read _ _ hlt]) rfl rfl hdg kk
theorem va_astA (hexec : p.tables.exec = Jvm.exec) (hb : c.code = cc) (hK : va_K D vwCl (tyW cy) s) (hAA : AOA s) (hP : va_P D vwCl ws H) (hD : va_D A ws) (hS : va_S A H0 H locs) (q0 qk : Nat) {n v : Nat} {x : vp_A} {f : Nat → Option Nat} (ha : ws[q0]? = some (a, .inl (cy 1, n, .inr (.inr (.inr (.inr f)))))) (hv : ws[qk]? = some (v, .inl (cy 0, x))) {i : Int32} (hin : vp_in i n) (hdg : decode cc pc = .ok (.aastore, 1))
    (kk : ∀ (H1 : Heap) (locs1 : List Loc), va_P D vwCl (ws.set q0 (a, .inl (cy 1, n, .inr (.inr (.inr (.inr (va_up f i.toNatClampNeg (some v)))))))) H1 → va_D A (ws.set q0 (a, .inl (cy 1, n, .inr (.inr (.inr (.inr (va_up f i.toNatClampNeg (some v)))))))) → va_S A H0 H1 locs1 → W p l e R s m args below meth c H1 locs1 cells slots Q (F0 m (pc + 1) ls rest)) : W p l e R s m args below meth c H locs cells slots Q (F0 m pc ls (.ref v :: .int i :: .ref a :: rest)) := by
  have hlt : i.toNatClampNeg < n := Nat.not_le.mp fun q => hin (Or.inr q)
  have h0 : ¬ i < 0 := fun q => hin (Or.inl q)
  obtain ⟨kA, k1, k2, k3⟩ := kRR hK hAA
  obtain ⟨-, kI, hkI, -⟩ := (hK.2 0 _ rfl).1 1 (fun _ => .int 0)
  have hcl0 : (vp_cell (cy 0) x).cls = cy 0 := by
    obtain ⟨n, f | f | f | f | f⟩ := x <;> rfl
  have hvm0 : (vp_cell (cy 0) x).vm = .none := by
    obtain ⟨n, f | f | f | f | f⟩ := x <;> rfl
  have hkI : s.vm.classes[cy 0]? = some kI := hkI
  refine W.aast hexec hb (hP q0 _ ha) (fun q h => by cases h) (fun h => by cases h) k1 k2 rfl hkI ⟨h0, by show _ < (arrV _ _ _).slots.size; rw [arrV_size]; exact hlt⟩ (hP qk _ hv) (fun q h => by rw [hvm0] at h; cases h) (by rw [hcl0]; exact hkI) (by rw [hcl0]; show ((cy 0 == cy 0) || _) = true; rw [beq_self_eq_true, Bool.true_or]) rfl rfl hdg fun H1 e z oq => ?_
  refine kk H1 _ (hP.set hD ha ?_ oq) (hD.set ha) (hS.put z oq (hD.2 q0 _ ha))
  show H1[a]? = some (vp_cell (cy 1) (n, .inr (.inr (.inr (.inr (va_up f i.toNatClampNeg (some v)))))))
  rw [e]
  show some (Cell.setSlot (vp_cell (cy 1) (n, .inr (.inr (.inr (.inr f))))) i.toNatClampNeg (.ref v)) = _
  rw [vp_cell_q, vp_cell_q, arrV_store]
  congr 2
  funext q
  by_cases hq : q = i.toNatClampNeg
  · subst hq
    simp [updV, va_up, va_rf]
  · simp [updV, va_up, hq]
theorem va_newA (hexec : p.tables.exec = Jvm.exec) (hb : c.code = cc) {own : String} {index : Nat} (hown : s.vm.findClass own = some m.cls) (hclink : (Cond.classLink own index "[I").before args s = true) (hAA : AOA s) (hK : va_K D vwCl (tyW cy) s) (hP : va_P D vwCl ws H) (hD : va_D A ws) (hS : va_S A H0 H locs) (hA : ∀ q, H0.size ≤ q → A q)
    {n : Int32} {N' : Nat} (hn : ¬ n < 0) (hN : n.toNatClampNeg = N') (hbytes : N' * 4 ≤ 536870912) (hcells : cells + 1 ≤ R.cells) (hslots : slots + N' ≤ R.slots) (hdg : decode cc pc = .ok (.anewarray index, 3))
    (kk : ∀ (q : Nat) (H1 : Heap), va_P D vwCl (ws ++ [(q, .inl (cy 1, N', .inr (.inr (.inr (.inr (fun _ => none))))))]) H1 → va_D A (ws ++ [(q, .inl (cy 1, N', .inr (.inr (.inr (.inr (fun _ => none))))))]) → va_S A H0 H1 locs →
      W p l e R s m args below meth c H1 locs (cells + 1) (slots + N') Q (F0 m (pc + 3) ls (.ref q :: rest))) : W p l e R s m args below meth c H locs cells slots Q (F0 m pc ls (.int n :: rest)) := by
  subst hN
  have e1 : s.vm.findClass ("[" ++ (FieldType.array .int).toString) = some (cy 1) := (hK.2 1 _ rfl).2
  refine W.anewA (t := .int) hexec hb hown hclink hAA rfl hdg rfl hn hbytes hcells hslots fun cA kA comp f1 f2 f3 f4 => ?_
  have hc : cA = cy 1 := Option.some.inj (f1.symm.trans e1)
  subst hc
  generalize hH1 : H.push ({ cls := cy 1, slots := Array.replicate n.toNatClampNeg .null, vm := .none } : Cell) = H1
  have z1 : H1.size = H.size + 1 := by rw [← hH1, Array.size_push]
  have e1 : H1[H.size]? = some (arrV (cy 1) n.toNatClampNeg (fun _ => .null)) := by rw [← hH1, Array.getElem?_push_size, ← arrV_new]
  have o1 : ∀ q : Nat, q < H.size → H1[q]? = H[q]? := fun q hq => by rw [← hH1, Array.getElem?_push, if_neg (Nat.ne_of_lt hq)]
  have hk : ∀ (k : Nat) (x : Nat × va_E), ws[k]? = some x → H1[x.1]? = H[x.1]? := fun k x hx => o1 x.1 ((hP k x hx).lt)
  refine kk H.size H1 ((hP.kept hk).app (fun k x hx => ?_)) (hD.push hP rfl (hA _ hS.1)) ⟨Nat.le_trans hS.1 (by omega), fun x h1 h2 => (o1 x (Nat.lt_of_lt_of_le h1 hS.1)).trans (hS.2.1 x h1 h2), hS.2.2⟩
  have hz : k < 1 := (List.getElem?_eq_some_iff.mp hx).1
  rw [show k = 0 by omega] at hx
  cases hx
  show H1[H.size]? = some (vp_cell (cy 1) (n.toNatClampNeg, .inr (.inr (.inr (.inr (fun _ => none))))))
  rw [vp_cell_q]
  exact e1
end KRR
/-- a method that answers a new cell: its address is ad 0 -/
def KR (l : Launch) (D : va_G) (tys : List (ClassId × FieldType)) (sa : SAT) (y : MethodName) (ws : List Cond) (rm : Room) (As : List Value) (w : va_W) (w1 : (Nat → Nat) → va_W) (mc ms : Nat) : Prop := ∀ sz : Nat, Met l y ws rm (va_Pc As (KPc D tys sa w sz)) (va_Qr (fun (_ : Nat → Nat) => True) (fun ad a t => a = ad 0 ∧ KB D tys w sz w1 ad t) (va_A w sz)) mc ms (va_A w sz)
theorem KR.of {l : Launch} {D : va_G} {tys : List (ClassId × FieldType)} {sa : SAT} {y : MethodName} {ws ws' : List Cond} {rm : Room} {As : List Value} {w : va_W} {w1 : (Nat → Nat) → va_W} {mc ms : Nat} {cc : ByteArray} {maxL : Nat} {rt : FieldType} (hrt : (∃ n, rt = .object n) ∨ ∃ t, rt = .array t)
    (hy : plainName y.cls = true) (hw : ws = Cond.code y cc maxL (some rt) :: ws') (hlen : (lg_sl As).length ≤ maxL)
    (body : ∀ (p : Program) (e : Env) (s : State) (m : MethodId) (args : Array Value) (below : List Frame) (meth : Method) (c : Code) (A : Nat → Prop) (ls : Array Slot) (Q : State → Prop), KEn D tys sa y ws cc maxL As w p s m args meth c A ls →
      (∀ (H : Heap) (locs : List Loc) (cells slots pc : Nat) (ls : Array Slot) (ad : Nat → Nat), decode cc pc = .ok (.areturn, 1) → va_P D vwCl (w1 ad) H → va_D A (w1 ad) → va_S A s.heap H locs → cells ≤ mc → slots ≤ ms → W p l e rm s m args below meth c H locs cells slots Q (F0 m pc ls [.ref (ad 0)])) →
      W p l e rm s m args below meth c s.heap [] 0 0 Q (F0 m 0 ls [])) : KR l D tys sa y ws rm As w w1 mc ms := by
  intro sz
  refine Met.ofW (cc := cc) (maxL := maxL) (ret := some rt) hy hw ?_
  intro p e s m args below meth c s₁ B hml hv
  obtain ⟨rfl, hsz, hP, hK, hD0, hG⟩ := hv
  have hx := B.exec
  have hb := B.bytes
  have hr := B.returns
  have hts := atoms_spec (ws := ws) B.pre
  have hown : s.vm.findClass y.cls = some m.cls := findClass_of_methodNamed B.named
  have hlocks := B.notSynchronized
  have hnm := (name_of_methodNamed B.named B.method).1
  subst hsz
  have hD := hD0.self (sz := s.heap.size)
  have hl := lv_entry As (n := maxL) hlen
  rw [lg_entry_eq]
  refine body p e s m _ below meth c (va_A w s.heap.size) _ _ ⟨hx, hb, hml, hown, hts, fun q h => Or.inr h, hP, hK, hD, hG, hl, hnm⟩ ?_
  intro H locs cells slots pc ls ad hdg hP1 hD1 hS h1 h2
  refine W.widen (k := mc) (n := ms) h1 h2 ?_
  exact W.aret (v := .ref (ad 0)) hx hb hr hrt (Or.inr ⟨_, rfl⟩) (fun t ht hW => ⟨⟨ad, ad 0, rfl, trivial, rfl, by rw [ht]; exact hP1, va_K.moved hW.alike hK, hD1⟩, hS.F ht⟩) hS.2.2 hdg
theorem kfit (c : ClassId) (n : Nat) (f : Nat → Int32) (i : Nat) (v : Value) (h : (vp_cell c (n, .inl f)).slots[i]? = some v) : fits .int v = true := by
  rw [vp_cell_i] at h
  have hi : i < (arrV c n (fun j => .int (f j))).slots.size := (Array.getElem?_eq_some_iff.mp h).1
  rw [arrV_size] at hi
  rw [arrV_read _ _ hi] at h
  rw [← Option.some.inj h]
  rfl
def kh (q : Nat) (ad : Nat → Nat) : Nat → Nat := fun i => match i with
  | 0 => q
  | i + 1 => ad (i + 1)
section KNR
variable {p : Program} {l : Launch} {e : Env} {R : Room} {s : State} {m : MethodId} {args : Array Value} {below : List Frame} {meth : Method} {c : Code} {H : Heap} {locs : List Loc} {cells slots : Nat} {Q : State → Prop}
variable {D : va_G} {tys : List (ClassId × FieldType)} {pc : Nat} {ls : Array Slot} {rest st0 : List Value} {a : Array Value} {A0 : Nat → Prop} {H0 : Heap} {mc ms : Nat} {w wc : va_W}
theorem knR {w1 : (Nat → Nat) → va_W} (hr : va_Run p l e R s m args below meth c H locs cells slots mc ms (F0 m pc ls st0) rest (va_Qr (fun (_ : Nat → Nat) => True) (fun ad a t => a = ad 0 ∧ KB D tys wc H.size w1 ad t) (va_A wc H.size) a) (va_A wc H.size)) (hP : va_P D vwCl w H) (hD : va_D A0 w) (hS : va_S A0 H0 H locs) (hA : ∀ q, H0.size ≤ q → A0 q) (isC : List Nat) (hC : isC.map (fun i => w[i]?) = wc.map some)
    (kk : ∀ (ad : Nat → Nat) (H1 : Heap) (locs1 : List Loc), va_P D vwCl (w1 ad) H1 → va_D A0 (w1 ad) → va_S A0 H0 H1 locs1 → W p l e R s m args below meth c H1 locs1 (cells + mc) (slots + ms) Q (F0 m (pc + 3) ls (.ref (ad 0) :: rest))) : W p l e R s m args below meth c H locs cells slots Q (F0 m pc ls st0) := by
  have hF := va_free (wc := wc) hD hS hA isC hC
  refine va_callr hr hS (fun q _ h => hF q h) hF (fun u ra t H1 locs1 ht hvm hw hB hz hk hS1 => ?_)
  obtain ⟨rfl, hP1, -, hD1⟩ := hB
  rw [ht] at hP1
  obtain ⟨g1, g2⟩ := va_join (wr := []) hP hD isC [] hC rfl rfl (fun _ h => absurd h List.not_mem_nil) hk hF hP1 hD1
  exact kk u H1 locs1 g1 g2 hS1
end KNR
theorem cl_0 : (0 : Int32).toNatClampNeg = 0 := by decide
theorem cl_1 : (1 : Int32).toNatClampNeg = 1 := by decide
theorem cl_2 : (2 : Int32).toNatClampNeg = 2 := by decide
theorem cl_3 : (3 : Int32).toNatClampNeg = 3 := by decide
theorem cl_4 : (4 : Int32).toNatClampNeg = 4 := by decide
theorem cl_5 : (5 : Int32).toNatClampNeg = 5 := by decide
end
section
def ckN {α : Type} (a b : UInt64) (k : Option α) : Option α := if FP.ddiv a b &&& 0x7fffffffffffffff ≤ 0x7ff0000000000000 then k else none
theorem ckN_some {α : Type} {a b : UInt64} {k : Option α} {r : α} (h : ckN a b k = some r) : vf_n64 (FP.ddiv a b) ∧ k = some r := by
  unfold ckN at h
  by_cases c : FP.ddiv a b &&& 0x7fffffffffffffff ≤ 0x7ff0000000000000
  · rw [if_pos c] at h
    exact ⟨c, h⟩
  · rw [if_neg c] at h
    cases h
def KD (l : Launch) (D : va_G) (tys : List (ClassId × FieldType)) (sa : SAT) (y : MethodName) (ws : List Cond) (rm : Room) (As : List Value) (w : va_W) (r0 : UInt64) (w1 : (Nat → Nat) → va_W) (mc ms : Nat) : Prop := ∀ sz : Nat, Met l y ws rm (va_Pc As (KPc D tys sa w sz)) (va_Qd (fun (r : UInt64) (_ : Nat → Nat) => r = r0) (KB D tys w sz w1) (va_A w sz)) mc ms (va_A w sz)
theorem KD.of {l : Launch} {D : va_G} {tys : List (ClassId × FieldType)} {sa : SAT} {y : MethodName} {ws ws' : List Cond} {rm : Room} {As : List Value} {w : va_W} {r0 : UInt64} {w1 : (Nat → Nat) → va_W} {mc ms : Nat} {cc : ByteArray} {maxL : Nat}
    (hy : plainName y.cls = true) (hw : ws = Cond.code y cc maxL (some .double) :: ws') (hlen : (lg_sl As).length ≤ maxL)
    (body : ∀ (p : Program) (e : Env) (s : State) (m : MethodId) (args : Array Value) (below : List Frame) (meth : Method) (c : Code) (A : Nat → Prop) (ls : Array Slot) (Q : State → Prop), KEn D tys sa y ws cc maxL As w p s m args meth c A ls →
      (∀ (H : Heap) (locs : List Loc) (cells slots pc : Nat) (ls : Array Slot) (ad : Nat → Nat), decode cc pc = .ok (.dreturn, 1) → va_P D vwCl (w1 ad) H → va_D A (w1 ad) → va_S A s.heap H locs → cells ≤ mc → slots ≤ ms → W p l e rm s m args below meth c H locs cells slots Q (F0 m pc ls [.double r0])) →
      W p l e rm s m args below meth c s.heap [] 0 0 Q (F0 m 0 ls [])) : KD l D tys sa y ws rm As w r0 w1 mc ms := by
  intro sz
  refine Met.ofW (cc := cc) (maxL := maxL) (ret := some .double) hy hw ?_
  intro p e s m args below meth c s₁ B hml hv
  obtain ⟨rfl, hsz, hP, hK, hD0, hG⟩ := hv
  have hx := B.exec
  have hb := B.bytes
  have hr := B.returns
  have hts := atoms_spec (ws := ws) B.pre
  have hown : s.vm.findClass y.cls = some m.cls := findClass_of_methodNamed B.named
  have hlocks := B.notSynchronized
  have hnm := (name_of_methodNamed B.named B.method).1
  subst hsz
  have hD := hD0.self (sz := s.heap.size)
  have hl := lv_entry As (n := maxL) hlen
  rw [lg_entry_eq]
  refine body p e s m _ below meth c (va_A w s.heap.size) _ _ ⟨hx, hb, hml, hown, hts, fun q h => Or.inr h, hP, hK, hD, hG, hl, hnm⟩ ?_
  intro H locs cells slots pc ls ad hdg hP1 hD1 hS h1 h2
  refine W.widen (k := mc) (n := ms) h1 h2 ?_
  exact W.dret (v := r0) hx hb hr (fun t ht hW => ⟨⟨r0, ad, rfl, rfl, by rw [ht]; exact hP1, va_K.moved hW.alike hK, hD1⟩, hS.F ht⟩) hS.2.2 hdg
section KCD
variable {p : Program} {l : Launch} {e : Env} {R : Room} {s : State} {m : MethodId} {args : Array Value} {below : List Frame} {meth : Method} {c : Code} {H : Heap} {locs : List Loc} {cells slots : Nat} {Q : State → Prop}
variable {D : va_G} {tys : List (ClassId × FieldType)} {sa : SAT} {pc : Nat} {ls : Array Slot} {rest st0 : List Value} {a : Array Value} {A0 : Nat → Prop} {H0 : Heap} {mc ms : Nat} {w wc wm w2 : va_W}
theorem krD {r0 : UInt64} (hr : va_Run p l e R s m args below meth c H locs cells slots mc ms (F0 m pc ls st0) rest (va_Qd (fun (r : UInt64) (_ : Nat → Nat) => r = r0) (KB D tys wc H.size (fun _ => wc)) (va_A wc H.size) a) (va_A wc H.size)) (hP : va_P D vwCl w H) (hD : va_D A0 w) (hS : va_S A0 H0 H locs) (hA : ∀ q, H0.size ≤ q → A0 q) (isC : List Nat) (hC : isC.map (fun i => w[i]?) = wc.map some)
    (kk : ∀ (H1 : Heap) (locs1 : List Loc), va_P D vwCl w H1 → va_S A0 H0 H1 locs1 → W p l e R s m args below meth c H1 locs1 (cells + mc) (slots + ms) Q (F0 m (pc + 3) ls (.double r0 :: rest))) : W p l e R s m args below meth c H locs cells slots Q (F0 m pc ls st0) := by
  have hF := va_free (wc := wc) hD hS hA isC hC
  refine va_calld hr hS (fun q _ h => hF q h) hF (fun r u t H1 locs1 ht hvm hw hB hz hk hS1 => ?_)
  subst hw
  obtain ⟨hP1, -, -⟩ := hB
  rw [ht] at hP1
  exact kk H1 locs1 (kread hP hD isC hC hk hP1) hS1
theorem kwDE {r0 : UInt64} (hr : va_Run p l e R s m args below meth c H locs cells slots mc ms (F0 m pc ls st0) rest (va_Qd (fun (r : UInt64) (_ : Nat → Nat) => r = r0) (KB D tys wc H.size (fun _ => wm)) (va_A wc H.size) a) (va_A wc H.size)) (hP : va_P D vwCl w H) (hD : va_D A0 w) (hS : va_S A0 H0 H locs) (hA : ∀ q, H0.size ≤ q → A0 q) (isC : List Nat) (hC : isC.map (fun i => w[i]?) = wc.map some) (hm : wm.map (fun q => q.1) = wc.map (fun q => q.1)) (hw : kput w isC wm = w2)
    (kk : ∀ (H1 : Heap) (locs1 : List Loc), va_P D vwCl w2 H1 → va_D A0 w2 → va_S A0 H0 H1 locs1 → W p l e R s m args below meth c H1 locs1 (cells + mc) (slots + ms) Q (F0 m (pc + 3) ls (.double r0 :: rest))) : W p l e R s m args below meth c H locs cells slots Q (F0 m pc ls st0) := by
  subst hw
  have hF := va_free (wc := wc) hD hS hA isC hC
  refine va_calld hr hS (fun q _ h => hF q h) hF (fun r u t H1 locs1 ht hvm hw hB hz hk hS1 => ?_)
  subst hw
  obtain ⟨hP1, -, -⟩ := hB
  rw [ht] at hP1
  obtain ⟨g1, g2⟩ := kjoin hP hD isC hC hm hk hP1
  exact kk H1 locs1 g1 g2 hS1
theorem kwLE {r0 : Int64} (hr : va_Run p l e R s m args below meth c H locs cells slots mc ms (F0 m pc ls st0) rest (va_Ql (fun (r : Int64) (_ : Nat → Nat) => r = r0) (KB D tys wc H.size (fun _ => wm)) (va_A wc H.size) a) (va_A wc H.size)) (hP : va_P D vwCl w H) (hD : va_D A0 w) (hS : va_S A0 H0 H locs) (hA : ∀ q, H0.size ≤ q → A0 q) (isC : List Nat) (hC : isC.map (fun i => w[i]?) = wc.map some) (hm : wm.map (fun q => q.1) = wc.map (fun q => q.1)) (hw : kput w isC wm = w2)
    (kk : ∀ (H1 : Heap) (locs1 : List Loc), va_P D vwCl w2 H1 → va_D A0 w2 → va_S A0 H0 H1 locs1 → W p l e R s m args below meth c H1 locs1 (cells + mc) (slots + ms) Q (F0 m (pc + 3) ls (.long r0 :: rest))) : W p l e R s m args below meth c H locs cells slots Q (F0 m pc ls st0) := by
  subst hw
  have hF := va_free (wc := wc) hD hS hA isC hC
  refine va_calll hr hS (fun q _ h => hF q h) hF (fun r u t H1 locs1 ht hvm hw hB hz hk hS1 => ?_)
  subst hw
  obtain ⟨hP1, -, -⟩ := hB
  rw [ht] at hP1
  obtain ⟨g1, g2⟩ := kjoin hP hD isC hC hm hk hP1
  exact kk H1 locs1 g1 g2 hS1
variable {y : MethodName} {bytes cc : ByteArray} {maxL nL n index : Nat} {ret : Option FieldType} {hh : List (Nat × Nat × Nat × Nat)} {ws : List Cond} {rm : Room} {Qc : Array Value → State → Outcome → State → Prop} {free : Addr → Prop} {Ts : List Cond} {own : String} {As : List Value}
theorem kSW {A : Nat → Prop} (S : CallFix p m c cc nL s args Ts own) (hM : Met l y ws rm (va_Pc As (KPc D tys sa wc H.size)) Qc mc ms free) (cw : vx_CSW R s args own index y bytes maxL ret hh ws rm mc ms n) (hK : va_K D vwCl tys s) (hP : va_P D vwCl w H) (hD : va_D A w) (hS : va_S A s.heap H locs) (hA : ∀ q, s.heap.size ≤ q → A q) (hG : GE sa A s s.heap) (isC : List Nat) (hC : isC.map (fun i => w[i]?) = wc.map some) (hnd : va_nd isC = true)
    (hn : As.length = n) (hls : ls.size = nL) (rest : List Value) (hst : st0 = As.reverse ++ rest) (hcat : (rest.map fun v => v.category).sum ≤ 8) (hdg : decode cc pc = .ok (.invokestatic index, 3)) (hf : cells + mc ≤ R.cells ∧ slots + ms ≤ R.slots) :
    va_Run p l e R s m args below meth c H locs cells slots mc ms (F0 m pc ls st0) rest (Qc As.toArray) free :=
  vx_runSW S hM cw ⟨KPc_blind _ _ _ _ _ _, fun U hU hW => ⟨rfl, kpre hP hD hK hS hA hG isC hC hnd hU hW⟩⟩ rfl hn hls hst (lv_room hcat) hdg hf
end KCD
end
section
/-! the law's own rows: rows of ints and rows of rows, each by its number; ad says where a number's row lies -/
abbrev zs_E : Type := (Nat × FN) ⊕ (Nat × (Nat → Option Nat))
abbrev zs_H : Type := Nat × (Nat → zs_E)
def zs_row (cy : Nat → ClassId) (ad : Nat → Nat) (e : zs_E) : va_E := match e with
  | .inl (k, f) => .inl (cy 0, k, .inl f)
  | .inr (k, g) => .inl (cy 1, k, .inr (.inr (.inr (.inr (fun j => (g j).map ad)))))
def zs_rows (cy : Nat → ClassId) (ad : Nat → Nat) (h : zs_H) : va_W := (List.range h.1).map (fun i => (ad i, zs_row cy ad (h.2 i)))
def zs_obj (ad : Nat → Nat) (G : FN) (F : Nat → Nat) : List Value := [.int (G 0), .int (G 1), .int (G 2), .int (G 3), .int (G 4), .ref (ad (F 5)), .ref (ad (F 6)), .ref (ad (F 7)), .ref (ad (F 8)), .ref (ad (F 9)), .ref (ad (F 10)), .ref (ad (F 11))]
/-- the world: cells P, the law's object, its rows -/
abbrev zs_W (P : va_W) (cy : Nat → ClassId) (hs : Nat) (ad : Nat → Nat) (G : FN) (F : Nat → Nat) (h : zs_H) : va_W := (P ++ [(hs, .inr (6, zs_obj ad G F))]) ++ zs_rows cy ad h
/-- the rows' own references are to rows -/
def zs_wf (h : zs_H) : Prop := ∀ i, i < h.1 → ∀ (k : Nat) (g : Nat → Option Nat), h.2 i = .inr (k, g) → ∀ j v, g j = some v → v < h.1
def zs_fs (F : Nat → Nat) (h : zs_H) : Prop := ∀ k, F k < h.1
/-! what the instructions do to rows -/
def zs_ld (h : zs_H) (q : Nat) (i : Int32) : Option Int32 := if q < h.1 then (match h.2 q with
  | .inl (k, f) => ckI i k (some (f i.toNatClampNeg))
  | .inr _ => none) else none
def zs_ldr (h : zs_H) (q : Nat) (i : Int32) : Option Nat := if q < h.1 then (match h.2 q with
  | .inl _ => none
  | .inr (k, g) => ckI i k (g i.toNatClampNeg)) else none
def zs_len (h : zs_H) (q : Nat) : Option Int32 := if q < h.1 then (match h.2 q with
  | .inl (k, _) => some (Int32.ofNat k)
  | .inr (k, _) => some (Int32.ofNat k)) else none
def zs_st (h : zs_H) (q : Nat) (i v : Int32) : Option zs_H := if q < h.1 then (match h.2 q with
  | .inl (k, f) => ckI i k (some (h.1, va_up h.2 q (.inl (k, upd f i.toNatClampNeg v))))
  | .inr _ => none) else none
def zs_str (h : zs_H) (q : Nat) (i : Int32) (r : Nat) : Option zs_H := if q < h.1 ∧ r < h.1 then (match h.2 q, h.2 r with
  | .inr (k, g), .inl _ => ckI i k (some (h.1, va_up h.2 q (.inr (k, va_up g i.toNatClampNeg (some r)))))
  | _, _ => none) else none
def zs_nwi (h : zs_H) (v : Int32) (B : Nat) : Option zs_H := if 0 ≤ v.toInt ∧ v.toInt ≤ (B : Int) then some (h.1 + 1, va_up h.2 h.1 (.inl (v.toNatClampNeg, fun _ => 0))) else none
def zs_nwr (h : zs_H) (v : Int32) (B : Nat) : Option zs_H := if 0 ≤ v.toInt ∧ v.toInt ≤ (B : Int) then some (h.1 + 1, va_up h.2 h.1 (.inr (v.toNatClampNeg, fun _ => none))) else none
def zs_cl (h : zs_H) (q : Nat) (B : Nat) : Option zs_H := if q < h.1 then (match h.2 q with
  | .inl (k, f) => if k ≤ B then some (h.1 + 1, va_up h.2 h.1 (.inl (k, f))) else none
  | .inr _ => none) else none
def zs_nwm (h : zs_H) (a b : Nat) : zs_H := (h.1 + 1 + a, fun i => if i < h.1 then h.2 i else if i = h.1 then .inr (a, fun j => if j < a then some (h.1 + 1 + j) else none) else .inl (b, fun _ => 0))
theorem zs_ld_of {h : zs_H} {q : Nat} {i v : Int32} (z : zs_ld h q i = some v) : ∃ (k : Nat) (f : FN), q < h.1 ∧ h.2 q = .inl (k, f) ∧ vp_in i k ∧ v = f i.toNatClampNeg := by
  unfold zs_ld at z
  by_cases c : q < h.1
  · rw [if_pos c] at z
    cases e : h.2 q with
    | inl x =>
      obtain ⟨k, f⟩ := x
      rw [e] at z
      obtain ⟨h1, h2⟩ := ckI_some z
      exact ⟨k, f, c, rfl, h1, (Option.some.inj h2).symm⟩
    | inr x => rw [e] at z; cases z
  · rw [if_neg c] at z; cases z
theorem zs_ldr_of {h : zs_H} {q v : Nat} {i : Int32} (z : zs_ldr h q i = some v) : ∃ (k : Nat) (g : Nat → Option Nat), q < h.1 ∧ h.2 q = .inr (k, g) ∧ vp_in i k ∧ g i.toNatClampNeg = some v := by
  unfold zs_ldr at z
  by_cases c : q < h.1
  · rw [if_pos c] at z
    cases e : h.2 q with
    | inl x => rw [e] at z; cases z
    | inr x =>
      obtain ⟨k, g⟩ := x
      rw [e] at z
      obtain ⟨h1, h2⟩ := ckI_some z
      exact ⟨k, g, c, rfl, h1, h2⟩
  · rw [if_neg c] at z; cases z
theorem zs_ldr_lt {h : zs_H} (w : zs_wf h) {q v : Nat} {i : Int32} (z : zs_ldr h q i = some v) : v < h.1 := by
  obtain ⟨k, g, h1, h2, -, h4⟩ := zs_ldr_of z
  exact w q h1 k g h2 _ v h4
theorem zs_len_of {h : zs_H} {q : Nat} {v : Int32} (z : zs_len h q = some v) : q < h.1 ∧ ((∃ (k : Nat) (f : FN), h.2 q = .inl (k, f) ∧ Int32.ofNat k = v) ∨ ∃ (k : Nat) (g : Nat → Option Nat), h.2 q = .inr (k, g) ∧ Int32.ofNat k = v) := by
  unfold zs_len at z
  by_cases c : q < h.1
  · rw [if_pos c] at z
    refine ⟨c, ?_⟩
    cases e : h.2 q with
    | inl x => obtain ⟨k, f⟩ := x; rw [e] at z; exact Or.inl ⟨k, f, rfl, Option.some.inj z⟩
    | inr x => obtain ⟨k, f⟩ := x; rw [e] at z; exact Or.inr ⟨k, f, rfl, Option.some.inj z⟩
  · rw [if_neg c] at z; cases z
theorem zs_st_of {h h1 : zs_H} {q : Nat} {i v : Int32} (z : zs_st h q i v = some h1) : ∃ (k : Nat) (f : FN), q < h.1 ∧ h.2 q = .inl (k, f) ∧ vp_in i k ∧ h1 = (h.1, va_up h.2 q (.inl (k, upd f i.toNatClampNeg v))) := by
  unfold zs_st at z
  by_cases c : q < h.1
  · rw [if_pos c] at z
    cases e : h.2 q with
    | inl x =>
      obtain ⟨k, f⟩ := x
      rw [e] at z
      obtain ⟨h1, h2⟩ := ckI_some z
      exact ⟨k, f, c, rfl, h1, (Option.some.inj h2).symm⟩
    | inr x => rw [e] at z; cases z
  · rw [if_neg c] at z; cases z
theorem zs_str_of {h h1 : zs_H} {q r : Nat} {i : Int32} (z : zs_str h q i r = some h1) : ∃ (k : Nat) (g : Nat → Option Nat) (x : Nat × FN), q < h.1 ∧ r < h.1 ∧ h.2 q = .inr (k, g) ∧ h.2 r = .inl x ∧ vp_in i k ∧ h1 = (h.1, va_up h.2 q (.inr (k, va_up g i.toNatClampNeg (some r)))) := by
  unfold zs_str at z
  by_cases c : q < h.1 ∧ r < h.1
  · rw [if_pos c] at z
    cases e : h.2 q with
    | inl x => rw [e] at z; cases z
    | inr x =>
      obtain ⟨k, g⟩ := x
      cases e2 : h.2 r with
      | inr y => rw [e, e2] at z; cases z
      | inl y =>
        rw [e, e2] at z
        obtain ⟨h1, h2⟩ := ckI_some z
        exact ⟨k, g, y, c.1, c.2, rfl, rfl, h1, (Option.some.inj h2).symm⟩
  · rw [if_neg c] at z; cases z
theorem zs_nwi_of {h h1 : zs_H} {v : Int32} {B : Nat} (z : zs_nwi h v B = some h1) : ¬ v < 0 ∧ v.toNatClampNeg ≤ B ∧ h1 = (h.1 + 1, va_up h.2 h.1 (.inl (v.toNatClampNeg, fun _ => 0))) := by
  unfold zs_nwi at z
  by_cases c : 0 ≤ v.toInt ∧ v.toInt ≤ (B : Int)
  · rw [if_pos c] at z
    refine ⟨fun q => ?_, ?_, (Option.some.inj z).symm⟩
    · rw [Int32.lt_iff_toInt_lt] at q
      exact absurd c.1 (by have : (0 : Int32).toInt = 0 := rfl; omega)
    · have : (v.toNatClampNeg : Int) = v.toInt := by
        show ((v.toInt.toNat : Nat) : Int) = v.toInt
        omega
      omega
  · rw [if_neg c] at z; cases z
theorem zs_nwr_of {h h1 : zs_H} {v : Int32} {B : Nat} (z : zs_nwr h v B = some h1) : ¬ v < 0 ∧ v.toNatClampNeg ≤ B ∧ h1 = (h.1 + 1, va_up h.2 h.1 (.inr (v.toNatClampNeg, fun _ => none))) := by
  unfold zs_nwr at z
  by_cases c : 0 ≤ v.toInt ∧ v.toInt ≤ (B : Int)
  · rw [if_pos c] at z
    refine ⟨fun q => ?_, ?_, (Option.some.inj z).symm⟩
    · rw [Int32.lt_iff_toInt_lt] at q
      exact absurd c.1 (by have : (0 : Int32).toInt = 0 := rfl; omega)
    · have : (v.toNatClampNeg : Int) = v.toInt := by
        show ((v.toInt.toNat : Nat) : Int) = v.toInt
        omega
      omega
  · rw [if_neg c] at z; cases z
theorem zs_cl_of {h h1 : zs_H} {q B : Nat} (z : zs_cl h q B = some h1) : ∃ (k : Nat) (f : FN), q < h.1 ∧ h.2 q = .inl (k, f) ∧ k ≤ B ∧ h1 = (h.1 + 1, va_up h.2 h.1 (.inl (k, f))) := by
  unfold zs_cl at z
  by_cases c : q < h.1
  · rw [if_pos c] at z
    cases e : h.2 q with
    | inl x =>
      obtain ⟨k, f⟩ := x
      rw [e] at z
      by_cases c2 : k ≤ B
      · replace z : (if k ≤ B then some (h.1 + 1, va_up h.2 h.1 (.inl (k, f))) else none) = some h1 := z
        rw [if_pos c2] at z
        exact ⟨k, f, c, rfl, c2, (Option.some.inj z).symm⟩
      · replace z : (if k ≤ B then some (h.1 + 1, va_up h.2 h.1 (.inl (k, f))) else none) = some h1 := z
        rw [if_neg c2] at z; cases z
    | inr x => rw [e] at z; cases z
  · rw [if_neg c] at z; cases z
theorem zs_st_wf {h h1 : zs_H} (w : zs_wf h) {q : Nat} {i v : Int32} (z : zs_st h q i v = some h1) : zs_wf h1 ∧ h1.1 = h.1 := by
  obtain ⟨k, f, h1, h2, h3, rfl⟩ := zs_st_of z
  refine ⟨fun j hj k2 g he u v2 hv => ?_, rfl⟩
  by_cases c : j = q
  · subst c
    replace he : va_up h.2 j (.inl (k, upd f i.toNatClampNeg v)) j = .inr (k2, g) := he
    unfold va_up at he
    rw [if_pos rfl] at he
    cases he
  · replace he : va_up h.2 q (.inl (k, upd f i.toNatClampNeg v)) j = .inr (k2, g) := he
    unfold va_up at he
    rw [if_neg c] at he
    exact w j hj k2 g he u v2 hv
theorem zs_str_wf {h h1 : zs_H} (w : zs_wf h) {q r : Nat} {i : Int32} (z : zs_str h q i r = some h1) : zs_wf h1 ∧ h1.1 = h.1 := by
  obtain ⟨k, g0, x, h1, h2, h3, h4, h5, rfl⟩ := zs_str_of z
  refine ⟨fun j hj k2 g he u v2 hv => ?_, rfl⟩
  replace he : va_up h.2 q (.inr (k, va_up g0 i.toNatClampNeg (some r))) j = .inr (k2, g) := he
  unfold va_up at he
  by_cases c : j = q
  · subst c
    rw [if_pos rfl] at he
    have e := Sum.inr.inj he
    have e2 := congrArg Prod.snd e
    replace e2 : (fun j => if j = i.toNatClampNeg then some r else g0 j) = g := e2
    rw [← e2] at hv
    by_cases c3 : u = i.toNatClampNeg
    · replace hv : (if u = i.toNatClampNeg then some r else g0 u) = some v2 := hv
      rw [if_pos c3] at hv
      exact (Option.some.inj hv) ▸ h2
    · replace hv : (if u = i.toNatClampNeg then some r else g0 u) = some v2 := hv
      rw [if_neg c3] at hv
      exact w j hj k g0 h3 u v2 hv
  · rw [if_neg c] at he
    exact w j hj k2 g he u v2 hv
theorem zs_push_wf {h : zs_H} (w : zs_wf h) {e : zs_E} (he : ∀ (k : Nat) (g : Nat → Option Nat), e = .inr (k, g) → ∀ j v, g j = some v → v < h.1 + 1) : zs_wf (h.1 + 1, va_up h.2 h.1 e) := by
  intro j hj k g hz u v hv
  replace hz : va_up h.2 h.1 e j = .inr (k, g) := hz
  unfold va_up at hz
  by_cases c : j = h.1
  · rw [if_pos c] at hz
    exact he k g hz u v hv
  · rw [if_neg c] at hz
    exact Nat.lt_succ_of_lt (w j (by have : j < h.1 + 1 := hj; omega) k g hz u v hv)
theorem zs_nwi_wf {h h1 : zs_H} (w : zs_wf h) {v : Int32} {B : Nat} (z : zs_nwi h v B = some h1) : zs_wf h1 ∧ h1.1 = h.1 + 1 := by
  obtain ⟨-, -, rfl⟩ := zs_nwi_of z
  exact ⟨zs_push_wf w (fun k g e => by cases e), rfl⟩
theorem zs_nwr_wf {h h1 : zs_H} (w : zs_wf h) {v : Int32} {B : Nat} (z : zs_nwr h v B = some h1) : zs_wf h1 ∧ h1.1 = h.1 + 1 := by
  obtain ⟨-, -, rfl⟩ := zs_nwr_of z
  exact ⟨zs_push_wf w (fun k g e j v hv => by cases e; cases hv), rfl⟩
theorem zs_cl_wf {h h1 : zs_H} (w : zs_wf h) {q B : Nat} (z : zs_cl h q B = some h1) : zs_wf h1 ∧ h1.1 = h.1 + 1 := by
  obtain ⟨k, f, -, -, -, rfl⟩ := zs_cl_of z
  exact ⟨zs_push_wf w (fun k g e => by cases e), rfl⟩
theorem zs_nwm_wf {h : zs_H} (w : zs_wf h) (a b : Nat) : zs_wf (zs_nwm h a b) := by
  intro j hj k g hz u v hv
  show v < h.1 + 1 + a
  replace hz : (if j < h.1 then h.2 j else if j = h.1 then (.inr (a, fun j => if j < a then some (h.1 + 1 + j) else none) : zs_E) else .inl (b, fun _ => 0)) = .inr (k, g) := hz
  by_cases c : j < h.1
  · rw [if_pos c] at hz
    have := w j c k g hz u v hv
    omega
  · rw [if_neg c] at hz
    by_cases c2 : j = h.1
    · rw [if_pos c2] at hz
      have e := congrArg Prod.snd (Sum.inr.inj hz)
      replace e : (fun j => if j < a then some (h.1 + 1 + j) else none) = g := e
      rw [← e] at hv
      replace hv : (if u < a then some (h.1 + 1 + u) else none) = some v := hv
      by_cases c3 : u < a
      · rw [if_pos c3] at hv
        have := Option.some.inj hv
        omega
      · rw [if_neg c3] at hv; cases hv
    · rw [if_neg c2] at hz; cases hz
/-! the world -/
theorem zs_row_congr {cy : Nat → ClassId} {ad ad2 : Nat → Nat} {h : zs_H} (w : zs_wf h) (ha : ∀ i, i < h.1 → ad2 i = ad i) {i : Nat} (hi : i < h.1) : zs_row cy ad2 (h.2 i) = zs_row cy ad (h.2 i) := by
  cases e : h.2 i with
  | inl x => rfl
  | inr x =>
    obtain ⟨k, g⟩ := x
    show (.inl (cy 1, k, .inr (.inr (.inr (.inr (fun j => (g j).map ad2))))) : va_E) = .inl (cy 1, k, .inr (.inr (.inr (.inr (fun j => (g j).map ad)))))
    have : (fun j => (g j).map ad2) = (fun j => (g j).map ad) := by
      funext j
      cases ej : g j with
      | none => rfl
      | some v =>
        show some (ad2 v) = some (ad v)
        rw [ha v (w i hi k g e j v ej)]
    rw [this]
theorem zs_rows_congr {cy : Nat → ClassId} {ad ad2 : Nat → Nat} {h : zs_H} (w : zs_wf h) (ha : ∀ i, i < h.1 → ad2 i = ad i) : zs_rows cy ad2 h = zs_rows cy ad h := by
  unfold zs_rows
  refine List.map_congr_left (fun i hi => ?_)
  have hi' := List.mem_range.mp hi
  rw [ha i hi', zs_row_congr w ha hi']
theorem zs_obj_congr {ad ad2 : Nat → Nat} {G : FN} {F : Nat → Nat} {h : zs_H} (hf : zs_fs F h) (ha : ∀ i, i < h.1 → ad2 i = ad i) : zs_obj ad2 G F = zs_obj ad G F := by
  unfold zs_obj
  rw [ha _ (hf 5), ha _ (hf 6), ha _ (hf 7), ha _ (hf 8), ha _ (hf 9), ha _ (hf 10), ha _ (hf 11)]
theorem zs_rows_len {cy : Nat → ClassId} {ad : Nat → Nat} {h : zs_H} : (zs_rows cy ad h).length = h.1 := by
  unfold zs_rows
  rw [List.length_map, List.length_range]
theorem zs_rows_get {cy : Nat → ClassId} {ad : Nat → Nat} {h : zs_H} {Q : va_W} {i : Nat} (hi : i < h.1) : (Q ++ zs_rows cy ad h)[Q.length + i]? = some (ad i, zs_row cy ad (h.2 i)) := by
  rw [List.getElem?_append_right (Nat.le_add_right _ _), Nat.add_sub_cancel_left]
  unfold zs_rows
  rw [List.getElem?_map, List.getElem?_range hi]
  rfl
theorem zs_rows_set {cy : Nat → ClassId} {ad : Nat → Nat} {h : zs_H} {Q : va_W} {i : Nat} {e : zs_E} : (Q ++ zs_rows cy ad h).set (Q.length + i) (ad i, zs_row cy ad e) = Q ++ zs_rows cy ad (h.1, va_up h.2 i e) := by
  rw [List.set_append_right _ _ (Nat.le_add_right _ _), Nat.add_sub_cancel_left]
  congr 1
  unfold zs_rows
  refine List.ext_getElem? (fun j => ?_)
  show _ = ((List.range h.1).map (fun k => (ad k, zs_row cy ad (va_up h.2 i e k))))[j]?
  by_cases hj : j < h.1
  · rw [List.getElem?_map, List.getElem?_range hj]
    by_cases c : i = j
    · subst c
      rw [List.getElem?_set_self (by rw [List.length_map, List.length_range]; exact hj)]
      show _ = some (ad i, zs_row cy ad (if i = i then e else h.2 i))
      rw [if_pos rfl]
    · rw [List.getElem?_set_ne c, List.getElem?_map, List.getElem?_range hj]
      show some (ad j, zs_row cy ad (h.2 j)) = some (ad j, zs_row cy ad (if j = i then e else h.2 j))
      rw [if_neg (fun q => c q.symm)]
  · rw [List.getElem?_eq_none (by rw [List.length_set, List.length_map, List.length_range]; omega), List.getElem?_eq_none (by rw [List.length_map, List.length_range]; omega)]
theorem zs_rows_push {cy : Nat → ClassId} {ad ad2 : Nat → Nat} {h : zs_H} (w : zs_wf h) {Q : va_W} {q : Nat} {e : zs_E} (ha : ∀ i, i < h.1 → ad2 i = ad i) (hq : ad2 h.1 = q) : (Q ++ zs_rows cy ad h) ++ [(q, zs_row cy ad2 e)] = Q ++ zs_rows cy ad2 (h.1 + 1, va_up h.2 h.1 e) := by
  rw [List.append_assoc, ← zs_rows_congr w ha]
  congr 1
  unfold zs_rows
  show _ = (List.range (h.1 + 1)).map (fun k => (ad2 k, zs_row cy ad2 (va_up h.2 h.1 e k)))
  rw [List.range_succ, List.map_append]
  congr 1
  · refine List.map_congr_left (fun i hi => ?_)
    have hi' := List.mem_range.mp hi
    show _ = (ad2 i, zs_row cy ad2 (if i = h.1 then e else h.2 i))
    rw [if_neg (by omega)]
  · show _ = [(ad2 h.1, zs_row cy ad2 (if h.1 = h.1 then e else h.2 h.1))]
    rw [if_pos rfl, hq]
theorem zs_fs_le {F : Nat → Nat} {h h1 : zs_H} (hf : zs_fs F h) (hl : h.1 ≤ h1.1) : zs_fs F h1 := fun k => Nat.lt_of_lt_of_le (hf k) hl
theorem zs_fs_up {F : Nat → Nat} {h : zs_H} (hf : zs_fs F h) {k v : Nat} (hv : v < h.1) : zs_fs (va_up F k v) h := fun j => by
  unfold va_up
  by_cases c : j = k
  · rw [if_pos c]; exact hv
  · rw [if_neg c]; exact hf j
theorem zs_at {P : va_W} {cy : Nat → ClassId} {hs : Nat} {ad : Nat → Nat} {G : FN} {F : Nat → Nat} {h : zs_H} : (zs_W P cy hs ad G F h)[P.length]? = some (hs, .inr (6, zs_obj ad G F)) := by
  unfold zs_W
  rw [List.getElem?_append_left (by rw [List.length_append]; exact Nat.lt_succ_self _), List.getElem?_append_right (Nat.le_refl _), Nat.sub_self]
  rfl
theorem zs_set {P : va_W} {cy : Nat → ClassId} {hs : Nat} {ad : Nat → Nat} {G G2 : FN} {F F2 : Nat → Nat} {h : zs_H} {vs : List Value} (e : vs = zs_obj ad G2 F2) : (zs_W P cy hs ad G F h).set P.length (hs, .inr (6, vs)) = zs_W P cy hs ad G2 F2 h := by
  subst e
  unfold zs_W
  rw [List.set_append_left _ _ (by rw [List.length_append]; exact Nat.lt_succ_self _), List.set_append_right _ _ (Nat.le_refl _), Nat.sub_self]
  rfl
end
section
section ZSX
variable {p : Program} {l : Launch} {e : Env} {R : Room} {s : State} {m : MethodId} {args : Array Value} {below : List Frame} {meth : Method} {c : Code} {H : Heap} {locs : List Loc} {cells slots : Nat} {Q : State → Prop}
variable {cc : ByteArray} {pc : Nat} {ls : Array Slot} {rest : List Value} {D : va_G} {A : Nat → Prop} {cy : Nat → ClassId} {H0 : Heap} {ad : Nat → Nat} {h h1 : zs_H} {X P : va_W} {hs : Nat} {G : FN} {F : Nat → Nat}
theorem sx_ld (hx : p.tables.exec = Jvm.exec) (hb : c.code = cc) (hK : va_K D vwCl (tyW cy) s) (hP : va_P D vwCl (X ++ zs_rows cy ad h) H) {q : Nat} {i v : Int32} (hz : zs_ld h q i = some v) (hdg : decode cc pc = .ok (.iaload, 1))
    (kk : W p l e R s m args below meth c H locs cells slots Q (F0 m (pc + 1) ls (.int v :: rest))) : W p l e R s m args below meth c H locs cells slots Q (F0 m pc ls (.int i :: .ref (ad q) :: rest)) := by
  obtain ⟨k, f, h1, h2, h3, rfl⟩ := zs_ld_of hz
  exact va_iald hx hb hK hP (X.length + q) 0 (by rw [zs_rows_get h1, h2]; rfl) rfl h3 hdg kk
theorem sx_ldr (hx : p.tables.exec = Jvm.exec) (hb : c.code = cc) (hK : va_K D vwCl (tyW cy) s) (hP : va_P D vwCl (X ++ zs_rows cy ad h) H) {q v : Nat} {i : Int32} (hz : zs_ldr h q i = some v) (hdg : decode cc pc = .ok (.aaload, 1))
    (kk : W p l e R s m args below meth c H locs cells slots Q (F0 m (pc + 1) ls (.ref (ad v) :: rest))) : W p l e R s m args below meth c H locs cells slots Q (F0 m pc ls (.int i :: .ref (ad q) :: rest)) := by
  obtain ⟨k, g, h1, h2, h3, h4⟩ := zs_ldr_of hz
  exact va_aldA (v := .ref (ad v)) (f := fun j => (g j).map ad) hx hb hK hP (X.length + q) (by rw [zs_rows_get h1, h2]; rfl) h3 (by show va_rf ((g i.toNatClampNeg).map ad) = _; rw [h4]; rfl) hdg kk
theorem sx_len (hx : p.tables.exec = Jvm.exec) (hb : c.code = cc) (hK : va_K D vwCl (tyW cy) s) (hP : va_P D vwCl (X ++ zs_rows cy ad h) H) {q : Nat} {v : Int32} (hz : zs_len h q = some v) (hdg : decode cc pc = .ok (.arraylength, 1))
    (kk : W p l e R s m args below meth c H locs cells slots Q (F0 m (pc + 1) ls (.int v :: rest))) : W p l e R s m args below meth c H locs cells slots Q (F0 m pc ls (.ref (ad q) :: rest)) := by
  obtain ⟨h1, ⟨k, f, h2, h3⟩ | ⟨k, g, h2, h3⟩⟩ := zs_len_of hz
  · exact va_alen (v := v) (x := (k, .inl f)) (ty := .int) hx hb hK hP (X.length + q) 0 (by rw [zs_rows_get h1, h2]; rfl) rfl h3 hdg kk
  · exact va_alen (v := v) (x := (k, .inr (.inr (.inr (.inr (fun j => (g j).map ad)))))) (ty := .array .int) hx hb hK hP (X.length + q) 1 (by rw [zs_rows_get h1, h2]; rfl) rfl h3 hdg kk
theorem sx_st (hx : p.tables.exec = Jvm.exec) (hb : c.code = cc) (hK : va_K D vwCl (tyW cy) s) (hP : va_P D vwCl (X ++ zs_rows cy ad h) H) (hD : va_D A (X ++ zs_rows cy ad h)) (hS : va_S A H0 H locs) {q : Nat} {i v : Int32} (hz : zs_st h q i v = some h1) (hdg : decode cc pc = .ok (.iastore, 1))
    (kk : ∀ (H1 : Heap) (locs1 : List Loc), va_P D vwCl (X ++ zs_rows cy ad h1) H1 → va_D A (X ++ zs_rows cy ad h1) → va_S A H0 H1 locs1 → W p l e R s m args below meth c H1 locs1 cells slots Q (F0 m (pc + 1) ls rest)) : W p l e R s m args below meth c H locs cells slots Q (F0 m pc ls (.int v :: .int i :: .ref (ad q) :: rest)) := by
  obtain ⟨k, f, g1, g2, g3, rfl⟩ := zs_st_of hz
  refine va_iast hx hb hK hP hD hS (X.length + q) 0 (n := k) (f := f) (by rw [zs_rows_get g1, g2]; rfl) rfl g3 hdg (fun H1 locs1 a1 a2 a3 => ?_)
  have e1 : (X ++ zs_rows cy ad h).set (X.length + q) (ad q, .inl (cy 0, k, .inl (upd f i.toNatClampNeg v))) = _ := zs_rows_set (cy := cy) (ad := ad) (h := h) (Q := X) (i := q) (e := .inl (k, upd f i.toNatClampNeg v))
  rw [e1] at a1 a2
  exact kk H1 locs1 a1 a2 a3
theorem sx_str (hx : p.tables.exec = Jvm.exec) (hb : c.code = cc) (hK : va_K D vwCl (tyW cy) s) (hAA : AOA s) (hP : va_P D vwCl (X ++ zs_rows cy ad h) H) (hD : va_D A (X ++ zs_rows cy ad h)) (hS : va_S A H0 H locs) {q r : Nat} {i : Int32} (hz : zs_str h q i r = some h1) (hdg : decode cc pc = .ok (.aastore, 1))
    (kk : ∀ (H1 : Heap) (locs1 : List Loc), va_P D vwCl (X ++ zs_rows cy ad h1) H1 → va_D A (X ++ zs_rows cy ad h1) → va_S A H0 H1 locs1 → W p l e R s m args below meth c H1 locs1 cells slots Q (F0 m (pc + 1) ls rest)) : W p l e R s m args below meth c H locs cells slots Q (F0 m pc ls (.ref (ad r) :: .int i :: .ref (ad q) :: rest)) := by
  obtain ⟨k, g, x, g1, g0, g2, g3, g4, rfl⟩ := zs_str_of hz
  refine va_astA hx hb hK hAA hP hD hS (X.length + q) (X.length + r) (n := k) (x := (x.1, .inl x.2)) (f := fun j => (g j).map ad) (by rw [zs_rows_get g1, g2]; rfl) (by rw [zs_rows_get g0, g3]; rfl) g4 hdg (fun H1 locs1 a1 a2 a3 => ?_)
  have e0 : va_up (fun j => (g j).map ad) i.toNatClampNeg (some (ad r)) = fun j => (va_up g i.toNatClampNeg (some r) j).map ad := by
    funext j
    unfold va_up
    by_cases cj : j = i.toNatClampNeg
    · rw [if_pos cj, if_pos cj]; rfl
    · rw [if_neg cj, if_neg cj]
  have e1 : (X ++ zs_rows cy ad h).set (X.length + q) (ad q, .inl (cy 1, k, .inr (.inr (.inr (.inr (fun j => (va_up g i.toNatClampNeg (some r) j).map ad)))))) = _ := zs_rows_set (cy := cy) (ad := ad) (h := h) (Q := X) (i := q) (e := .inr (k, va_up g i.toNatClampNeg (some r)))
  rw [e0, e1] at a1 a2
  exact kk H1 locs1 a1 a2 a3
theorem zs_up_ne {q n : Nat} : ∀ i, i < n → (va_up ad n q) i = ad i := fun i hi => if_neg (by omega)
/-- new rows: their places are new -/
theorem sx_nwi (hx : p.tables.exec = Jvm.exec) (hb : c.code = cc) (harr : (Cond.arrayClass .int).before args s = true) (hK : va_K D vwCl (tyW cy) s) (hw : zs_wf h) (hP : va_P D vwCl (X ++ zs_rows cy ad h) H) (hD : va_D A (X ++ zs_rows cy ad h)) (hS : va_S A H0 H locs) (hA : ∀ q, H0.size ≤ q → A q) {v : Int32} {B : Nat} (hz : zs_nwi h v B = some h1) (hB : B * 4 ≤ 536870912) (hc : cells + 1 ≤ R.cells) (hsl : slots + B ≤ R.slots) (hdg : decode cc pc = .ok (.newarray .int, 2))
    (kk : ∀ (a2 : Nat → Nat) (H1 : Heap), (∀ i, i < h.1 → a2 i = ad i) → va_P D vwCl (X ++ zs_rows cy a2 h1) H1 → va_D A (X ++ zs_rows cy a2 h1) → va_S A H0 H1 locs → W p l e R s m args below meth c H1 locs (cells + 1) (slots + B) Q (F0 m (pc + 2) ls (.ref (a2 h.1) :: rest))) : W p l e R s m args below meth c H locs cells slots Q (F0 m pc ls (.int v :: rest)) := by
  obtain ⟨g1, g2, rfl⟩ := zs_nwi_of hz
  refine va_newa (atype := .int) hx hb harr rfl hK hP hD hS hA (a0 := (v.toNatClampNeg, .inl (fun _ => 0))) (fun _ => rfl) g1 rfl (Nat.le_trans (Nat.mul_le_mul_right 4 g2) hB) hc (Nat.le_trans (Nat.add_le_add_left g2 _) hsl) hdg (fun q cA H1 hK2 hP hD hS => ?_)
  obtain rfl := kcls hK2 0 rfl (fun h1 h2 => Option.some.inj (h1.symm.trans h2))
  have e1 : (X ++ zs_rows cy ad h) ++ [(q, .inl (cy 0, v.toNatClampNeg, .inl (fun _ => 0)))] = _ := zs_rows_push (cy := cy) (ad := ad) (ad2 := va_up ad h.1 q) hw (Q := X) (q := q) (e := .inl (v.toNatClampNeg, fun _ => 0)) zs_up_ne (if_pos rfl)
  rw [e1] at hP hD
  have e2 : va_up ad h.1 q h.1 = q := if_pos rfl
  refine W.widen (Nat.le_refl _) (Nat.add_le_add_left g2 _) ?_
  have := kk (va_up ad h.1 q) H1 zs_up_ne hP hD hS
  rw [e2] at this
  exact this
theorem sx_nwr (hx : p.tables.exec = Jvm.exec) (hb : c.code = cc) {own : String} {index : Nat} (hown : s.vm.findClass own = some m.cls) (hclink : (Cond.classLink own index "[I").before args s = true) (hAA : AOA s) (hK : va_K D vwCl (tyW cy) s) (hw : zs_wf h) (hP : va_P D vwCl (X ++ zs_rows cy ad h) H) (hD : va_D A (X ++ zs_rows cy ad h)) (hS : va_S A H0 H locs) (hA : ∀ q, H0.size ≤ q → A q) {v : Int32} {B : Nat} (hz : zs_nwr h v B = some h1) (hB : B * 4 ≤ 536870912) (hc : cells + 1 ≤ R.cells) (hsl : slots + B ≤ R.slots) (hdg : decode cc pc = .ok (.anewarray index, 3))
    (kk : ∀ (a2 : Nat → Nat) (H1 : Heap), (∀ i, i < h.1 → a2 i = ad i) → va_P D vwCl (X ++ zs_rows cy a2 h1) H1 → va_D A (X ++ zs_rows cy a2 h1) → va_S A H0 H1 locs → W p l e R s m args below meth c H1 locs (cells + 1) (slots + B) Q (F0 m (pc + 3) ls (.ref (a2 h.1) :: rest))) : W p l e R s m args below meth c H locs cells slots Q (F0 m pc ls (.int v :: rest)) := by
  obtain ⟨g1, g2, rfl⟩ := zs_nwr_of hz
  refine va_newA (N' := v.toNatClampNeg) hx hb hown hclink hAA hK hP hD hS hA g1 rfl (Nat.le_trans (Nat.mul_le_mul_right 4 g2) hB) hc (Nat.le_trans (Nat.add_le_add_left g2 _) hsl) hdg (fun q H1 hP hD hS => ?_)
  have e1 : (X ++ zs_rows cy ad h) ++ [(q, .inl (cy 1, v.toNatClampNeg, .inr (.inr (.inr (.inr (fun _ => none))))))] = _ := zs_rows_push (cy := cy) (ad := ad) (ad2 := va_up ad h.1 q) hw (Q := X) (q := q) (e := .inr (v.toNatClampNeg, fun _ => none)) zs_up_ne (if_pos rfl)
  rw [e1] at hP hD
  have e2 : va_up ad h.1 q h.1 = q := if_pos rfl
  refine W.widen (Nat.le_refl _) (Nat.add_le_add_left g2 _) ?_
  have := kk (va_up ad h.1 q) H1 zs_up_ne hP hD hS
  rw [e2] at this
  exact this
/-- a row's clone -/
theorem sx_cl (hx : p.tables.exec = Jvm.exec) (hb : c.code = cc) (hml : c.maxLocals = ls.size) {own : String} {index : Nat} (hown : s.vm.findClass own = some m.cls) (ht1 : (Cond.methodLink own index ⟨"[I", "clone", "()Ljava/lang/Object;"⟩).before args s = true) (ht2 : (Cond.sameMethod "[I" "java/lang/Object" "clone" "()Ljava/lang/Object;").before args s = true) (ht3 : (Cond.native ⟨"java/lang/Object", "clone", "()Ljava/lang/Object;"⟩).before args s = true) (ht4 : (Cond.instanceMethod ⟨"java/lang/Object", "clone", "()Ljava/lang/Object;"⟩).before args s = true) (ht5 : (Cond.selects "[I" ⟨"[I", "clone", "()Ljava/lang/Object;"⟩ ⟨"java/lang/Object", "clone", "()Ljava/lang/Object;"⟩).before args s = true) (hnw : va_Nw (.castable "[I" "java/lang/Cloneable") s)
    (hK : va_K D vwCl (tyW cy) s) (hw : zs_wf h) (hP : va_P D vwCl (X ++ zs_rows cy ad h) H) (hD : va_D A (X ++ zs_rows cy ad h)) (hS : va_S A H0 H locs) (hA : ∀ q, H0.size ≤ q → A q) {q0 B : Nat} (hz : zs_cl h q0 B = some h1) (hR1 : 1 ≤ R.frames) (hR2 : (rest.map fun v => v.category).sum + 14 ≤ R.locals) (hc : cells + 1 ≤ R.cells) (hsl : slots + B ≤ R.slots) (hdg : decode cc pc = .ok (.invokevirtual index, 3))
    (kk : ∀ (a2 : Nat → Nat) (H1 : Heap), (∀ i, i < h.1 → a2 i = ad i) → va_P D vwCl (X ++ zs_rows cy a2 h1) H1 → va_D A (X ++ zs_rows cy a2 h1) → va_S A H0 H1 locs → W p l e R s m args below meth c H1 locs (cells + 1) (slots + B) Q (F0 m (pc + 3) ls (.ref (a2 h.1) :: rest))) : W p l e R s m args below meth c H locs cells slots Q (F0 m pc ls (.ref (ad q0) :: rest)) := by
  obtain ⟨k, f, g0, g1, g2, rfl⟩ := zs_cl_of hz
  refine va_clone (own := own) (ad := "[I") (x := (k, .inl f)) (ty := .int) hx hb hml hown ht1 ht2 ht3 ht4 ht5 hnw hK hP hD hS hA (X.length + q0) 0 (by rw [zs_rows_get g0, g1]; rfl) rfl (show s.vm.findClass "[I" = some (cy 0) from (hK.2 0 _ rfl).2) (kfit _ _ _) hR1 hR2 hc (Nat.le_trans (Nat.add_le_add_left g2 _) hsl) hdg (fun q H1 _ hP hD hS => ?_)
  have e1 : (X ++ zs_rows cy ad h) ++ [(q, .inl (cy 0, k, .inl f))] = _ := zs_rows_push (cy := cy) (ad := ad) (ad2 := va_up ad h.1 q) hw (Q := X) (q := q) (e := .inl (k, f)) zs_up_ne (if_pos rfl)
  rw [e1] at hP hD
  have e2 : va_up ad h.1 q h.1 = q := if_pos rfl
  refine W.widen (Nat.le_refl _) (Nat.add_le_add_left g2 _) ?_
  have := kk (va_up ad h.1 q) H1 zs_up_ne hP hD hS
  rw [e2] at this
  exact this
/-- rows of rows, made at once -/
theorem sx_nwm (hx : p.tables.exec = Jvm.exec) (hb : c.code = cc) {own : String} {index : Nat} (hown : s.vm.findClass own = some m.cls) (hclink : (Cond.classLink own index "[[I").before args s = true) (hAA : AOA s) (harr : (Cond.arrayClass .int).before args s = true) (hK : va_K D vwCl (tyW cy) s) (hw : zs_wf h) (hP : va_P D vwCl (X ++ zs_rows cy ad h) H) (hD : va_D A (X ++ zs_rows cy ad h)) (hS : va_S A H0 H locs) (hA : ∀ q, H0.size ≤ q → A q) {v w : Int32} {a b : Nat} (hv : ¬ v < 0) (hw2 : ¬ w < 0) (hva : v.toNatClampNeg = a) (hwb : w.toNatClampNeg = b) (hb1 : a * 4 ≤ 536870912) (hb2 : b * 4 ≤ 536870912) (hc : cells + (1 + a) ≤ R.cells) (hsl : slots + (a + a * b) ≤ R.slots) (hdg : decode cc pc = .ok (.multianewarray index 2, 4))
    (kk : ∀ (a2 : Nat → Nat) (H1 : Heap), (∀ i, i < h.1 → a2 i = ad i) → va_P D vwCl (X ++ zs_rows cy a2 (zs_nwm h a b)) H1 → va_D A (X ++ zs_rows cy a2 (zs_nwm h a b)) → va_S A H0 H1 locs → W p l e R s m args below meth c H1 locs (cells + 1 + a) (slots + a + a * b) Q (F0 m (pc + 4) ls (.ref (a2 h.1) :: rest))) : W p l e R s m args below meth c H locs cells slots Q (F0 m pc ls (.int w :: .int v :: rest)) := by
  refine va_mna (X := X ++ zs_rows cy ad h) (L := []) (f := fun _ => .inr (0, [])) (ty := .int) (cy := cy 0) (N' := a) (K' := b) (z := (b, .inl (fun _ => 0))) hx hb hown hclink hAA harr (hK.2 0 _ rfl).2 hK (by show va_P D vwCl ((X ++ zs_rows cy ad h) ++ []) H; rw [List.append_nil]; exact hP) (by show va_D A ((X ++ zs_rows cy ad h) ++ []); rw [List.append_nil]; exact hD) hS hA hv hw2 hva hwb hb1 hb2 (Nat.le_trans (Nat.le_mul_of_pos_right b (by decide : 0 < 4)) hb2) rfl rfl hc hsl (fun c9 => ?_) hdg (fun q r cA H1 hr _ hK2 hP hD hS => ?_)
  · show ({ cls := c9, slots := Array.replicate b (.int 0), vm := .none } : Cell) = arrV c9 b (fun j => .int 0)
    exact arrV_new c9 b (.int 0)
  · obtain rfl := kcls hK2 1 rfl (fun h1 h2 => Option.some.inj (h1.symm.trans h2))
    let a2 : Nat → Nat := fun i => if i < h.1 then ad i else if i = h.1 then q else r (i - h.1 - 1)
    have ha : ∀ i, i < h.1 → a2 i = ad i := fun i hi => if_pos hi
    have h0 : a2 h.1 = q := by
      show (if h.1 < h.1 then ad h.1 else if h.1 = h.1 then q else r (h.1 - h.1 - 1)) = q
      rw [if_neg (Nat.lt_irrefl _), if_pos rfl]
    have hr2 : ∀ j, a2 (h.1 + 1 + j) = r j := fun j => by
      show (if h.1 + 1 + j < h.1 then ad (h.1 + 1 + j) else if h.1 + 1 + j = h.1 then q else r (h.1 + 1 + j - h.1 - 1)) = r j
      rw [if_neg (by omega), if_neg (by omega), show h.1 + 1 + j - h.1 - 1 = j by omega]
    have e1 : ((X ++ zs_rows cy ad h) ++ [(q, .inl (cy 1, a, .inr (.inr (.inr (.inr (fun i => if i < a then some (r i) else none))))))]) ++ va_pl ([] ++ (List.range a).map r) (vr_up (fun _ => .inr (0, [])) ((List.range a).map r) (.inl (cy 0, (b, .inl (fun _ => 0))))) = X ++ zs_rows cy a2 (zs_nwm h a b) := by
      rw [List.append_assoc, List.append_assoc, ← zs_rows_congr hw ha]
      congr 1
      unfold zs_rows
      show _ = (List.range (h.1 + 1 + a)).map (fun k => (a2 k, zs_row cy a2 ((zs_nwm h a b).2 k)))
      rw [Nat.add_assoc, List.range_add, List.map_append, List.map_map]
      congr 1
      · refine List.map_congr_left (fun i hi => ?_)
        have hi' := List.mem_range.mp hi
        show _ = (a2 i, zs_row cy a2 (if i < h.1 then h.2 i else _))
        rw [if_pos hi']
      · rw [Nat.add_comm 1 a, List.range_succ_eq_map, List.map_cons, List.map_map]
        show _ :: _ = _ :: _
        refine congr (congrArg List.cons ?_) ?_
        · show _ = (a2 (h.1 + 0), zs_row cy a2 (if h.1 + 0 < h.1 then h.2 (h.1 + 0) else if h.1 + 0 = h.1 then _ else _))
          rw [Nat.add_zero, if_neg (Nat.lt_irrefl _), if_pos rfl, h0]
          show (q, (.inl (cy 1, a, .inr (.inr (.inr (.inr (fun i => if i < a then some (r i) else none))))) : va_E)) = (q, .inl (cy 1, a, .inr (.inr (.inr (.inr (fun j => (if j < a then some (h.1 + 1 + j) else none).map a2))))))
          have : (fun i => if i < a then some (r i) else none) = (fun j => (if j < a then some (h.1 + 1 + j) else none).map a2) := by
            funext j
            by_cases c3 : j < a
            · rw [if_pos c3, if_pos c3]
              show some (r j) = some (a2 (h.1 + 1 + j))
              rw [hr2]
            · rw [if_neg c3, if_neg c3]; rfl
          rw [this]
        · unfold va_pl
          rw [List.nil_append, List.map_map]
          refine List.map_congr_left (fun i hi => ?_)
          show (r i, vr_up _ _ _ (r i)) = (a2 (h.1 + (i + 1)), zs_row cy a2 (if h.1 + (i + 1) < h.1 then _ else if h.1 + (i + 1) = h.1 then _ else .inl (b, fun _ => 0)))
          rw [if_neg (by omega), if_neg (by omega), vr_up_in (List.mem_map.mpr ⟨i, hi, rfl⟩), show h.1 + (i + 1) = h.1 + 1 + i by omega, hr2]
          rfl
    rw [e1] at hP hD
    have := kk a2 H1 ha hP hD hS
    rw [h0] at this
    exact this
end ZSX
/-! at the law's object: what a field holds, and new rows -/
section ZSW
variable {p : Program} {l : Launch} {e : Env} {R : Room} {s : State} {m : MethodId} {args : Array Value} {below : List Frame} {meth : Method} {c : Code} {H : Heap} {locs : List Loc} {cells slots : Nat} {Q : State → Prop}
variable {cc : ByteArray} {pc : Nat} {ls : Array Slot} {rest : List Value} {D : va_G} {A : Nat → Prop} {cy : Nat → ClassId} {H0 : Heap} {ad : Nat → Nat} {h h1 : zs_H} {P : va_W} {hs : Nat} {G : FN} {F : Nat → Nat}
/-- the world behind a making: the object's own references as they were -/
theorem zs_W_up {a2 : Nat → Nat} (hf : zs_fs F h) (ha : ∀ i, i < h.1 → a2 i = ad i) : (P ++ [(hs, .inr (6, zs_obj ad G F))]) ++ zs_rows cy a2 h1 = zs_W P cy hs a2 G F h1 := by
  unfold zs_W
  rw [zs_obj_congr hf ha]
end ZSW
end
section
/-! contracts whose end says more: u is what the heap has chosen (where new rows lie) -/
def zg_B (D : va_G) (tys : List (ClassId × FieldType)) (w : va_W) (sz : Nat) {U : Type} (w1 : U → va_W) : U → State → Prop := fun u t => va_P D vwCl (w1 u) t.heap ∧ va_K D vwCl tys t ∧ va_D (va_A w sz) (w1 u)
def zg_I (l : Launch) (D : va_G) (tys : List (ClassId × FieldType)) (sa : SAT) (y : MethodName) (ws : List Cond) (rm : Room) (As : List Value) (w : va_W) {U : Type} (post : Int32 → U → Prop) (w1 : U → va_W) (mc ms : Nat) : Prop := ∀ sz : Nat, Met l y ws rm (va_Pc As (KPc D tys sa w sz)) (va_Qi post (zg_B D tys w sz w1) (va_A w sz)) mc ms (va_A w sz)
def zg_V (l : Launch) (D : va_G) (tys : List (ClassId × FieldType)) (sa : SAT) (y : MethodName) (ws : List Cond) (rm : Room) (As : List Value) (w : va_W) {U : Type} (post : U → Prop) (w1 : U → va_W) (mc ms : Nat) : Prop := ∀ sz : Nat, Met l y ws rm (va_Pc As (KPc D tys sa w sz)) (va_Qv post (zg_B D tys w sz w1) (va_A w sz)) mc ms (va_A w sz)
def zg_R (l : Launch) (D : va_G) (tys : List (ClassId × FieldType)) (sa : SAT) (y : MethodName) (ws : List Cond) (rm : Room) (As : List Value) (w : va_W) {U : Type} (post : U → Prop) (pa : U → Nat) (w1 : U → va_W) (mc ms : Nat) : Prop := ∀ sz : Nat, Met l y ws rm (va_Pc As (KPc D tys sa w sz)) (va_Qr post (fun u a t => a = pa u ∧ zg_B D tys w sz w1 u t) (va_A w sz)) mc ms (va_A w sz)
section ZGO
variable {l : Launch} {D : va_G} {tys : List (ClassId × FieldType)} {sa : SAT} {y : MethodName} {ws ws' : List Cond} {rm : Room} {As : List Value} {w : va_W} {U : Type} {w1 : U → va_W} {mc ms : Nat} {cc : ByteArray} {maxL : Nat}
theorem zg_I.of {post : Int32 → U → Prop} (hy : plainName y.cls = true) (hw : ws = Cond.code y cc maxL (some .int) :: ws') (hlen : (lg_sl As).length ≤ maxL)
    (body : ∀ (p : Program) (e : Env) (s : State) (m : MethodId) (args : Array Value) (below : List Frame) (meth : Method) (c : Code) (A : Nat → Prop) (ls : Array Slot) (Q : State → Prop), KEn D tys sa y ws cc maxL As w p s m args meth c A ls →
      (∀ (H : Heap) (locs : List Loc) (cells slots pc : Nat) (ls : Array Slot) (r : Int32) (u : U), decode cc pc = .ok (.ireturn, 1) → post r u → va_P D vwCl (w1 u) H → va_D A (w1 u) → va_S A s.heap H locs → cells ≤ mc → slots ≤ ms → W p l e rm s m args below meth c H locs cells slots Q (F0 m pc ls [.int r])) →
      W p l e rm s m args below meth c s.heap [] 0 0 Q (F0 m 0 ls [])) : zg_I l D tys sa y ws rm As w post w1 mc ms := by
  intro sz
  refine Met.ofW (cc := cc) (maxL := maxL) (ret := some .int) hy hw ?_
  intro p e s m args below meth c s₁ B hml hv
  obtain ⟨rfl, hsz, hP, hK, hD0, hG⟩ := hv
  have hx := B.exec
  have hb := B.bytes
  have hr := B.returns
  have hts := atoms_spec (ws := ws) B.pre
  have hown : s.vm.findClass y.cls = some m.cls := findClass_of_methodNamed B.named
  have hnm := (name_of_methodNamed B.named B.method).1
  subst hsz
  have hD := hD0.self (sz := s.heap.size)
  have hl := lv_entry As (n := maxL) hlen
  rw [lg_entry_eq]
  refine body p e s m _ below meth c (va_A w s.heap.size) _ _ ⟨hx, hb, hml, hown, hts, fun q h => Or.inr h, hP, hK, hD, hG, hl, hnm⟩ ?_
  intro H locs cells slots pc ls r u hdg hp hP1 hD1 hS h1 h2
  refine W.widen (k := mc) (n := ms) h1 h2 ?_
  exact W.iret (v := r) hx hb hr (fun t ht hW => ⟨⟨r, u, rfl, hp, by rw [ht]; exact hP1, va_K.moved hW.alike hK, hD1⟩, hS.F ht⟩) hS.2.2 hdg
theorem zg_I.ofZ {post : Int32 → U → Prop} (hy : plainName y.cls = true) (hw : ws = Cond.code y cc maxL (some .boolean) :: ws') (hlen : (lg_sl As).length ≤ maxL)
    (body : ∀ (p : Program) (e : Env) (s : State) (m : MethodId) (args : Array Value) (below : List Frame) (meth : Method) (c : Code) (A : Nat → Prop) (ls : Array Slot) (Q : State → Prop), KEn D tys sa y ws cc maxL As w p s m args meth c A ls →
      (∀ (H : Heap) (locs : List Loc) (cells slots pc : Nat) (ls : Array Slot) (r : Int32) (u : U), narrow .boolean (.int r) = .int r → decode cc pc = .ok (.ireturn, 1) → post r u → va_P D vwCl (w1 u) H → va_D A (w1 u) → va_S A s.heap H locs → cells ≤ mc → slots ≤ ms → W p l e rm s m args below meth c H locs cells slots Q (F0 m pc ls [.int r])) →
      W p l e rm s m args below meth c s.heap [] 0 0 Q (F0 m 0 ls [])) : zg_I l D tys sa y ws rm As w post w1 mc ms := by
  intro sz
  refine Met.ofW (cc := cc) (maxL := maxL) (ret := some .boolean) hy hw ?_
  intro p e s m args below meth c s₁ B hml hv
  obtain ⟨rfl, hsz, hP, hK, hD0, hG⟩ := hv
  have hx := B.exec
  have hb := B.bytes
  have hr := B.returns
  have hts := atoms_spec (ws := ws) B.pre
  have hown : s.vm.findClass y.cls = some m.cls := findClass_of_methodNamed B.named
  have hnm := (name_of_methodNamed B.named B.method).1
  subst hsz
  have hD := hD0.self (sz := s.heap.size)
  have hl := lv_entry As (n := maxL) hlen
  rw [lg_entry_eq]
  refine body p e s m _ below meth c (va_A w s.heap.size) _ _ ⟨hx, hb, hml, hown, hts, fun q h => Or.inr h, hP, hK, hD, hG, hl, hnm⟩ ?_
  intro H locs cells slots pc ls r u hnr hdg hp hP1 hD1 hS h1 h2
  refine W.widen (k := mc) (n := ms) h1 h2 ?_
  exact W.zret (v := r) hx hb hr hnr (fun t ht hW => ⟨⟨r, u, rfl, hp, by rw [ht]; exact hP1, va_K.moved hW.alike hK, hD1⟩, hS.F ht⟩) hS.2.2 hdg
theorem zg_V.of {post : U → Prop} (hy : plainName y.cls = true) (hw : ws = Cond.code y cc maxL none :: ws') (hlen : (lg_sl As).length ≤ maxL)
    (body : ∀ (p : Program) (e : Env) (s : State) (m : MethodId) (args : Array Value) (below : List Frame) (meth : Method) (c : Code) (A : Nat → Prop) (ls : Array Slot) (Q : State → Prop), KEn D tys sa y ws cc maxL As w p s m args meth c A ls →
      (∀ (H : Heap) (locs : List Loc) (cells slots pc : Nat) (ls : Array Slot) (u : U), decode cc pc = .ok (.return_, 1) → post u → va_P D vwCl (w1 u) H → va_D A (w1 u) → va_S A s.heap H locs → cells ≤ mc → slots ≤ ms → W p l e rm s m args below meth c H locs cells slots Q (F0 m pc ls [])) →
      W p l e rm s m args below meth c s.heap [] 0 0 Q (F0 m 0 ls [])) : zg_V l D tys sa y ws rm As w post w1 mc ms := by
  intro sz
  refine Met.ofW (cc := cc) (maxL := maxL) (ret := none) hy hw ?_
  intro p e s m args below meth c s₁ B hml hv
  obtain ⟨rfl, hsz, hP, hK, hD0, hG⟩ := hv
  have hx := B.exec
  have hb := B.bytes
  have hr := B.returns
  have hts := atoms_spec (ws := ws) B.pre
  have hown : s.vm.findClass y.cls = some m.cls := findClass_of_methodNamed B.named
  have hnm := (name_of_methodNamed B.named B.method).1
  subst hsz
  have hD := hD0.self (sz := s.heap.size)
  have hl := lv_entry As (n := maxL) hlen
  rw [lg_entry_eq]
  refine body p e s m _ below meth c (va_A w s.heap.size) _ _ ⟨hx, hb, hml, hown, hts, fun q h => Or.inr h, hP, hK, hD, hG, hl, hnm⟩ ?_
  intro H locs cells slots pc ls u hdg hp hP1 hD1 hS h1 h2
  refine W.widen (k := mc) (n := ms) h1 h2 ?_
  exact W.vret hx hb hr (fun t ht hW => ⟨⟨u, rfl, hp, by rw [ht]; exact hP1, va_K.moved hW.alike hK, hD1⟩, hS.F ht⟩) hS.2.2 hdg
theorem zg_R.of {post : U → Prop} {pa : U → Nat} {rt : FieldType} (hrt : (∃ n, rt = .object n) ∨ ∃ t, rt = .array t) (hy : plainName y.cls = true) (hw : ws = Cond.code y cc maxL (some rt) :: ws') (hlen : (lg_sl As).length ≤ maxL)
    (body : ∀ (p : Program) (e : Env) (s : State) (m : MethodId) (args : Array Value) (below : List Frame) (meth : Method) (c : Code) (A : Nat → Prop) (ls : Array Slot) (Q : State → Prop), KEn D tys sa y ws cc maxL As w p s m args meth c A ls →
      (∀ (H : Heap) (locs : List Loc) (cells slots pc : Nat) (ls : Array Slot) (u : U), decode cc pc = .ok (.areturn, 1) → post u → va_P D vwCl (w1 u) H → va_D A (w1 u) → va_S A s.heap H locs → cells ≤ mc → slots ≤ ms → W p l e rm s m args below meth c H locs cells slots Q (F0 m pc ls [.ref (pa u)])) →
      W p l e rm s m args below meth c s.heap [] 0 0 Q (F0 m 0 ls [])) : zg_R l D tys sa y ws rm As w post pa w1 mc ms := by
  intro sz
  refine Met.ofW (cc := cc) (maxL := maxL) (ret := some rt) hy hw ?_
  intro p e s m args below meth c s₁ B hml hv
  obtain ⟨rfl, hsz, hP, hK, hD0, hG⟩ := hv
  have hx := B.exec
  have hb := B.bytes
  have hr := B.returns
  have hts := atoms_spec (ws := ws) B.pre
  have hown : s.vm.findClass y.cls = some m.cls := findClass_of_methodNamed B.named
  have hnm := (name_of_methodNamed B.named B.method).1
  subst hsz
  have hD := hD0.self (sz := s.heap.size)
  have hl := lv_entry As (n := maxL) hlen
  rw [lg_entry_eq]
  refine body p e s m _ below meth c (va_A w s.heap.size) _ _ ⟨hx, hb, hml, hown, hts, fun q h => Or.inr h, hP, hK, hD, hG, hl, hnm⟩ ?_
  intro H locs cells slots pc ls u hdg hp hP1 hD1 hS h1 h2
  refine W.widen (k := mc) (n := ms) h1 h2 ?_
  exact W.aret (v := .ref (pa u)) hx hb hr hrt (Or.inr ⟨_, rfl⟩) (fun t ht hW => ⟨⟨u, pa u, rfl, hp, rfl, by rw [ht]; exact hP1, va_K.moved hW.alike hK, hD1⟩, hS.F ht⟩) hS.2.2 hdg
end ZGO
/-! places: the first cells of a world, its last ones -/
theorem zp_map (a b : va_W) : (List.range a.length).map (fun i => (a ++ b)[i]?) = a.map some := by
  refine List.ext_getElem? (fun j => ?_)
  by_cases hj : j < a.length
  · rw [List.getElem?_map, List.getElem?_range hj, List.getElem?_map, List.getElem?_eq_getElem hj]
    show some ((a ++ b)[j]?) = _
    rw [List.getElem?_append_left hj, List.getElem?_eq_getElem hj]
    rfl
  · rw [List.getElem?_eq_none (by rw [List.length_map, List.length_range]; omega), List.getElem?_eq_none (by rw [List.length_map]; omega)]
theorem zp_map2 (a b : va_W) : (List.range' a.length b.length).map (fun i => (a ++ b)[i]?) = b.map some := by
  refine List.ext_getElem? (fun j => ?_)
  by_cases hj : j < b.length
  · rw [List.getElem?_map, List.getElem?_range' (by omega), List.getElem?_map, List.getElem?_eq_getElem hj]
    show some ((a ++ b)[a.length + 1 * j]?) = _
    rw [Nat.one_mul, List.getElem?_append_right (Nat.le_add_right _ _), Nat.add_sub_cancel_left, List.getElem?_eq_getElem hj]
    rfl
  · rw [List.getElem?_eq_none (by rw [List.length_map, List.length_range']; omega), List.getElem?_eq_none (by rw [List.length_map]; omega)]
theorem zp_fm (a b : va_W) : (List.range a.length).filterMap (fun i => (a ++ b)[i]?) = a := by
  have h1 := congrArg (fun l => l.filterMap id) (zp_map a b)
  rw [List.filterMap_map, List.filterMap_map] at h1
  have h2 : (a.filterMap (id ∘ some)) = a := by
    show a.filterMap some = a
    exact List.filterMap_some
  rw [h2] at h1
  exact h1
theorem zp_nd : ∀ (l : List Nat), l.Nodup → va_nd l = true
  | [], _ => rfl
  | x :: l, h => by
    have h1 := List.nodup_cons.mp h
    have h2 := zp_nd l h1.2
    show (decide (x ∉ l) && va_nd l) = true
    rw [h2, Bool.and_true]
    exact decide_eq_true h1.1
theorem zp_nd1 (n : Nat) : va_nd (List.range n) = true := zp_nd _ List.nodup_range
theorem zp_nd2 (a n : Nat) : va_nd (List.range' a n) = true := zp_nd _ (List.nodup_range' (step := 1))
section ZGC
variable {p : Program} {l : Launch} {e : Env} {R : Room} {s : State} {m : MethodId} {args : Array Value} {below : List Frame} {meth : Method} {c : Code} {H : Heap} {locs : List Loc} {cells slots : Nat} {Q : State → Prop}
variable {D : va_G} {tys : List (ClassId × FieldType)} {sa : SAT} {pc : Nat} {ls : Array Slot} {rest st0 : List Value} {a : Array Value} {A0 : Nat → Prop} {H0 : Heap} {mc ms : Nat} {P wc wm suf : va_W} {U : Type} {w1 : U → va_W}
/-- behind a call: what came back stands behind the rest -/
theorem zc_I {post : Int32 → U → Prop} (hr : va_Run p l e R s m args below meth c H locs cells slots mc ms (F0 m pc ls st0) rest (va_Qi post (zg_B D tys wc H.size w1) (va_A wc H.size) a) (va_A wc H.size)) (hP : va_P D vwCl (P ++ wc) H) (hD : va_D A0 (P ++ wc)) (hS : va_S A0 H0 H locs) (hA : ∀ q, H0.size ≤ q → A0 q)
    (kk : ∀ (r : Int32) (u : U) (H1 : Heap) (locs1 : List Loc), post r u → va_P D vwCl (P ++ w1 u) H1 → va_D A0 (P ++ w1 u) → va_S A0 H0 H1 locs1 → W p l e R s m args below meth c H1 locs1 (cells + mc) (slots + ms) Q (F0 m (pc + 3) ls (.int r :: rest))) : W p l e R s m args below meth c H locs cells slots Q (F0 m pc ls st0) := by
  have hC := zp_map2 P wc
  have hF := va_free (wc := wc) hD hS hA _ hC
  refine va_calli hr hS (fun q _ h => hF q h) hF (fun r u t H1 locs1 ht hvm hw hB hz hk hS1 => ?_)
  obtain ⟨hP1, -, hD1⟩ := hB
  rw [ht] at hP1
  obtain ⟨g1, g2⟩ := va_join (wr := P) hP hD _ (List.range P.length) hC (zp_map P wc) (zp_nd1 _) (fun i hi hj => by
    have h1 := List.mem_range.mp hi
    have h2 := (List.mem_range'_1.mp hj).1
    omega) hk hF hP1 hD1
  exact kk r u H1 locs1 hw g1 g2 hS1
theorem zc_V {post : U → Prop} (hr : va_Run p l e R s m args below meth c H locs cells slots mc ms (F0 m pc ls st0) rest (va_Qv post (zg_B D tys wc H.size w1) (va_A wc H.size) a) (va_A wc H.size)) (hP : va_P D vwCl (P ++ wc) H) (hD : va_D A0 (P ++ wc)) (hS : va_S A0 H0 H locs) (hA : ∀ q, H0.size ≤ q → A0 q)
    (kk : ∀ (u : U) (H1 : Heap) (locs1 : List Loc), post u → va_P D vwCl (P ++ w1 u) H1 → va_D A0 (P ++ w1 u) → va_S A0 H0 H1 locs1 → W p l e R s m args below meth c H1 locs1 (cells + mc) (slots + ms) Q (F0 m (pc + 3) ls rest)) : W p l e R s m args below meth c H locs cells slots Q (F0 m pc ls st0) := by
  have hC := zp_map2 P wc
  have hF := va_free (wc := wc) hD hS hA _ hC
  refine va_callv hr hS (fun q _ h => hF q h) hF (fun u t H1 locs1 ht hvm hw hB hz hk hS1 => ?_)
  obtain ⟨hP1, -, hD1⟩ := hB
  rw [ht] at hP1
  obtain ⟨g1, g2⟩ := va_join (wr := P) hP hD _ (List.range P.length) hC (zp_map P wc) (zp_nd1 _) (fun i hi hj => by
    have h1 := List.mem_range.mp hi
    have h2 := (List.mem_range'_1.mp hj).1
    omega) hk hF hP1 hD1
  exact kk u H1 locs1 hw g1 g2 hS1
theorem zc_R {post : U → Prop} {pa : U → Nat} (hr : va_Run p l e R s m args below meth c H locs cells slots mc ms (F0 m pc ls st0) rest (va_Qr post (fun u x t => x = pa u ∧ zg_B D tys wc H.size w1 u t) (va_A wc H.size) a) (va_A wc H.size)) (hP : va_P D vwCl (P ++ wc) H) (hD : va_D A0 (P ++ wc)) (hS : va_S A0 H0 H locs) (hA : ∀ q, H0.size ≤ q → A0 q)
    (kk : ∀ (u : U) (H1 : Heap) (locs1 : List Loc), post u → va_P D vwCl (P ++ w1 u) H1 → va_D A0 (P ++ w1 u) → va_S A0 H0 H1 locs1 → W p l e R s m args below meth c H1 locs1 (cells + mc) (slots + ms) Q (F0 m (pc + 3) ls (.ref (pa u) :: rest))) : W p l e R s m args below meth c H locs cells slots Q (F0 m pc ls st0) := by
  have hC := zp_map2 P wc
  have hF := va_free (wc := wc) hD hS hA _ hC
  refine va_callr hr hS (fun q _ h => hF q h) hF (fun u ra t H1 locs1 ht hvm hw hB hz hk hS1 => ?_)
  obtain ⟨rfl, hP1, -, hD1⟩ := hB
  rw [ht] at hP1
  obtain ⟨g1, g2⟩ := va_join (wr := P) hP hD _ (List.range P.length) hC (zp_map P wc) (zp_nd1 _) (fun i hi hj => by
    have h1 := List.mem_range.mp hi
    have h2 := (List.mem_range'_1.mp hj).1
    omega) hk hF hP1 hD1
  exact kk u H1 locs1 hw g1 g2 hS1
/-- readers of the world's last cells -/
theorem zc_rI {r0 : Int32} (hr : va_Run p l e R s m args below meth c H locs cells slots mc ms (F0 m pc ls st0) rest (va_Qi (fun (r : Int32) (_ : Nat → Nat) => r = r0) (KB D tys wc H.size (fun _ => wc)) (va_A wc H.size) a) (va_A wc H.size)) (hP : va_P D vwCl (P ++ wc) H) (hD : va_D A0 (P ++ wc)) (hS : va_S A0 H0 H locs) (hA : ∀ q, H0.size ≤ q → A0 q)
    (kk : ∀ (H1 : Heap) (locs1 : List Loc), va_P D vwCl (P ++ wc) H1 → va_S A0 H0 H1 locs1 → W p l e R s m args below meth c H1 locs1 (cells + mc) (slots + ms) Q (F0 m (pc + 3) ls (.int r0 :: rest))) : W p l e R s m args below meth c H locs cells slots Q (F0 m pc ls st0) := krI hr hP hD hS hA _ (zp_map2 P wc) kk
/-- the class's calls: its cells stand first, and keep their places -/
theorem zc_xI {r0 : Int32} (hr : va_Run p l e R s m args below meth c H locs cells slots mc ms (F0 m pc ls st0) rest (va_Qi (fun (r : Int32) (_ : Nat → Nat) => r = r0) (KB D tys wc H.size (fun _ => wm)) (va_A wc H.size) a) (va_A wc H.size)) (hP : va_P D vwCl (wc ++ suf) H) (hD : va_D A0 (wc ++ suf)) (hS : va_S A0 H0 H locs) (hA : ∀ q, H0.size ≤ q → A0 q) (hm : wm.map (fun q => q.1) = wc.map (fun q => q.1))
    (kk : ∀ (H1 : Heap) (locs1 : List Loc), va_P D vwCl (wm ++ suf) H1 → va_D A0 (wm ++ suf) → va_S A0 H0 H1 locs1 → W p l e R s m args below meth c H1 locs1 (cells + mc) (slots + ms) Q (F0 m (pc + 3) ls (.int r0 :: rest))) : W p l e R s m args below meth c H locs cells slots Q (F0 m pc ls st0) := by
  have hlen : wc.length = wm.length := by
    have := congrArg List.length hm
    rw [List.length_map, List.length_map] at this
    exact this.symm
  refine kwIE hr hP hD hS hA (List.range wc.length) (zp_map wc suf) hm (w2 := wm ++ suf) ?_ kk
  rw [List.range_eq_range']
  exact kput_block wc wm [] suf hlen
theorem zc_xD {r0 : UInt64} (hr : va_Run p l e R s m args below meth c H locs cells slots mc ms (F0 m pc ls st0) rest (va_Qd (fun (r : UInt64) (_ : Nat → Nat) => r = r0) (KB D tys wc H.size (fun _ => wc)) (va_A wc H.size) a) (va_A wc H.size)) (hP : va_P D vwCl (wc ++ suf) H) (hD : va_D A0 (wc ++ suf)) (hS : va_S A0 H0 H locs) (hA : ∀ q, H0.size ≤ q → A0 q)
    (kk : ∀ (H1 : Heap) (locs1 : List Loc), va_P D vwCl (wc ++ suf) H1 → va_S A0 H0 H1 locs1 → W p l e R s m args below meth c H1 locs1 (cells + mc) (slots + ms) Q (F0 m (pc + 3) ls (.double r0 :: rest))) : W p l e R s m args below meth c H locs cells slots Q (F0 m pc ls st0) := krD hr hP hD hS hA (List.range wc.length) (zp_map wc suf) kk
end ZGC
end
section
/-! the law's world: the class's cells first, then the law's object and its rows -/
theorem zw_l {P : va_W} {cy : Nat → ClassId} {hs : Nat} {ad : Nat → Nat} {G : FN} {F : Nat → Nat} {h : zs_H} : zs_W P cy hs ad G F h = P ++ zs_W [] cy hs ad G F h := by
  show (P ++ [_]) ++ _ = P ++ (([] ++ [_]) ++ _)
  rw [List.append_assoc]
  rfl
theorem zw_map1 {P : va_W} {cy : Nat → ClassId} {hs : Nat} {ad : Nat → Nat} {G : FN} {F : Nat → Nat} {h : zs_H} : (List.range P.length).map (fun i => (zs_W P cy hs ad G F h)[i]?) = P.map some := by
  rw [zw_l]
  exact zp_map _ _
theorem zw_map2 {P : va_W} {cy : Nat → ClassId} {hs : Nat} {ad : Nat → Nat} {G : FN} {F : Nat → Nat} {h : zs_H} : (List.range' P.length (zs_W [] cy hs ad G F h).length).map (fun i => (zs_W P cy hs ad G F h)[i]?) = (zs_W [] cy hs ad G F h).map some := by
  have e : zs_W P cy hs ad G F h = P ++ zs_W [] cy hs ad G F h := zw_l
  rw [e]
  exact zp_map2 _ _
/-- what a maker of rows leaves: references to rows, no fewer rows, the old ones where they were -/
def zs_ok (h : zs_H) (F2 : Nat → Nat) (h2 : zs_H) (ad u : Nat → Nat) : Prop := zs_wf h2 ∧ zs_fs F2 h2 ∧ h.1 ≤ h2.1 ∧ ∀ i, i < h.1 → u i = ad i
theorem zs_cl_row {h h1 : zs_H} {q B : Nat} (z : zs_cl h q B = some h1) : ∃ x, h1.2 h.1 = .inl x := by
  obtain ⟨k, f, -, -, -, rfl⟩ := zs_cl_of z
  exact ⟨(k, f), if_pos rfl⟩
section ZWC
variable {p : Program} {l : Launch} {e : Env} {R : Room} {s : State} {m : MethodId} {args : Array Value} {below : List Frame} {meth : Method} {c : Code} {H : Heap} {locs : List Loc} {cells slots : Nat} {Q : State → Prop}
variable {D : va_G} {cy : Nat → ClassId} {sa : SAT} {pc : Nat} {ls : Array Slot} {rest st0 : List Value} {a : Array Value} {A0 : Nat → Prop} {H0 : Heap} {mc ms : Nat} {P P2 : va_W} {hs : Nat} {ad : Nat → Nat} {G G2 : FN} {F F2 : Nat → Nat} {h h2 : zs_H} {cc : ByteArray}
theorem zw_rI {r0 : Int32} (hr : va_Run p l e R s m args below meth c H locs cells slots mc ms (F0 m pc ls st0) rest (va_Qi (fun (r : Int32) (_ : Nat → Nat) => r = r0) (KB D (tyW cy) (zs_W [] cy hs ad G F h) H.size (fun _ => zs_W [] cy hs ad G F h)) (va_A (zs_W [] cy hs ad G F h) H.size) a) (va_A (zs_W [] cy hs ad G F h) H.size)) (hP : va_P D vwCl (zs_W P cy hs ad G F h) H) (hD : va_D A0 (zs_W P cy hs ad G F h)) (hS : va_S A0 H0 H locs) (hA : ∀ q, H0.size ≤ q → A0 q)
    (kk : ∀ (H1 : Heap) (locs1 : List Loc), va_P D vwCl (zs_W P cy hs ad G F h) H1 → va_S A0 H0 H1 locs1 → W p l e R s m args below meth c H1 locs1 (cells + mc) (slots + ms) Q (F0 m (pc + 3) ls (.int r0 :: rest))) : W p l e R s m args below meth c H locs cells slots Q (F0 m pc ls st0) := krI hr hP hD hS hA _ zw_map2 kk
theorem zw_I {post : Int32 → (Nat → Nat) → Prop} (hr : va_Run p l e R s m args below meth c H locs cells slots mc ms (F0 m pc ls st0) rest (va_Qi post (zg_B D (tyW cy) (zs_W [] cy hs ad G F h) H.size (fun u => zs_W [] cy hs u G2 F2 h2)) (va_A (zs_W [] cy hs ad G F h) H.size) a) (va_A (zs_W [] cy hs ad G F h) H.size)) (hP : va_P D vwCl (zs_W P cy hs ad G F h) H) (hD : va_D A0 (zs_W P cy hs ad G F h)) (hS : va_S A0 H0 H locs) (hA : ∀ q, H0.size ≤ q → A0 q)
    (kk : ∀ (r : Int32) (u : Nat → Nat) (H1 : Heap) (locs1 : List Loc), post r u → va_P D vwCl (zs_W P cy hs u G2 F2 h2) H1 → va_D A0 (zs_W P cy hs u G2 F2 h2) → va_S A0 H0 H1 locs1 → W p l e R s m args below meth c H1 locs1 (cells + mc) (slots + ms) Q (F0 m (pc + 3) ls (.int r :: rest))) : W p l e R s m args below meth c H locs cells slots Q (F0 m pc ls st0) := by
  rw [zw_l] at hP hD
  refine zc_I hr hP hD hS hA (fun r u H1 locs1 hp hP hD hS => ?_)
  exact kk r u H1 locs1 hp (by rw [zw_l]; exact hP) (by rw [zw_l]; exact hD) hS
theorem zw_R {post : (Nat → Nat) → Prop} {pa : (Nat → Nat) → Nat} (hr : va_Run p l e R s m args below meth c H locs cells slots mc ms (F0 m pc ls st0) rest (va_Qr post (fun u x t => x = pa u ∧ zg_B D (tyW cy) (zs_W [] cy hs ad G F h) H.size (fun u => zs_W [] cy hs u G2 F2 h2) u t) (va_A (zs_W [] cy hs ad G F h) H.size) a) (va_A (zs_W [] cy hs ad G F h) H.size)) (hP : va_P D vwCl (zs_W P cy hs ad G F h) H) (hD : va_D A0 (zs_W P cy hs ad G F h)) (hS : va_S A0 H0 H locs) (hA : ∀ q, H0.size ≤ q → A0 q)
    (kk : ∀ (u : Nat → Nat) (H1 : Heap) (locs1 : List Loc), post u → va_P D vwCl (zs_W P cy hs u G2 F2 h2) H1 → va_D A0 (zs_W P cy hs u G2 F2 h2) → va_S A0 H0 H1 locs1 → W p l e R s m args below meth c H1 locs1 (cells + mc) (slots + ms) Q (F0 m (pc + 3) ls (.ref (pa u) :: rest))) : W p l e R s m args below meth c H locs cells slots Q (F0 m pc ls st0) := by
  rw [zw_l] at hP hD
  refine zc_R hr hP hD hS hA (fun u H1 locs1 hp hP hD hS => ?_)
  exact kk u H1 locs1 hp (by rw [zw_l]; exact hP) (by rw [zw_l]; exact hD) hS
theorem zw_xI {r0 : Int32} (hr : va_Run p l e R s m args below meth c H locs cells slots mc ms (F0 m pc ls st0) rest (va_Qi (fun (r : Int32) (_ : Nat → Nat) => r = r0) (KB D (tyW cy) P H.size (fun _ => P2)) (va_A P H.size) a) (va_A P H.size)) (hP : va_P D vwCl (zs_W P cy hs ad G F h) H) (hD : va_D A0 (zs_W P cy hs ad G F h)) (hS : va_S A0 H0 H locs) (hA : ∀ q, H0.size ≤ q → A0 q) (hm : P2.map (fun q => q.1) = P.map (fun q => q.1))
    (kk : ∀ (H1 : Heap) (locs1 : List Loc), va_P D vwCl (zs_W P2 cy hs ad G F h) H1 → va_D A0 (zs_W P2 cy hs ad G F h) → va_S A0 H0 H1 locs1 → W p l e R s m args below meth c H1 locs1 (cells + mc) (slots + ms) Q (F0 m (pc + 3) ls (.int r0 :: rest))) : W p l e R s m args below meth c H locs cells slots Q (F0 m pc ls st0) := by
  rw [zw_l] at hP hD
  refine zc_xI hr hP hD hS hA hm (fun H1 locs1 hP hD hS => ?_)
  exact kk H1 locs1 (by rw [zw_l]; exact hP) (by rw [zw_l]; exact hD) hS
theorem zw_xD {r0 : UInt64} (hr : va_Run p l e R s m args below meth c H locs cells slots mc ms (F0 m pc ls st0) rest (va_Qd (fun (r : UInt64) (_ : Nat → Nat) => r = r0) (KB D (tyW cy) P H.size (fun _ => P)) (va_A P H.size) a) (va_A P H.size)) (hP : va_P D vwCl (zs_W P cy hs ad G F h) H) (hD : va_D A0 (zs_W P cy hs ad G F h)) (hS : va_S A0 H0 H locs) (hA : ∀ q, H0.size ≤ q → A0 q)
    (kk : ∀ (H1 : Heap) (locs1 : List Loc), va_P D vwCl (zs_W P cy hs ad G F h) H1 → va_S A0 H0 H1 locs1 → W p l e R s m args below meth c H1 locs1 (cells + mc) (slots + ms) Q (F0 m (pc + 3) ls (.double r0 :: rest))) : W p l e R s m args below meth c H locs cells slots Q (F0 m pc ls st0) := krD hr hP hD hS hA _ zw_map1 kk
theorem sx_cast (hx : p.tables.exec = Jvm.exec) (hb : c.code = cc) {own : String} {index : Nat} (hown : s.vm.findClass own = some m.cls) (hlink : (Cond.classLink own index "[I").before args s = true) (hK : va_K D vwCl (tyW cy) s) (hP : va_P D vwCl (zs_W P cy hs ad G F h) H) {q : Nat} (hq : q < h.1) (he : ∃ x, h.2 q = .inl x) (hdg : decode cc pc = .ok (.checkcast index, 3))
    (kk : W p l e R s m args below meth c H locs cells slots Q (F0 m (pc + 3) ls (.ref (ad q) :: rest))) : W p l e R s m args below meth c H locs cells slots Q (F0 m pc ls (.ref (ad q) :: rest)) := by
  obtain ⟨x, hx2⟩ := he
  refine va_castA (cA := cy 0) (x := (x.1, .inl x.2)) hx hb hown hlink hP ((P ++ [(hs, .inr (6, zs_obj ad G F))] : va_W).length + q) ?_ (show s.vm.findClass "[I" = some (cy 0) from (hK.2 0 _ rfl).2) hdg kk
  rw [zs_rows_get hq, hx2]
  rfl
end ZWC
section ZKV
variable {p : Program} {l : Launch} {e : Env} {R : Room} {s : State} {m : MethodId} {args : Array Value} {below : List Frame} {meth : Method} {c : Code} {H : Heap} {locs : List Loc} {cells slots : Nat} {Q : State → Prop}
variable {D : va_G} {tys : List (ClassId × FieldType)} {sa : SAT} {pc : Nat} {ls : Array Slot} {rest st0 : List Value} {w wc : va_W} {y : MethodName} {bytes cc : ByteArray} {maxL nL n index mc ms : Nat} {ret : Option FieldType} {ws : List Cond} {rm : Room} {Qc : Array Value → State → Outcome → State → Prop} {free : Addr → Prop} {Ts : List Cond} {own C : String} {b : Addr} {As : List Value}
/-- a virtual call, the receiver at any place of the callee's world -/
theorem kVj {A : Nat → Prop} (S : CallFix p m c cc nL s args Ts own) (hM : Met l y ws rm (va_Pc (.ref b :: As) (KPc D tys sa wc H.size)) Qc mc ms free) (cw : CallW R s args own C index y bytes maxL ret ws rm mc ms n) (hK : va_K D vwCl tys s) (hP : va_P D vwCl w H) (hD : va_D A w) (hS : va_S A s.heap H locs) (hA : ∀ q, s.heap.size ≤ q → A q) (hG : GE sa A s s.heap) (isC : List Nat) (hC : isC.map (fun i => w[i]?) = wc.map some) (hnd : va_nd isC = true)
    {ci j : Nat} {fs : List Value} {q : vw_C} (hb : wc[j]? = some (b, .inr (ci, fs))) (hc : vwCl[ci]? = some q) (hq : q.1 = C) (hn : As.length = n) (hls : ls.size = nL) (rest : List Value) (hst : st0 = As.reverse ++ .ref b :: rest) (hcat : (rest.map fun v => v.category).sum ≤ 8) (hdg : decode cc pc = .ok (.invokevirtual index, 3)) (hf : cells + mc ≤ R.cells ∧ slots + ms ≤ R.slots) :
    va_Run p l e R s m args below meth c H locs cells slots mc ms (F0 m pc ls st0) rest (Qc (Value.ref b :: As).toArray) free := by
  subst hq
  have hPc : va_P D vwCl wc H := fun k q hq => by
    have h1 : k < isC.length := by
      rw [kmap_len hC]
      exact (List.getElem?_eq_some_iff.mp hq).1
    exact hP _ q (kmap_get hC (List.getElem?_eq_getElem h1) hq)
  exact va_runV S hM cw ⟨KPc_blind _ _ _ _ _ _, va_recv hK hPc hc hb, fun U hU hW => ⟨rfl, kpre hP hD hK hS hA hG isC hC hnd hU hW⟩⟩ rfl hn hls hst (lv_room hcat) hdg hf
end ZKV
end
section
theorem pu_add (a b : Nat) : nI a + nI b = nI (a + b) := (Int32.ofNat_add a b).symm
theorem pu_mul (a b : Nat) : nI a * nI b = nI (a * b) := (Int32.ofNat_mul a b).symm
theorem pu_sub {a b : Nat} (h : b ≤ a) : nI a - nI b = nI (a - b) := (Int32.ofNat_sub a b h).symm
theorem pu_div {a b : Nat} (ha : a < 2147483648) (hb : b < 2147483648) : nI a / nI b = nI (a / b) := (Int32.ofNat_div ha hb).symm
theorem pu_ti {a : Nat} (h : a < 2147483648) : (nI a).toInt = (a : Int) := Int32.toInt_ofNat_of_lt h
theorem pu_tn {a : Nat} (h : a < 2147483648) : (nI a).toNatClampNeg = a := Int32.toNatClampNeg_ofNat_of_lt h
theorem pu_le {a b : Nat} (ha : a < 2147483648) (hb : b < 2147483648) : nI a ≤ nI b ↔ a ≤ b := by
  rw [Int32.le_iff_toInt_le, pu_ti ha, pu_ti hb]; omega
theorem pu_lt {a b : Nat} (ha : a < 2147483648) (hb : b < 2147483648) : nI a < nI b ↔ a < b := by
  rw [Int32.lt_iff_toInt_lt, pu_ti ha, pu_ti hb]; omega
theorem pu_eq {a b : Nat} (ha : a < 2147483648) (hb : b < 2147483648) : nI a = nI b ↔ a = b := by
  rw [← Int32.toInt_inj, pu_ti ha, pu_ti hb]; omega
theorem pu_m1 : (-nI 1).toInt = -1 := by decide
theorem pu_em {a : Nat} (ha : a < 2147483648) : nI a = -nI 1 ↔ False := by
  rw [← Int32.toInt_inj, pu_ti ha, pu_m1]; exact iff_of_false (by omega) id
theorem pu_me {a : Nat} (ha : a < 2147483648) : -nI 1 = nI a ↔ False := by
  rw [← Int32.toInt_inj, pu_ti ha, pu_m1]; exact iff_of_false (by omega) id
theorem pu_lm {a : Nat} (ha : a < 2147483648) : -nI 1 ≤ nI a ↔ True := by
  rw [Int32.le_iff_toInt_le, pu_ti ha, pu_m1]; exact iff_of_true (by omega) trivial
theorem pu_mlt {a : Nat} (ha : a < 2147483648) : -nI 1 < nI a ↔ True := by
  rw [Int32.lt_iff_toInt_lt, pu_ti ha, pu_m1]; exact iff_of_true (by omega) trivial
theorem pu_ml {a : Nat} (ha : a < 2147483648) : nI a ≤ -nI 1 ↔ False := by
  rw [Int32.le_iff_toInt_le, pu_ti ha, pu_m1]; exact iff_of_false (by omega) id
theorem pu_ltm {a : Nat} (ha : a < 2147483648) : nI a < -nI 1 ↔ False := by
  rw [Int32.lt_iff_toInt_lt, pu_ti ha, pu_m1]; exact iff_of_false (by omega) id
theorem pu_lit (n : Nat) : (@OfNat.ofNat Int32 n _) = nI (@OfNat.ofNat Nat n _) := rfl
theorem pu_ck {α : Type} {i n : Nat} {k : Option α} (h : i < n) (hn : n < 2147483648) : ckI (nI i) n k = k := by
  unfold ckI
  rw [pu_ti (by omega)]
  exact if_pos (by omega)
theorem pu_ckz {α : Type} {a : Nat} {k : Option α} (h : 0 < a) (hn : a < 2147483648) : ckZ (nI a) k = k := by
  unfold ckZ
  exact if_neg (by rw [show (0 : Int32) = nI 0 from rfl, pu_eq hn (by omega)]; omega)
theorem pu_bs {α β : Type} (x : α) (k : α → Option β) : (some x).bind k = k x := rfl
theorem pu_up {f : FN} {k : Nat} {x : Int32} : upd f k x k = x := if_pos rfl
theorem pu_un {f : FN} {k j : Nat} {x : Int32} (h : j ≠ k) : upd f k x j = f j := if_neg h
/-- a number from 0 to n -/
theorem pu_nat {a : Int32} (h0 : 0 ≤ a.toInt) : ∃ n : Nat, n < 2147483648 ∧ a = nI n ∧ (n : Int) = a.toInt := by
  have hlt := Int32.toInt_lt a
  refine ⟨a.toInt.toNat, by omega, ?_, by omega⟩
  rw [← Int32.toInt_inj, pu_ti (by omega)]
  omega
theorem pu_b {a : Int32} {b : Nat} (hb : b < 2147483648) : (∃ n, n < b ∧ a = nI n) ∨ (a.toInt < 0 ∨ (b : Int) ≤ a.toInt) := by
  by_cases h : 0 ≤ a.toInt
  · obtain ⟨n, h1, h2, h3⟩ := pu_nat h
    by_cases h4 : n < b
    · exact .inl ⟨n, h4, h2⟩
    · exact .inr (.inr (by omega))
  · exact .inr (.inl (by omega))
theorem pu_lt0 {a : Int32} : a < nI 0 ↔ a.toInt < 0 := by
  rw [Int32.lt_iff_toInt_lt]; exact Iff.rfl
theorem pu_ltn {a : Int32} {b : Nat} (hb : b < 2147483648) : a < nI b ↔ a.toInt < (b : Int) := by
  rw [Int32.lt_iff_toInt_lt, pu_ti hb]
theorem pu_nlt {a : Int32} {b : Nat} (hb : b < 2147483648) : nI b < a ↔ (b : Int) < a.toInt := by
  rw [Int32.lt_iff_toInt_lt, pu_ti hb]
theorem pu_len {a : Int32} {b : Nat} (hb : b < 2147483648) : a ≤ nI b ↔ a.toInt ≤ (b : Int) := by
  rw [Int32.le_iff_toInt_le, pu_ti hb]
theorem pu_nle {a : Int32} {b : Nat} (hb : b < 2147483648) : nI b ≤ a ↔ (b : Int) ≤ a.toInt := by
  rw [Int32.le_iff_toInt_le, pu_ti hb]
theorem pc0 : (0 : Int32).toNatClampNeg = 0 := rfl
theorem pc1 : (1 : Int32).toNatClampNeg = 1 := rfl
theorem pc2 : (2 : Int32).toNatClampNeg = 2 := rfl
theorem pc3 : (3 : Int32).toNatClampNeg = 3 := rfl
theorem pc4 : (4 : Int32).toNatClampNeg = 4 := rfl
theorem pc5 : (5 : Int32).toNatClampNeg = 5 := rfl
theorem pu_if {a b : Nat} (ha : a < 2147483648) (hb : b < 2147483648) : (if nI a < nI b then nI a else nI b) = nI (min a b) := by
  by_cases c : a < b
  · rw [if_pos ((pu_lt ha hb).mpr c), Nat.min_eq_left (by omega)]
  · rw [if_neg (fun h => c ((pu_lt ha hb).mp h)), Nat.min_eq_right (by omega)]
theorem pu_upup (f : FN) (k : Nat) (x y : Int32) : upd (upd f k x) k y = upd f k y := by
  funext j
  unfold upd
  split <;> rfl
theorem va_upup {α : Type} (f : Nat → α) (k : Nat) (x y : α) : va_up (va_up f k x) k y = va_up f k y := by
  funext j
  unfold va_up
  split <;> rfl
theorem va_up_p {α : Type} {f : Nat → α} {k : Nat} {x : α} : va_up f k x k = x := if_pos rfl
theorem va_up_n {α : Type} {f : Nat → α} {k j : Nat} {x : α} (h : j ≠ k) : va_up f k x j = f j := if_neg h
end
section
/-! the law's rows seen as tables: kinds 0 vats, 1 pairs, 2 teams, 3 posts, 4 loft, 5 rags, 6 water -/
def zr_w (k : Nat) : Nat := if k = 6 then 7 else 3
theorem zr_w7 (k : Nat) : zr_w k ≤ 7 := by unfold zr_w; split <;> omega
theorem zr_w3 {k : Nat} (h : k ≠ 6) : zr_w k = 3 := if_neg h
abbrev zr_T : Type := (Nat × Nat) ⊕ (Nat ⊕ zs_E)
def zr_m (sz : Nat → Nat) (R : Nat → Nat → Nat) (C : Nat → Nat → Nat → Int32) (t : zr_T) (e : zs_E) : Prop := match t with
  | .inl (k, j) => ∃ f, e = .inl (zr_w k, f) ∧ ∀ c, c < zr_w k → f c = C k j c
  | .inr (.inl k) => ∃ g, e = .inr (sz k, g) ∧ ∀ j, j < sz k → g j = some (R k j)
  | .inr (.inr e') => e = e'
def zr_O (own : Nat → Option zr_T) (p : zs_H) (F : Nat → Nat) (sz : Nat → Nat) (R : Nat → Nat → Nat) (C : Nat → Nat → Nat → Int32) (K : Nat → Option zs_E) : Prop :=
  (∀ q t, own q = some t → q < p.1 ∧ zr_m sz R C t (p.2 q)) ∧
  (∀ k j, k < 7 → j < sz k → own (R k j) = some (.inl (k, j))) ∧
  (∀ k, k < 5 → own (F (7 + k)) = some (.inr (.inl k))) ∧
  (∀ q k j, own q = some (.inl (k, j)) → k < 7 ∧ j < sz k ∧ q = R k j) ∧
  (∀ q k, own q = some (.inr (.inl k)) → k < 5 ∧ q = F (7 + k)) ∧
  (∀ q e, K q = some e → own q = some (.inr (.inr e))) ∧ (sz 5 = 1 ∧ sz 6 = 1 ∧ R 5 0 = F 6 ∧ R 6 0 = F 5)
/-- sz: how many of a kind; R: a row's number; C: what it holds; K: other rows, as they are -/
def zr (p : zs_H) (F : Nat → Nat) (sz : Nat → Nat) (R : Nat → Nat → Nat) (C : Nat → Nat → Nat → Int32) (K : Nat → Option zs_E) : Prop := ∃ own, zr_O own p F sz R C K
def zr_c (C : Nat → Nat → Nat → Int32) (k j c : Nat) (v : Int32) : Nat → Nat → Nat → Int32 := fun k' j' c' => if k' = k ∧ j' = j ∧ c' = c then v else C k' j' c'
/-- a whole row set -/
def zr_r (C : Nat → Nat → Nat → Int32) (k j : Nat) (f : FN) : Nat → Nat → Nat → Int32 := fun k' j' c' => if k' = k ∧ j' = j then f c' else C k' j' c'
def zr_u (R : Nat → Nat → Nat) (k j q : Nat) : Nat → Nat → Nat := fun k' j' => if k' = k ∧ j' = j then q else R k' j'
def zr_e : Nat → Option zs_E := fun _ => none
section ZR
variable {p : zs_H} {F : Nat → Nat} {sz : Nat → Nat} {R : Nat → Nat → Nat} {C : Nat → Nat → Nat → Int32} {K : Nat → Option zs_E}
theorem zr_row (H : zr p F sz R C K) {k j : Nat} (hk : k < 7) (hj : j < sz k) : R k j < p.1 ∧ ∃ f, p.2 (R k j) = .inl (zr_w k, f) ∧ ∀ c, c < zr_w k → f c = C k j c := by
  obtain ⟨own, h1, h2, -⟩ := H
  exact h1 _ _ (h2 k j hk hj)
theorem zr_out (H : zr p F sz R C K) {k : Nat} (hk : k < 5) : F (7 + k) < p.1 ∧ ∃ g, p.2 (F (7 + k)) = .inr (sz k, g) ∧ ∀ j, j < sz k → g j = some (R k j) := by
  obtain ⟨own, h1, -, h3, -⟩ := H
  exact h1 _ _ (h3 k hk)
theorem zr_oth (H : zr p F sz R C K) {q : Nat} {e : zs_E} (hq : K q = some e) : q < p.1 ∧ p.2 q = e := by
  obtain ⟨own, h1, -, -, -, -, h6, -⟩ := H
  exact h1 _ _ (h6 q e hq)
theorem zr_F6 (H : zr p F sz R C K) : sz 5 = 1 ∧ sz 6 = 1 ∧ R 5 0 = F 6 ∧ R 6 0 = F 5 := by
  obtain ⟨own, -, -, -, -, -, -, h7⟩ := H
  exact h7
theorem zr_ldI {q n c : Nat} {f : FN} (hq : q < p.1) (he : p.2 q = .inl (n, f)) (hc : c < n) (hn : n < 2147483648) : zs_ld p q (nI c) = some (f c) := by
  unfold zs_ld
  rw [if_pos hq, he]
  show ckI (nI c) n (some (f (nI c).toNatClampNeg)) = _
  rw [pu_ck hc hn, pu_tn (by omega)]
theorem zr_ld (H : zr p F sz R C K) {k j c : Nat} (hk : k < 7) (hj : j < sz k) (hc : c < zr_w k) : zs_ld p (R k j) (nI c) = some (C k j c) := by
  obtain ⟨h1, f, h2, h3⟩ := zr_row H hk hj
  have := zr_w7 k
  rw [zr_ldI h1 h2 hc (by omega), h3 c hc]
theorem zr_ldr (H : zr p F sz R C K) {k j : Nat} (hk : k < 5) (hj : j < sz k) (hs : sz k < 2147483648) : zs_ldr p (F (7 + k)) (nI j) = some (R k j) := by
  obtain ⟨h1, g, h2, h3⟩ := zr_out H hk
  unfold zs_ldr
  rw [if_pos h1, h2]
  show ckI (nI j) (sz k) (g (nI j).toNatClampNeg) = _
  rw [pu_ck hj hs, pu_tn (by omega), h3 j hj]
theorem zr_len (H : zr p F sz R C K) {k : Nat} (hk : k < 5) : zs_len p (F (7 + k)) = some (nI (sz k)) := by
  obtain ⟨h1, g, h2, h3⟩ := zr_out H hk
  unfold zs_len
  rw [if_pos h1, h2]
  rfl
theorem zr_kld (H : zr p F sz R C K) {q n c : Nat} {f : FN} (hq : K q = some (.inl (n, f))) (hc : c < n) (hn : n < 2147483648) : zs_ld p q (nI c) = some (f c) := by
  obtain ⟨h1, h2⟩ := zr_oth H hq
  exact zr_ldI h1 h2 hc hn
theorem zr_kldr (H : zr p F sz R C K) {q n j v : Nat} {g : Nat → Option Nat} (hq : K q = some (.inr (n, g))) (hj : j < n) (hn : n < 2147483648) (hg : g j = some v) : zs_ldr p q (nI j) = some v := by
  obtain ⟨h1, h2⟩ := zr_oth H hq
  unfold zs_ldr
  rw [if_pos h1, h2]
  show ckI (nI j) n (g (nI j).toNatClampNeg) = _
  rw [pu_ck hj hn, pu_tn (by omega), hg]
theorem zr_klen (H : zr p F sz R C K) {q n : Nat} {g : Nat → Option Nat} (hq : K q = some (.inr (n, g))) : zs_len p q = some (nI n) := by
  obtain ⟨h1, h2⟩ := zr_oth H hq
  unfold zs_len
  rw [if_pos h1, h2]
  rfl
theorem zr_klenI (H : zr p F sz R C K) {q n : Nat} {f : FN} (hq : K q = some (.inl (n, f))) : zs_len p q = some (nI n) := by
  obtain ⟨h1, h2⟩ := zr_oth H hq
  unfold zs_len
  rw [if_pos h1, h2]
  rfl
theorem zr_stI {q n c : Nat} {f : FN} {v : Int32} (hq : q < p.1) (he : p.2 q = .inl (n, f)) (hc : c < n) (hn : n < 2147483648) : zs_st p q (nI c) v = some (p.1, va_up p.2 q (.inl (n, upd f c v))) := by
  unfold zs_st
  rw [if_pos hq, he]
  show ckI (nI c) n (some (p.1, va_up p.2 q (.inl (n, upd f (nI c).toNatClampNeg v)))) = _
  rw [pu_ck hc hn, pu_tn (by omega)]
/-- a row of a kind changed at a place -/
theorem zr_st (H : zr p F sz R C K) {k j c : Nat} {v : Int32} (hk : k < 7) (hj : j < sz k) (hc : c < zr_w k) : ∃ p2, zs_st p (R k j) (nI c) v = some p2 ∧ p2.1 = p.1 ∧ zr p2 F sz R (zr_c C k j c v) K := by
  obtain ⟨h1, f, h2, h3⟩ := zr_row H hk hj
  have hw := zr_w7 k
  refine ⟨_, zr_stI h1 h2 hc (by omega), rfl, ?_⟩
  obtain ⟨own, g1, g2, g3, g4, g5, g6, g7⟩ := H
  refine ⟨own, fun q t ht => ⟨(g1 q t ht).1, ?_⟩, g2, g3, g4, g5, g6, g7⟩
  have hm := (g1 q t ht).2
  show zr_m sz R (zr_c C k j c v) t (va_up p.2 (R k j) (.inl (zr_w k, upd f c v)) q)
  by_cases e : q = R k j
  · subst e
    rw [va_up_p]
    have := g2 k j hk hj
    rw [ht] at this
    cases this
    refine ⟨_, rfl, fun d hd => ?_⟩
    unfold zr_c upd
    by_cases hdc : d = c
    · rw [if_pos hdc, if_pos ⟨rfl, rfl, hdc⟩]
    · rw [if_neg hdc, if_neg (fun h => hdc h.2.2)]
      exact h3 d hd
  · rw [va_up_n e]
    cases t with
    | inr t => cases t with
      | inl k2 => exact hm
      | inr e2 => exact hm
    | inl t =>
      obtain ⟨k2, j2⟩ := t
      obtain ⟨f2, m1, m2⟩ := hm
      refine ⟨f2, m1, fun d hd => ?_⟩
      rw [m2 d hd]
      unfold zr_c
      rw [if_neg (fun h => ?_)]
      obtain ⟨rfl, rfl, -⟩ := h
      exact e (g4 q _ _ ht).2.2
/-- another row changed: its own content alone -/
theorem zr_set (H : zr p F sz R C K) {q : Nat} {e e2 : zs_E} (hq : K q = some e) : zr (p.1, va_up p.2 q e2) F sz R C (va_up K q (some e2)) := by
  obtain ⟨own, g1, g2, g3, g4, g5, g6, g7⟩ := H
  have hoq := g6 q e hq
  refine ⟨va_up own q (some (.inr (.inr e2))), fun q2 t ht => ?_, fun k j hk hj => ?_, fun k hk => ?_, fun q2 k j h => ?_, fun q2 k h => ?_, fun q2 e3 h => ?_, g7⟩
  · by_cases c : q2 = q
    · subst c
      rw [va_up_p] at ht
      cases ht
      refine ⟨(g1 _ _ hoq).1, ?_⟩
      show va_up p.2 q2 e2 q2 = e2
      exact va_up_p
    · rw [va_up_n c] at ht
      refine ⟨(g1 q2 t ht).1, ?_⟩
      show zr_m sz R C t (va_up p.2 q e2 q2)
      rw [va_up_n c]
      exact (g1 q2 t ht).2
  · have h0 := g2 k j hk hj
    rw [va_up_n (fun c => by rw [c, hoq] at h0; cases h0)]
    exact h0
  · have h0 := g3 k hk
    rw [va_up_n (fun c => by rw [c, hoq] at h0; cases h0)]
    exact h0
  · by_cases c : q2 = q
    · rw [c, va_up_p] at h; cases h
    · rw [va_up_n c] at h; exact g4 q2 k j h
  · by_cases c : q2 = q
    · rw [c, va_up_p] at h; cases h
    · rw [va_up_n c] at h; exact g5 q2 k h
  · by_cases c : q2 = q
    · rw [c, va_up_p] at h; cases h; rw [c, va_up_p]
    · rw [va_up_n c] at h; rw [va_up_n c]; exact g6 q2 e3 h
theorem zr_kst (H : zr p F sz R C K) {q n c : Nat} {f : FN} {v : Int32} (hq : K q = some (.inl (n, f))) (hc : c < n) (hn : n < 2147483648) : ∃ p2, zs_st p q (nI c) v = some p2 ∧ p2.1 = p.1 ∧ zr p2 F sz R C (va_up K q (some (.inl (n, upd f c v)))) := by
  obtain ⟨h1, h2⟩ := zr_oth H hq
  exact ⟨_, zr_stI h1 h2 hc hn, rfl, zr_set H hq⟩
/-- a new row -/
theorem zr_push (H : zr p F sz R C K) (e : zs_E) : zr (p.1 + 1, va_up p.2 p.1 e) F sz R C (va_up K p.1 (some e)) := by
  obtain ⟨own, g1, g2, g3, g4, g5, g6, g7⟩ := H
  have hn : ∀ t, own p.1 ≠ some t := fun t h => Nat.lt_irrefl _ (g1 _ _ h).1
  refine ⟨va_up own p.1 (some (.inr (.inr e))), fun q2 t ht => ?_, fun k j hk hj => ?_, fun k hk => ?_, fun q2 k j h => ?_, fun q2 k h => ?_, fun q2 e3 h => ?_, g7⟩
  · by_cases c : q2 = p.1
    · subst c
      rw [va_up_p] at ht
      cases ht
      refine ⟨Nat.lt_succ_self _, ?_⟩
      show va_up p.2 p.1 e p.1 = e
      exact va_up_p
    · rw [va_up_n c] at ht
      refine ⟨Nat.lt_succ_of_lt (g1 q2 t ht).1, ?_⟩
      show zr_m sz R C t (va_up p.2 p.1 e q2)
      rw [va_up_n c]
      exact (g1 q2 t ht).2
  · have h0 := g2 k j hk hj
    rw [va_up_n (fun c => by rw [c] at h0; exact hn _ h0)]
    exact h0
  · have h0 := g3 k hk
    rw [va_up_n (fun c => by rw [c] at h0; exact hn _ h0)]
    exact h0
  · by_cases c : q2 = p.1
    · rw [c, va_up_p] at h; cases h
    · rw [va_up_n c] at h; exact g4 q2 k j h
  · by_cases c : q2 = p.1
    · rw [c, va_up_p] at h; cases h
    · rw [va_up_n c] at h; exact g5 q2 k h
  · by_cases c : q2 = p.1
    · rw [c, va_up_p] at h; cases h; rw [c, va_up_p]
    · rw [va_up_n c] at h; rw [va_up_n c]; exact g6 q2 e3 h
theorem zr_nwi (H : zr p F sz R C K) {n B : Nat} (hn : n ≤ B) (hB : B < 2147483648) : ∃ p2, zs_nwi p (nI n) B = some p2 ∧ p2.1 = p.1 + 1 ∧ zr p2 F sz R C (va_up K p.1 (some (.inl (n, fun _ => 0)))) := by
  refine ⟨_, ?_, rfl, zr_push H (.inl (n, fun _ => 0))⟩
  unfold zs_nwi
  rw [pu_ti (by omega), if_pos (by omega), pu_tn (by omega)]
theorem zr_nwr (H : zr p F sz R C K) {n B : Nat} (hn : n ≤ B) (hB : B < 2147483648) : ∃ p2, zs_nwr p (nI n) B = some p2 ∧ p2.1 = p.1 + 1 ∧ zr p2 F sz R C (va_up K p.1 (some (.inr (n, fun _ => none)))) := by
  refine ⟨_, ?_, rfl, zr_push H (.inr (n, fun _ => none))⟩
  unfold zs_nwr
  rw [pu_ti (by omega), if_pos (by omega), pu_tn (by omega)]
/-- another row becomes a row of a kind, at a place that was there -/
theorem zr_put (H : zr p F sz R C K) {k j q : Nat} {f : FN} (hk : k < 5) (hj : j < sz k) (hs : sz k < 2147483648) (hq : K q = some (.inl (3, f))) : ∃ p2, zs_str p (F (7 + k)) (nI j) q = some p2 ∧ p2.1 = p.1 ∧ zr p2 F sz (zr_u R k j q) (zr_r C k j f) (va_up K q none) := by
  obtain ⟨ho1, g, ho2, ho3⟩ := zr_out H hk
  obtain ⟨hq1, hq2⟩ := zr_oth H hq
  refine ⟨(p.1, va_up p.2 (F (7 + k)) (.inr (sz k, va_up g j (some q)))), ?_, rfl, ?_⟩
  · unfold zs_str
    rw [if_pos ⟨ho1, hq1⟩, ho2, hq2]
    show ckI (nI j) (sz k) (some (p.1, va_up p.2 (F (7 + k)) (.inr (sz k, va_up g (nI j).toNatClampNeg (some q))))) = _
    rw [pu_ck hj hs, pu_tn (by omega)]
  · obtain ⟨own, g1, g2, g3, g4, g5, g6, g7⟩ := H
    have hoq := g6 q _ hq
    have hqO : ∀ k', k' < 5 → F (7 + k') ≠ q := fun k' hk' c => by have := g3 k' hk'; rw [c, hoq] at this; cases this
    have hqR : ∀ k' j', k' < 7 → j' < sz k' → R k' j' ≠ q := fun k' j' hk' hj' c => by have := g2 k' j' hk' hj'; rw [c, hoq] at this; cases this
    have hold := g2 k j (by omega) hj
    have hRO : ∀ k', k' < 5 → F (7 + k') ≠ R k j := fun k' hk' c => by have := g3 k' hk'; rw [c, hold] at this; cases this
    refine ⟨va_up (va_up own (R k j) none) q (some (.inl (k, j))), fun q2 t ht => ?_, fun k2 j2 hk2 hj2 => ?_, fun k2 hk2 => ?_, fun q2 k2 j2 h => ?_, fun q2 k2 h => ?_, fun q2 e3 h => ?_, ?_⟩
    · by_cases c : q2 = q
      · subst c
        rw [va_up_p] at ht
        cases ht
        refine ⟨hq1, ?_⟩
        show zr_m sz _ _ (.inl (k, j)) (va_up p.2 (F (7 + k)) _ q2)
        rw [va_up_n (fun h => hqO k hk h.symm), hq2]
        refine ⟨f, by rw [zr_w3 (by omega)], fun d _ => ?_⟩
        show f d = if k = k ∧ j = j then f d else _
        rw [if_pos ⟨rfl, rfl⟩]
      · rw [va_up_n c] at ht
        by_cases c2 : q2 = R k j
        · rw [c2, va_up_p] at ht; cases ht
        · rw [va_up_n c2] at ht
          obtain ⟨m1, m2⟩ := g1 q2 t ht
          refine ⟨m1, ?_⟩
          show zr_m sz (zr_u R k j q) (zr_r C k j f) t (va_up p.2 (F (7 + k)) _ q2)
          cases t with
          | inl t =>
            obtain ⟨k2, j2⟩ := t
            have hne : q2 ≠ F (7 + k) := fun h => by rw [h, g3 k hk] at ht; cases ht
            rw [va_up_n hne]
            obtain ⟨f2, n1, n2⟩ := m2
            refine ⟨f2, n1, fun d hd => ?_⟩
            rw [n2 d hd]
            unfold zr_r
            rw [if_neg (fun h => ?_)]
            obtain ⟨rfl, rfl⟩ := h
            exact c2 (g4 q2 _ _ ht).2.2
          | inr t => cases t with
            | inr e2 =>
              have hne : q2 ≠ F (7 + k) := fun h => by rw [h, g3 k hk] at ht; cases ht
              rw [va_up_n hne]
              exact m2
            | inl k2 =>
              obtain ⟨hk2, hq2e⟩ := g5 q2 k2 ht
              by_cases c3 : k2 = k
              · subst c3
                subst hq2e
                rw [va_up_p]
                refine ⟨_, rfl, fun j2 hj2 => ?_⟩
                unfold va_up zr_u
                by_cases c4 : j2 = j
                · rw [if_pos c4, if_pos ⟨rfl, c4⟩]
                · rw [if_neg c4, if_neg (fun h => c4 h.2)]
                  exact ho3 j2 hj2
              · have hne : q2 ≠ F (7 + k) := fun h => by
                  rw [h, g3 k hk] at ht
                  exact c3 (Sum.inl.inj (Sum.inr.inj (Option.some.inj ht))).symm
                rw [va_up_n hne]
                obtain ⟨g', n1, n2⟩ := m2
                refine ⟨g', n1, fun j2 hj2 => ?_⟩
                rw [n2 j2 hj2]
                unfold zr_u
                rw [if_neg (fun h => c3 h.1)]
    · by_cases c : k2 = k ∧ j2 = j
      · obtain ⟨rfl, rfl⟩ := c
        show va_up _ _ _ (if k2 = k2 ∧ j2 = j2 then q else _) = _
        rw [if_pos ⟨rfl, rfl⟩, va_up_p]
      · show va_up _ _ _ (if k2 = k ∧ j2 = j then q else R k2 j2) = _
        rw [if_neg c, va_up_n (hqR k2 j2 hk2 hj2), va_up_n (fun h => ?_)]
        · exact g2 k2 j2 hk2 hj2
        · have a1 := g2 k2 j2 hk2 hj2
          rw [h, hold] at a1
          have a2 := Sum.inl.inj (Option.some.inj a1)
          exact c ⟨(congrArg Prod.fst a2).symm, (congrArg Prod.snd a2).symm⟩
    · rw [va_up_n (hqO k2 hk2), va_up_n (hRO k2 hk2)]
      exact g3 k2 hk2
    · by_cases c : q2 = q
      · subst c
        rw [va_up_p] at h
        cases h
        refine ⟨by omega, hj, ?_⟩
        show q2 = if k = k ∧ j = j then q2 else _
        rw [if_pos ⟨rfl, rfl⟩]
      · rw [va_up_n c] at h
        by_cases c2 : q2 = R k j
        · rw [c2, va_up_p] at h; cases h
        · rw [va_up_n c2] at h
          obtain ⟨a1, a2, a3⟩ := g4 q2 k2 j2 h
          refine ⟨a1, a2, ?_⟩
          unfold zr_u
          rw [if_neg (fun h2 => ?_)]
          · exact a3
          · obtain ⟨rfl, rfl⟩ := h2
            exact c2 a3
    · by_cases c : q2 = q
      · rw [c, va_up_p] at h; cases h
      · rw [va_up_n c] at h
        by_cases c2 : q2 = R k j
        · rw [c2, va_up_p] at h; cases h
        · rw [va_up_n c2] at h; exact g5 q2 k2 h
    · by_cases c : q2 = q
      · rw [c, va_up_p] at h; cases h
      · rw [va_up_n c] at h
        rw [va_up_n c]
        have := g6 q2 e3 h
        rw [va_up_n (fun c2 => by rw [c2, hold] at this; cases this)]
        exact this
    · obtain ⟨s1, s2, s3, s4⟩ := g7
      refine ⟨s1, s2, ?_, ?_⟩
      · unfold zr_u; rw [if_neg (by omega)]; exact s3
      · unfold zr_u; rw [if_neg (by omega)]; exact s4
theorem zr_cC {C2 : Nat → Nat → Nat → Int32} (H : zr p F sz R C K) (h : ∀ k j c, k < 7 → j < sz k → c < zr_w k → C2 k j c = C k j c) : zr p F sz R C2 K := by
  obtain ⟨own, g1, g2, g3, g4, g5, g6, g7⟩ := H
  refine ⟨own, fun q t ht => ⟨(g1 q t ht).1, ?_⟩, g2, g3, g4, g5, g6, g7⟩
  have hm := (g1 q t ht).2
  cases t with
  | inr t => cases t with
    | inl k2 => exact hm
    | inr e2 => exact hm
  | inl t =>
    obtain ⟨k2, j2⟩ := t
    obtain ⟨f2, m1, m2⟩ := hm
    obtain ⟨a1, a2, -⟩ := g4 q _ _ ht
    exact ⟨f2, m1, fun d hd => by rw [m2 d hd, h k2 j2 d a1 a2 hd]⟩
theorem zr_cS {s2 : Nat → Nat} (H : zr p F sz R C K) (h : ∀ k, k < 7 → s2 k = sz k) : zr p F s2 R C K := by
  obtain ⟨own, g1, g2, g3, g4, g5, g6, g7⟩ := H
  refine ⟨own, fun q t ht => ⟨(g1 q t ht).1, ?_⟩, fun k j hk hj => g2 k j hk (by rw [← h k hk]; exact hj), g3, fun q k j ht => ?_, g5, g6, ?_⟩
  · have hm := (g1 q t ht).2
    cases t with
    | inl t => exact hm
    | inr t => cases t with
      | inr e2 => exact hm
      | inl k2 =>
        have hk2 := (g5 q k2 ht).1
        obtain ⟨g, m1, m2⟩ := hm
        exact ⟨g, by rw [h k2 (by omega)]; exact m1, fun j hj => m2 j (by rw [← h k2 (by omega)]; exact hj)⟩
  · obtain ⟨a1, a2, a3⟩ := g4 q k j ht
    exact ⟨a1, by rw [h k a1]; exact a2, a3⟩
  · rw [h 5 (by omega), h 6 (by omega)]
    exact g7
theorem zr_cK {K2 : Nat → Option zs_E} (H : zr p F sz R C K) (h : ∀ q e, K2 q = some e → K q = some e) : zr p F sz R C K2 := by
  obtain ⟨own, g1, g2, g3, g4, g5, g6, g7⟩ := H
  exact ⟨own, g1, g2, g3, g4, g5, fun q e he => g6 q e (h q e he), g7⟩
/-- a kind's row of rows made anew: of its old rows, and of others -/
theorem zr_new (H : zr p F sz R C K) {k q n : Nat} {g : Nat → Option Nat} {ids : Nat → Nat} {C2 : Nat → Nat → Int32} (hk : k < 5) (hq : K q = some (.inr (n, g))) (hg : ∀ j, j < n → g j = some (ids j)) (hinj : ∀ i j, i < n → j < n → ids i = ids j → i = j)
    (hrow : ∀ j, j < n → (∃ i, i < sz k ∧ ids j = R k i ∧ ∀ c, c < 3 → C2 j c = C k i c) ∨ ∃ f, K (ids j) = some (.inl (3, f)) ∧ ∀ c, c < 3 → C2 j c = f c) {K2 : Nat → Option zs_E} (hK : ∀ q' e, K2 q' = some e → K q' = some e ∧ q' ≠ q ∧ ∀ j, j < n → ids j ≠ q') :
    zr p (va_up F (7 + k) q) (va_up sz k n) (fun k' j' => if k' = k then ids j' else R k' j') (fun k' j' => if k' = k then C2 j' else C k' j') K2 := by
  obtain ⟨own, g1, g2, g3, g4, g5, g6, g7⟩ := H
  have hoq := g6 q _ hq
  have ho := g3 k hk
  have e3 : zr_w k = 3 := zr_w3 (by omega)
  -- what the new rows were
  have hwas : ∀ j, j < n → (∃ i, own (ids j) = some (.inl (k, i))) ∨ ∃ f, own (ids j) = some (.inr (.inr (.inl (3, f)))) := fun j hj => by
    rcases hrow j hj with ⟨i, hi, e, -⟩ | ⟨f, hf, -⟩
    · exact Or.inl ⟨i, by rw [e]; exact g2 k i (by omega) hi⟩
    · exact Or.inr ⟨f, g6 _ _ hf⟩
  have hidq : ∀ j, j < n → ids j ≠ q := fun j hj e => by
    rcases hwas j hj with ⟨i, h⟩ | ⟨f, h⟩
    · rw [e, hoq] at h; cases h
    · rw [e, hoq] at h; cases h
  have hidO : ∀ j k', j < n → k' < 5 → ids j ≠ F (7 + k') := fun j k' hj hk' e => by
    have h0 := g3 k' hk'
    rcases hwas j hj with ⟨i, h⟩ | ⟨f, h⟩
    · rw [e, h0] at h; cases h
    · rw [e, h0] at h; cases h
  have hidR : ∀ j k' j', j < n → k' < 7 → j' < sz k' → k' ≠ k → ids j ≠ R k' j' := fun j k' j' hj hk' hj' hne e => by
    have h0 := g2 k' j' hk' hj'
    rcases hwas j hj with ⟨i, h⟩ | ⟨f, h⟩
    · rw [e, h0] at h
      have := Sum.inl.inj (Option.some.inj h)
      exact hne (congrArg Prod.fst this)
    · rw [e, h0] at h; cases h
  let O2 : Nat → Option zr_T := fun x => @ite _ (x = q) (Classical.propDecidable _) (some (.inr (.inl k))) (@dite _ (∃ j, j < n ∧ ids j = x) (Classical.propDecidable _) (fun h => some (.inl (k, Classical.choose h))) (fun _ => @ite _ (x = F (7 + k) ∨ ∃ i, own x = some (.inl (k, i))) (Classical.propDecidable _) none (own x)))
  have o1 : O2 q = some (.inr (.inl k)) := if_pos rfl
  have o2 : ∀ j, j < n → O2 (ids j) = some (.inl (k, j)) := fun j hj => by
    have hex : ∃ j', j' < n ∧ ids j' = ids j := ⟨j, hj, rfl⟩
    have h0 : O2 (ids j) = some (.inl (k, Classical.choose hex)) := by
      show @ite _ (ids j = q) (Classical.propDecidable _) _ (@dite _ (∃ j', j' < n ∧ ids j' = ids j) (Classical.propDecidable _) _ _) = _
      rw [if_neg (hidq j hj), dif_pos hex]
    have h1 := Classical.choose_spec hex
    rw [h0, hinj _ _ h1.1 hj h1.2]
  have o3 : ∀ x, x ≠ q → (∀ j, j < n → ids j ≠ x) → x ≠ F (7 + k) → (∀ i, own x ≠ some (.inl (k, i))) → O2 x = own x := fun x h1 h2 h3 h4 => by
    show @ite _ (x = q) (Classical.propDecidable _) _ (@dite _ (∃ j', j' < n ∧ ids j' = x) (Classical.propDecidable _) _ (fun _ => @ite _ (x = F (7 + k) ∨ ∃ i, own x = some (.inl (k, i))) (Classical.propDecidable _) none (own x))) = _
    rw [if_neg h1, dif_neg (fun ⟨j, a, b⟩ => h2 j a b), if_neg (fun h => h.elim h3 (fun ⟨i, a⟩ => h4 i a))]
  have o4 : ∀ x t, O2 x = some t → (x = q ∧ t = .inr (.inl k)) ∨ (∃ j, j < n ∧ x = ids j ∧ t = .inl (k, j)) ∨ (own x = some t ∧ x ≠ q ∧ (∀ j, j < n → ids j ≠ x) ∧ x ≠ F (7 + k) ∧ ∀ i, t ≠ .inl (k, i)) := fun x t h => by
    by_cases c1 : x = q
    · rw [c1, o1] at h
      exact Or.inl ⟨c1, (Option.some.inj h).symm⟩
    · by_cases c2 : ∃ j, j < n ∧ ids j = x
      · obtain ⟨j, hj, e⟩ := c2
        rw [← e, o2 j hj] at h
        exact Or.inr (Or.inl ⟨j, hj, e.symm, (Option.some.inj h).symm⟩)
      · have h2 : O2 x = @ite _ (x = F (7 + k) ∨ ∃ i, own x = some (.inl (k, i))) (Classical.propDecidable _) none (own x) := by
          show @ite _ (x = q) (Classical.propDecidable _) _ (@dite _ (∃ j', j' < n ∧ ids j' = x) (Classical.propDecidable _) _ _) = _
          rw [if_neg c1, dif_neg c2]
        rw [h2] at h
        by_cases c3 : x = F (7 + k) ∨ ∃ i, own x = some (.inl (k, i))
        · rw [if_pos c3] at h; cases h
        · rw [if_neg c3] at h
          exact Or.inr (Or.inr ⟨h, c1, fun j hj e => c2 ⟨j, hj, e⟩, fun e => c3 (Or.inl e), fun i e => c3 (Or.inr ⟨i, by rw [h, e]⟩)⟩)
  refine ⟨O2, fun x t ht => ?_, fun k2 j2 hk2 hj2 => ?_, fun k2 hk2 => ?_, fun x k2 j2 hx => ?_, fun x k2 hx => ?_, fun x e hx => ?_, ?_⟩
  · rcases o4 x t ht with ⟨rfl, rfl⟩ | ⟨j, hj, rfl, rfl⟩ | ⟨h, h1, h2, h3, h4⟩
    · refine ⟨(g1 _ _ hoq).1, g, ?_, fun j hj => ?_⟩
      · have : p.2 x = .inr (n, g) := (g1 _ _ hoq).2
        rw [this, va_up_p]
      · rw [va_up_p] at hj
        show g j = some (if k = k then ids j else _)
        rw [if_pos rfl]; exact hg j hj
    · rcases hrow j hj with ⟨i, hi, e, hc⟩ | ⟨f, hf, hc⟩
      · obtain ⟨a1, f, a2, a3⟩ := g1 _ _ (g2 k i (by omega) hi)
        rw [e]
        refine ⟨a1, f, a2, fun d hd => ?_⟩
        show f d = (if k = k then C2 j else C k j) d
        rw [if_pos rfl, hc d (by rw [← e3]; exact hd)]
        exact a3 d hd
      · obtain ⟨a1, a2⟩ := g1 _ _ (g6 _ _ hf)
        refine ⟨a1, f, ?_, fun d hd => ?_⟩
        · rw [show p.2 (ids j) = .inl (3, f) from a2, e3]
        · show f d = (if k = k then C2 j else C k j) d
          rw [if_pos rfl]
          exact (hc d (by rw [← e3]; exact hd)).symm
    · obtain ⟨a1, a2⟩ := g1 x t h
      refine ⟨a1, ?_⟩
      cases t with
      | inl t =>
        obtain ⟨k2, j2⟩ := t
        have hne : k2 ≠ k := fun c => h4 j2 (by rw [c])
        obtain ⟨f2, m1, m2⟩ := a2
        refine ⟨f2, m1, fun d hd => ?_⟩
        show f2 d = (if k2 = k then C2 j2 else C k2 j2) d
        rw [if_neg hne]
        exact m2 d hd
      | inr t => cases t with
        | inr e2 => exact a2
        | inl k2 =>
          have hne : k2 ≠ k := fun c => h3 (by rw [(g5 x k2 h).2, c])
          obtain ⟨g', n1, n2⟩ := a2
          refine ⟨g', by rw [va_up_n hne]; exact n1, fun j2 hj2 => ?_⟩
          rw [va_up_n hne] at hj2
          show g' j2 = some (if k2 = k then ids j2 else R k2 j2)
          rw [if_neg hne]
          exact n2 j2 hj2
  · by_cases c : k2 = k
    · subst c
      rw [va_up_p] at hj2
      show O2 (if k2 = k2 then ids j2 else R k2 j2) = _
      rw [if_pos rfl]
      exact o2 j2 hj2
    · rw [va_up_n c] at hj2
      have h0 := g2 k2 j2 hk2 hj2
      show O2 (if k2 = k then ids j2 else R k2 j2) = _
      rw [if_neg c, o3 (R k2 j2) (fun e => by rw [e, hoq] at h0; cases h0) (fun j hj e => hidR j k2 j2 hj hk2 hj2 c e) (fun e => by rw [e, ho] at h0; cases h0) (fun i e => by rw [h0] at e; exact c (congrArg Prod.fst (Sum.inl.inj (Option.some.inj e))))]
      exact h0
  · by_cases c : k2 = k
    · subst c
      rw [va_up_p]
      exact o1
    · have h0 := g3 k2 hk2
      rw [va_up_n (by omega), o3 (F (7 + k2)) (fun e => by rw [e, hoq] at h0; cases h0) (fun j hj e => hidO j k2 hj hk2 e) (fun e => by rw [e, ho] at h0; exact c (Sum.inl.inj (Sum.inr.inj (Option.some.inj h0))).symm) (fun i e => by rw [h0] at e; cases e)]
      exact h0
  · rcases o4 x _ hx with ⟨-, h⟩ | ⟨j, hj, e, h⟩ | ⟨h, h1, h2, h3, h4⟩
    · cases h
    · cases h
      refine ⟨by omega, by rw [va_up_p]; exact hj, ?_⟩
      show x = if k = k then ids j2 else R k j2
      rw [if_pos rfl]
      exact e
    · have hne : k2 ≠ k := fun c => h4 j2 (by rw [c])
      obtain ⟨a1, a2, a3⟩ := g4 x k2 j2 h
      refine ⟨a1, by rw [va_up_n hne]; exact a2, ?_⟩
      show x = if k2 = k then ids j2 else R k2 j2
      rw [if_neg hne]
      exact a3
  · rcases o4 x _ hx with ⟨e, h⟩ | ⟨j, hj, e, h⟩ | ⟨h, h1, h2, h3, h4⟩
    · cases h
      exact ⟨hk, by rw [va_up_p]; exact e⟩
    · cases h
    · obtain ⟨a1, a2⟩ := g5 x k2 h
      have hne : k2 ≠ k := fun c => h3 (by rw [a2, c])
      exact ⟨a1, by rw [va_up_n (by omega)]; exact a2⟩
  · obtain ⟨a1, a2, a3⟩ := hK x e hx
    have h0 := g6 x e a1
    rw [o3 x a2 a3 (fun e2 => by rw [e2, ho] at h0; cases h0) (fun i e2 => by rw [h0] at e2; cases e2)]
    exact h0
  · obtain ⟨s1, s2, s3, s4⟩ := g7
    refine ⟨by rw [va_up_n (by omega)]; exact s1, by rw [va_up_n (by omega)]; exact s2, ?_, ?_⟩
    · show (if 5 = k then ids 0 else R 5 0) = va_up F (7 + k) q 6
      rw [if_neg (by omega), va_up_n (by omega)]
      exact s3
    · show (if 6 = k then ids 0 else R 6 0) = va_up F (7 + k) q 5
      rw [if_neg (by omega), va_up_n (by omega)]
      exact s4
/-- another row of water -/
theorem zr_wat (H : zr p F sz R C K) {q : Nat} {f : FN} (hq : K q = some (.inl (7, f))) : zr p (va_up F 5 q) sz (zr_u R 6 0 q) (zr_r C 6 0 f) (va_up K q none) := by
  obtain ⟨own, g1, g2, g3, g4, g5, g6, g7⟩ := H
  obtain ⟨s1, s2, s3, s4⟩ := g7
  have hoq := g6 q _ hq
  have hold := g2 6 0 (by omega) (by omega)
  refine ⟨va_up (va_up own (R 6 0) none) q (some (.inl (6, 0))), fun x t ht => ?_, fun k2 j2 hk2 hj2 => ?_, fun k2 hk2 => ?_, fun x k2 j2 hx => ?_, fun x k2 hx => ?_, fun x e hx => ?_, s1, s2, ?_, ?_⟩
  · by_cases c : x = q
    · subst c
      rw [va_up_p] at ht
      cases ht
      obtain ⟨a1, a2⟩ := g1 _ _ hoq
      refine ⟨a1, f, ?_, fun d _ => ?_⟩
      · exact a2
      · show f d = if 6 = 6 ∧ 0 = 0 then f d else _
        rw [if_pos ⟨rfl, rfl⟩]
    · rw [va_up_n c] at ht
      by_cases c2 : x = R 6 0
      · rw [c2, va_up_p] at ht; cases ht
      · rw [va_up_n c2] at ht
        obtain ⟨a1, a2⟩ := g1 x t ht
        refine ⟨a1, ?_⟩
        cases t with
        | inl t =>
          obtain ⟨k2, j2⟩ := t
          obtain ⟨f2, m1, m2⟩ := a2
          refine ⟨f2, m1, fun d hd => ?_⟩
          rw [m2 d hd]
          unfold zr_r
          rw [if_neg (fun h => ?_)]
          obtain ⟨rfl, rfl⟩ := h
          exact c2 (g4 x _ _ ht).2.2
        | inr t => cases t with
          | inr e2 => exact a2
          | inl k2 =>
            have hk2 := (g5 x k2 ht).1
            obtain ⟨g', n1, n2⟩ := a2
            refine ⟨g', n1, fun j2 hj2 => ?_⟩
            rw [n2 j2 hj2]
            unfold zr_u
            rw [if_neg (by omega)]
  · by_cases c : k2 = 6 ∧ j2 = 0
    · obtain ⟨rfl, rfl⟩ := c
      show va_up _ _ _ (if 6 = 6 ∧ 0 = 0 then q else _) = _
      rw [if_pos ⟨rfl, rfl⟩, va_up_p]
    · have h0 := g2 k2 j2 hk2 hj2
      show va_up _ _ _ (if k2 = 6 ∧ j2 = 0 then q else R k2 j2) = _
      rw [if_neg c, va_up_n (fun e => by rw [e, hoq] at h0; cases h0), va_up_n (fun e => ?_)]
      · exact h0
      · rw [e, hold] at h0
        have h1 := Sum.inl.inj (Option.some.inj h0)
        exact c ⟨(congrArg Prod.fst h1).symm, (congrArg Prod.snd h1).symm⟩
  · have h0 := g3 k2 hk2
    rw [va_up_n (show 7 + k2 ≠ 5 by omega), va_up_n (fun e => by rw [e, hoq] at h0; cases h0), va_up_n (fun e => by rw [e, hold] at h0; cases h0)]
    exact h0
  · by_cases c : x = q
    · rw [c, va_up_p] at hx
      cases hx
      refine ⟨by omega, by omega, ?_⟩
      show x = if 6 = 6 ∧ 0 = 0 then q else _
      rw [if_pos ⟨rfl, rfl⟩]; exact c
    · rw [va_up_n c] at hx
      by_cases c2 : x = R 6 0
      · rw [c2, va_up_p] at hx; cases hx
      · rw [va_up_n c2] at hx
        obtain ⟨a1, a2, a3⟩ := g4 x k2 j2 hx
        refine ⟨a1, a2, ?_⟩
        unfold zr_u
        rw [if_neg (fun h => ?_)]
        · exact a3
        · obtain ⟨rfl, rfl⟩ := h
          exact c2 a3
  · by_cases c : x = q
    · rw [c, va_up_p] at hx; cases hx
    · rw [va_up_n c] at hx
      by_cases c2 : x = R 6 0
      · rw [c2, va_up_p] at hx; cases hx
      · rw [va_up_n c2] at hx
        rw [va_up_n (show 7 + k2 ≠ 5 by omega)]
        exact g5 x k2 hx
  · by_cases c : x = q
    · rw [c, va_up_p] at hx; cases hx
    · rw [va_up_n c] at hx
      rw [va_up_n c]
      have h0 := g6 x e hx
      rw [va_up_n (fun c2 => by rw [c2, hold] at h0; cases h0)]
      exact h0
  · unfold zr_u
    rw [if_neg (by omega), va_up_n (by omega)]
    exact s3
  · unfold zr_u
    rw [if_pos ⟨rfl, rfl⟩, va_up_p]
end ZR
end
