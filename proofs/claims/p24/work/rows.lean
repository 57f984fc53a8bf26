section
/-- a private method of a class that the tables say can be made, by its rows of tables_1 -/
def lw_okq (q : MethodName × Nat) : Prop := (q.1.cls ≠ "java/lang/invoke/MethodHandle" ∧ q.1.cls ≠ "java/lang/invoke/VarHandle") ∧ Cond.instantiable q.1.cls q.2 ∈ tables_1 ∧ Cond.privateMethod q.1 ∈ tables_1 ∧ Cond.instanceMethod q.1 ∈ tables_1
theorem lw_p0 : lw_okq (⟨"java/lang/Throwable", "fillInStackTrace", "(I)Ljava/lang/Throwable;"⟩, 6) := ⟨⟨by decide +kernel, by decide +kernel⟩, List.mem_of_getElem? (i := 216) (by decide +kernel), List.mem_of_getElem? (i := 214) (by decide +kernel), List.mem_of_getElem? (i := 215) (by decide +kernel)⟩
theorem lw_p1 : lw_okq (⟨"RagVats$Mill", "allHanging", "()I"⟩, 12) := ⟨⟨by decide +kernel, by decide +kernel⟩, List.mem_of_getElem? (i := 26) (by decide +kernel), List.mem_of_getElem? (i := 342) (by decide +kernel), List.mem_of_getElem? (i := 343) (by decide +kernel)⟩
theorem lw_p2 : lw_okq (⟨"RagVats$Mill", "poundsOf", "(I)I"⟩, 12) := ⟨⟨by decide +kernel, by decide +kernel⟩, List.mem_of_getElem? (i := 26) (by decide +kernel), List.mem_of_getElem? (i := 350) (by decide +kernel), List.mem_of_getElem? (i := 351) (by decide +kernel)⟩
theorem lw_p3 : lw_okq (⟨"RagVats$Vats", "numberWithPulp", "()I"⟩, 3) := ⟨⟨by decide +kernel, by decide +kernel⟩, List.mem_of_getElem? (i := 32) (by decide +kernel), List.mem_of_getElem? (i := 393) (by decide +kernel), List.mem_of_getElem? (i := 394) (by decide +kernel)⟩
theorem lw_p4 : lw_okq (⟨"RagVats$Mill", "makeSheets", "(I)V"⟩, 12) := ⟨⟨by decide +kernel, by decide +kernel⟩, List.mem_of_getElem? (i := 26) (by decide +kernel), List.mem_of_getElem? (i := 398) (by decide +kernel), List.mem_of_getElem? (i := 399) (by decide +kernel)⟩
theorem lw_p5 : lw_okq (⟨"RagVats$Mill", "gradeOf", "(II)I"⟩, 12) := ⟨⟨by decide +kernel, by decide +kernel⟩, List.mem_of_getElem? (i := 26) (by decide +kernel), List.mem_of_getElem? (i := 402) (by decide +kernel), List.mem_of_getElem? (i := 403) (by decide +kernel)⟩
theorem lw_p6 : lw_okq (⟨"RagVats$Mill", "pressPosts", "()V"⟩, 12) := ⟨⟨by decide +kernel, by decide +kernel⟩, List.mem_of_getElem? (i := 26) (by decide +kernel), List.mem_of_getElem? (i := 434) (by decide +kernel), List.mem_of_getElem? (i := 435) (by decide +kernel)⟩
def lw_privs_1 : List (MethodName × Nat) := [(⟨"java/lang/Throwable", "fillInStackTrace", "(I)Ljava/lang/Throwable;"⟩, 6), (⟨"RagVats$Mill", "allHanging", "()I"⟩, 12), (⟨"RagVats$Mill", "poundsOf", "(I)I"⟩, 12), (⟨"RagVats$Vats", "numberWithPulp", "()I"⟩, 3), (⟨"RagVats$Mill", "makeSheets", "(I)V"⟩, 12), (⟨"RagVats$Mill", "gradeOf", "(II)I"⟩, 12), (⟨"RagVats$Mill", "pressPosts", "()V"⟩, 12)]
theorem lw_r1 : ∀ q ∈ lw_privs_1, lw_okq q := List.forall_mem_cons.mpr ⟨lw_p0, List.forall_mem_cons.mpr ⟨lw_p1, List.forall_mem_cons.mpr ⟨lw_p2, List.forall_mem_cons.mpr ⟨lw_p3, List.forall_mem_cons.mpr ⟨lw_p4, List.forall_mem_cons.mpr ⟨lw_p5, List.forall_mem_cons.mpr ⟨lw_p6, fun _ h => absurd h List.not_mem_nil⟩⟩⟩⟩⟩⟩⟩
def lw_privs : List (MethodName × Nat) := lw_privs_1
def lw_tbl : List Cond := k2_sels lw_privs ++ tables_1
theorem lw_privs_ok : ∀ q ∈ lw_privs, lw_okq q := lw_r1
/-- the streams that the claim lets the run draw from -/
abbrev lw_cs : List Choice := [Jvm.Choice.named "NaN.bits"]
theorem lw_bits : nanBits ∈ lw_cs := by first | decide | exact List.mem_cons_self | simp [lw_cs, nanBits]
theorem goodIn_r {big : List Cond} (ws : List Cond) (ps : List Nat) (hp : ws = ps.filterMap (fun i => big[i]?)) (h : ws.all goodWord = true) : GoodIn big ws := by
  intro w hw
  have h1 := List.all_eq_true.mp h w hw
  rw [hp] at hw
  obtain ⟨i, -, hi⟩ := List.mem_filterMap.mp hw
  have hm : w ∈ big := by first | exact List.mem_of_getElem? hi | exact List.getElem?_mem hi
  exact ⟨hm, good_of_word h1⟩
theorem goodIn_app {big a b : List Cond} (ha : GoodIn big a) (hb : GoodIn big b) : GoodIn big (a ++ b) := fun w h => (List.mem_append.mp h).elim (ha w) (hb w)
theorem goodIn_ca {big a b : List Cond} {c : Cond} (ha : GoodIn big (c :: a)) (hb : GoodIn big b) : GoodIn big (c :: (a ++ b)) := fun w h => (List.mem_cons.mp h).elim (fun e => ha w (List.mem_cons.mpr (Or.inl e))) (fun h => (List.mem_append.mp h).elim (fun h => ha w (List.mem_cons.mpr (Or.inr h))) (hb w))
theorem goodIn_sub {big ws : List Cond} (hm : ∀ w ∈ ws, w ∈ big) (h : ws.all goodWord = true) : GoodIn big ws := fun w hw => ⟨hm w hw, good_of_word (List.all_eq_true.mp h w hw)⟩

section VXA
/-! The laws vx_back, vx_callV, vx_callS, vx_callSW, vx_throw0, vx_throwS follow proofs of the library, with one case more: JvmDerived/Free/Laws.lean (Back.of_free), Shelf42/LK1.lean (callV, callS), Shelf/KitTraced.lean (throwNew0V, throwNewS). -/
/-- where a method has thrown q: the class by its name, the cell, what was written, the world -/
def vx_T (XC : String → State → State → Prop) (st : State) (q : Addr) (t : State) (mc ms : Nat) (free : Addr → Prop) : Prop :=
  ∃ (E : String) (ce : Cell) (L : List Loc), XC E st t ∧ t.heap[q]? = some ce ∧ ce.vm = .none ∧ st.vm.findClass E = some ce.cls ∧ st.WarmedH t.vm ∧ st.sameButNew ({ t with vm := st.vm } : State) L mc ms ∧ ∀ z ∈ L, free z.base
def vx_Q (Qc : Array Value → State → Outcome → State → Prop) (XC : String → State → State → Prop) (mc ms : Nat) (free : Addr → Prop) : Array Value → State → Outcome → State → Prop := fun a st o t =>
  (Qc a st o t ∧ ∃ L, FrameEnd st o t L mc ms ∧ ∀ q ∈ L, free q.base) ∨ ∃ q, o = .threw q ∧ vx_T XC st q t mc ms free
/-- a callee that returns or throws -/
def vx_Met (l : Launch) (y : MethodName) (ws : List Cond) (rm : Room) (Pc : Array Value → State → Prop) (Qc : Array Value → State → Outcome → State → Prop) (XC : String → State → State → Prop) (mc ms : Nat) (free : Addr → Prop) : Prop :=
  MetFree l y (headSpec ws rm) Pc (fun _ _ _ _ _ => True) (vx_Q Qc XC mc ms free)
def vx_Post (XC : String → State → State → Prop) (mc ms : Nat) (free : Addr → Prop) : Pt → Array Value → Addr → Pt → Prop := fun A a q B =>
  ∃ (g : JFrame) (mk : MethodId) (t : State) (L : List Loc) (E : String) (ce : Cell), B.U.heap = t.heap ∧ B.U.vm = t.vm ∧ XC E (A.U.calling g mk a) t ∧ t.heap[q]? = some ce ∧ ce.vm = .none ∧ A.U.vm.findClass E = some ce.cls ∧ B.locs = A.locs ++ L ∧ (∀ z ∈ L, free z.base) ∧ B.cells = A.cells + mc ∧ B.slots = A.slots + ms
def vx_Back (l : Launch) (R : Room) (p : Program) (e : Env) (below : List Frame) (s : State) (sargs : Array Value) (y : MethodName) (len W9 : Nat)
    (Pre : Pt → Array Value → Prop) (Post : Pt → Array Value → Option Value → Pt → Prop) (PostX : Pt → Array Value → Addr → Pt → Prop) : Prop :=
  ∀ (m : MethodId) (meth : Method) (c : Code) (A : Pt) (g : JFrame) (ig : Instr) (mk : MethodId) (a : Array Value),
    Stand p l e R s m sargs below meth c A.U A.locs A.cells A.slots → g.method = m → g.locals.size = c.maxLocals → decode c.code g.pc = .ok (ig, len) →
    2 * g.monitorRoom + (g.stack.map fun v => v.category).sum ≤ W9 → A.U.methodNamed? y = some mk → Pre A a →
    (∃ (v : Option Value) (B : Pt), Stand p l e R s m sargs below meth c B.U B.locs B.cells B.slots ∧ Post A a v B ∧
      Steps p.tables e below (doInvoke e (A.U.setTop g) [] mk a).1 (B.U.setTop { g with pc := g.pc + len, stack := v.toList ++ g.stack })) ∨
    (∃ (q : Addr) (B : Pt), Stand p l e R s m sargs below meth c B.U B.locs B.cells B.slots ∧ PostX A a q B ∧
      Steps p.tables e below (doInvoke e (A.U.setTop g) [] mk a).1 ((B.U.setTop g).pushFrame (.throwing q)))
section Payer
variable {l : Launch} {R : Room} {p : Program} {e : Env} {below : List Frame} {s : State} {sargs : Array Value} {y : MethodName} {len W9 : Nat}
theorem vx_back {ws : List Cond} {rm : Room} {Pc : Array Value → State → Prop} {Qc : Array Value → State → Outcome → State → Prop} {XC : String → State → State → Prop} {mc ms : Nat} {free : Addr → Prop} {bytes : ByteArray} {maxL : Nat} {ret : Option FieldType}
    (hM : vx_Met l y ws rm Pc Qc XC mc ms free) (hblind : FrameBlind Pc) (hrc : rm.cells = mc) (hrs : rm.slots = ms)
    (hframes : rm.frames + 1 ≤ R.frames) (hlocals : W9 + (maxL + 11) + rm.locals ≤ R.locals)
    (hws : ∀ w ∈ ws, ∀ a' U, s.WarmedH U.vm → w.before a' U = true) (hcode : Cond.code y bytes maxL ret ∈ ws) (hinit : ∀ a' U, s.WarmedH U.vm → (Cond.initialized y.cls).before a' U = true) :
    vx_Back l R p e below s sargs y len W9 (PreOf R mc ms Pc) (PostOf Qc mc ms free) (vx_Post XC mc ms free) := by
  intro m meth c A g ig mk a X hg hsize hdg hW hn hp
  have h1 : (headSpec ws rm).pre.before a A.U = true := atoms_intro fun w hw => hws w hw _ _ X.warmed
  have h2 : (Cond.code y bytes maxL ret).before a A.U = true := hws _ hcode _ _ X.warmed
  have h3 : (Cond.initialized y.cls).before a A.U = true := hinit _ _ X.warmed
  have h4 : A.cells + (headSpec ws rm).room.cells ≤ R.cells := by rw [show (headSpec ws rm).room.cells = mc from hrc]; exact hp.1
  have h5 : A.slots + (headSpec ws rm).room.slots ≤ R.slots := by rw [show (headSpec ws rm).room.slots = ms from hrs]; exact hp.2.1
  have hPc : Pc a (A.U.calling g mk a) := hblind _ _ _ _ hp.2.2
  obtain ⟨U, Ls, c0, s0⟩ := A
  dsimp only [Pt.U, Pt.locs, Pt.cells, Pt.slots] at h1 h2 h3 h4 h5 X hn hPc ⊢
  obtain ⟨methY, cY, hmY, hcY, -, hlY, -, -, -, -⟩ := Cond.code_spec hn h2
  obtain ⟨kY, hkY, -⟩ := className_of_methodNamed hn
  have hinitY : kY.init = .initialized := Cond.initialized_spec (findClass_of_methodNamed hn) hkY h3
  have h : At U g.method c below := by rw [hg]; exact X.here
  have hlocals9 : W9 + (maxL + 11) + (headSpec ws rm).room.locals ≤ R.locals := hlocals
  have happ : (headSpec ws rm).appliesLoose y e.platform (U.calling g mk a) = true :=
    Spec.appliesLoose_calling (g := g) h hdg hn hkY hinitY
      (X.room_calling (g := g) (R' := (headSpec ws rm).room) hsize hmY hcY hframes (by rw [hlY]; omega) h4 h5) h1
  obtain ⟨mid, hmid⟩ := h.above
  have hfr : (U.setTop g).frames = (.java g :: mid) ++ below := by rw [State.frames_setTop' g h.top, hmid]; rfl
  obtain ⟨o, s₂, hsteps, -, hend, hq⟩ := Steps.callFree hM p X.admits X.cas X.clock (acts := []) hfr happ hPc trivial
  have hq' : vx_Q Qc XC mc ms free a (U.calling g mk a) o s₂ := hq
  rw [State.frames_setTop' g h.top] at hend
  obtain ⟨g₀, hg0⟩ := Option.isSome_iff_exists.mp h.top
  obtain ⟨r, hr⟩ := State.topJava?_eq_some.mp hg0
  have hr' : (({ U with heap := s₂.heap, slotsUsed := s₂.slotsUsed } : State).setVm s₂.vm).frames = .java g₀ :: r := hr
  rcases hq' with ⟨hqc, L, hfe, hL⟩ | ⟨q, rfl, E, ce, L, hx, hce, hcv, hcl, hW₂, hsm, hL⟩
  · obtain ⟨⟨v, rfl⟩, hW₂, e2, q2, q3, q4, q5, q6⟩ := id hfe
    have e3 : s₂ = ({ (U.calling g mk a).setFrames s₂.frames with heap := s₂.heap, slotsUsed := s₂.slotsUsed } : State).setVm s₂.vm := by
      have : s₂ = ({ s₂ with vm := (U.calling g mk a).vm } : State).setVm s₂.vm := rfl
      rw [e2] at this
      exact this
    obtain ⟨c₂, i₂, len₂, hc₂, hd₂, hf₂⟩ := hend
    have hW' : U.WarmedH s₂.vm := hW₂
    have hcc : c₂ = c := by
      have h1 : s₂.code? g.method = U.code? g.method := by
        rw [State.code?_eq, State.code?_eq, hW'.alike.method?]
      exact Option.some.inj (hc₂.symm.trans (h1.trans h.code))
    subst hcc
    have hlen : len₂ = len := by rw [hdg] at hd₂; cases hd₂; rfl
    subst hlen
    have hs₂ : s₂ = (({ U with heap := s₂.heap, slotsUsed := s₂.slotsUsed } : State).setVm s₂.vm).setTop { g with pc := g.pc + len₂, stack := v.toList ++ g.stack } := by
      refine e3.trans ?_
      rw [hf₂, State.calling_eq h.top, State.setFrames_setFrames, State.setTop_of_frames _ hr', hr]
      rfl
    have hsame : U.sameButNew ({ U with heap := s₂.heap, slotsUsed := s₂.slotsUsed } : State) L mc ms := by
      refine ⟨?_, q2, q3, q4, q5, q6⟩
      obtain ⟨t, ht, -⟩ := State.frames_cons hr
      show ({ U with heap := s₂.heap, slotsUsed := s₂.slotsUsed } : State) = { U.setFrames U.frames with heap := s₂.heap, slotsUsed := s₂.slotsUsed }
      rw [State.setFrames_self ht]
    subst hg
    refine Or.inl ⟨v, ⟨(({ U with heap := s₂.heap, slotsUsed := s₂.slotsUsed } : State).setVm s₂.vm), Ls ++ L, c0 + mc, s0 + ms⟩,
      ⟨X.admits, X.cas, X.clock, X.frames, X.room, X.hears, X.method, X.code, (X.here.setHeapUsed s₂.heap s₂.slotsUsed).setVm hW'.alike, X.tail, State.WarmedH.trans X.warmed hW', X.limits, X.bytes, X.same.trans (hsame.setVm s.vm)⟩,
      ⟨g, mk, s₂, L, rfl, rfl, hqc, rfl, hL, rfl, rfl⟩, ?_⟩
    show Steps p.tables e below _ ((({ U with heap := s₂.heap, slotsUsed := s₂.slotsUsed } : State).setVm s₂.vm).setTop { g with pc := g.pc + len₂, stack := v.toList ++ g.stack })
    rw [← hs₂]
    exact hsteps
  · obtain ⟨e2, q2, q3, q4, q5, q6⟩ := id hsm
    have e3 : s₂ = ({ (U.calling g mk a).setFrames s₂.frames with heap := s₂.heap, slotsUsed := s₂.slotsUsed } : State).setVm s₂.vm := by
      have : s₂ = ({ s₂ with vm := (U.calling g mk a).vm } : State).setVm s₂.vm := rfl
      rw [e2] at this
      exact this
    have hf₂ : s₂.frames = .throwing q :: .java g :: U.frames.tail := hend
    have hW' : U.WarmedH s₂.vm := hW₂
    have hs₂ : s₂ = ((({ U with heap := s₂.heap, slotsUsed := s₂.slotsUsed } : State).setVm s₂.vm).setTop g).pushFrame (.throwing q) := by
      refine e3.trans ?_
      rw [hf₂, State.calling_eq h.top, State.setFrames_setFrames, State.pushFrame, State.frames_setTop _ hr', State.setTop_of_frames _ hr', State.setFrames_setFrames, hr]
      rfl
    have hsame : U.sameButNew ({ U with heap := s₂.heap, slotsUsed := s₂.slotsUsed } : State) L mc ms := by
      refine ⟨?_, q2, q3, q4, q5, q6⟩
      obtain ⟨t, ht, -⟩ := State.frames_cons hr
      show ({ U with heap := s₂.heap, slotsUsed := s₂.slotsUsed } : State) = { U.setFrames U.frames with heap := s₂.heap, slotsUsed := s₂.slotsUsed }
      rw [State.setFrames_self ht]
    subst hg
    refine Or.inr ⟨q, ⟨(({ U with heap := s₂.heap, slotsUsed := s₂.slotsUsed } : State).setVm s₂.vm), Ls ++ L, c0 + mc, s0 + ms⟩,
      ⟨X.admits, X.cas, X.clock, X.frames, X.room, X.hears, X.method, X.code, (X.here.setHeapUsed s₂.heap s₂.slotsUsed).setVm hW'.alike, X.tail, State.WarmedH.trans X.warmed hW', X.limits, X.bytes, X.same.trans (hsame.setVm s.vm)⟩,
      ⟨g, mk, s₂, L, E, ce, rfl, rfl, hx, hce, hcv, hcl, rfl, hL, rfl, rfl⟩, ?_⟩
    show Steps p.tables e below _ (((({ U with heap := s₂.heap, slotsUsed := s₂.slotsUsed } : State).setVm s₂.vm).setTop g).pushFrame (.throwing q))
    rw [← hs₂]
    exact hsteps
end Payer
section Calls
variable {p : Program} {l : Launch} {e : Env} {R : Room} {s : State} {m : MethodId} {args : Array Value} {below : List Frame} {meth : Method} {c : Code} {T : State} {locs : List Loc} {cells slots : Nat}
theorem vx_callV (X : Stand p l e R s m args below meth c T locs cells slots) (hexec : p.tables.exec = Jvm.exec) {own C : String} {index : Nat} {y : MethodName} {bytes : ByteArray} {maxL : Nat} {ret : Option FieldType}
    (hown : s.vm.findClass own = some m.cls) (hlink : (Cond.methodLink own index y).before args s = true) (hinst : (Cond.instanceMethod y).before args s = true) (hsel : (Cond.selects C y y).before args s = true)
    (hcode : (Cond.code y bytes maxL ret).before args s = true) (hy : y.cls ≠ "java/lang/invoke/MethodHandle" ∧ y.cls ≠ "java/lang/invoke/VarHandle")
    {W9 : Nat} {Pre : Pt → Array Value → Prop} {Post : Pt → Array Value → Option Value → Pt → Prop} {PostX : Pt → Array Value → Addr → Pt → Prop} (hK : vx_Back l R p e below s args y 3 W9 Pre Post PostX)
    {b : Addr} {cellB : Cell} (hcell : T.heap[b]? = some cellB) (hobj : cellB.vm.isStatics = false) (hcls : s.vm.findClass C = some cellB.cls)
    {g : JFrame} (hg : g.method = m) (hsize : g.locals.size = c.maxLocals) {argsL rest : List Value} (hlen : ∀ sig, parseMethodDescriptor y.desc = some sig → argsL.length = sig.parameters.length)
    (hstack : g.stack = argsL.reverse ++ .ref b :: rest) (hW : 2 * g.monitorRoom + (rest.map fun v => v.category).sum ≤ W9) (hdg : decode c.code g.pc = .ok (.invokevirtual index, 3))
    (hpre : ∀ vm₁, s.WarmedH vm₁ → Pre ⟨T.setVm vm₁, locs, cells, slots⟩ (Value.ref b :: argsL).toArray) :
    (∃ (v : Option Value) (vm₁ : Vm) (B : Pt), s.WarmedH vm₁ ∧ Stand p l e R s m args below meth c B.U B.locs B.cells B.slots ∧ Post ⟨T.setVm vm₁, locs, cells, slots⟩ (Value.ref b :: argsL).toArray v B ∧
      ∀ target, Steps p.tables e below (B.U.setTop { g with pc := g.pc + 3, stack := v.toList ++ rest }) target → Steps p.tables e below (T.setTop g) target) ∨
    (∃ (q : Addr) (vm₁ : Vm) (B : Pt), s.WarmedH vm₁ ∧ Stand p l e R s m args below meth c B.U B.locs B.cells B.slots ∧ PostX ⟨T.setVm vm₁, locs, cells, slots⟩ (Value.ref b :: argsL).toArray q B ∧
      Steps p.tables e below (T.setTop g) ((B.U.setTop { g with stack := rest }).pushFrame (.throwing q))) := by
  obtain ⟨mk, methM, hnamed, hmethM, hstM, habM⟩ := Cond.instanceMethod_spec hinst
  obtain ⟨methM', cM, hmethM', -, -, -, -, -, -, hsigM⟩ := Cond.code_spec hnamed hcode
  cases hmethM.symm.trans hmethM'
  obtain ⟨c2, r2, m2, q1, q2, q3, q4, kP, hkP, hkPi⟩ := Cond.selects_spec hsel
  cases hcls.symm.trans q1
  cases (State.methodFound?_of_named hnamed hy).symm.trans q2
  cases hnamed.symm.trans q3
  have hselP : selectMethod e.platform s.vm cellB.cls mk = .method mk := by rw [Launch.admits_selectMethod X.admits]; exact q4
  obtain ⟨vm₁, X₁, hstep₁⟩ := X.invokevirtual hexec hown hlink hnamed hmethM hstM hkP hkPi hy (a := b) (cell := cellB) hcell
    (fun z h => by rw [h] at hobj; cases hobj) hselP hmethM habM hkP hkPi (g := g) hg (argsL := argsL) (rest := rest) (hlen _ hsigM) hstack hdg
  rcases hK m meth c ⟨T.setVm vm₁, locs, cells, slots⟩ { g with stack := rest } (.invokevirtual index) mk (Value.ref b :: argsL).toArray X₁ hg hsize hdg hW (X₁.named hnamed) (hpre vm₁ X₁.warmed) with ⟨v, B, X', hpost, hsteps⟩ | ⟨q, B, X', hpost, hsteps⟩
  · exact Or.inl ⟨v, vm₁, B, X₁.warmed, X', hpost, fun target h => hstep₁ _ fun acts => by rw [doInvoke_state]; exact hsteps.trans h⟩
  · exact Or.inr ⟨q, vm₁, B, X₁.warmed, X', hpost, hstep₁ _ fun acts => by rw [doInvoke_state]; exact hsteps⟩
theorem vx_callS (X : Stand p l e R s m args below meth c T locs cells slots) (hexec : p.tables.exec = Jvm.exec) {own : String} {index : Nat} {y : MethodName} {bytes : ByteArray} {maxL : Nat} {ret : Option FieldType}
    (hown : s.vm.findClass own = some m.cls) (hlink : (Cond.methodLink own index y).before args s = true) (hstat : (Cond.static y).before args s = true) (hinit : (Cond.initialized y.cls).before args s = true)
    (hcode : (Cond.code y bytes maxL ret).before args s = true) (hy : y.cls ≠ "java/lang/invoke/MethodHandle" ∧ y.cls ≠ "java/lang/invoke/VarHandle")
    {W9 : Nat} {Pre : Pt → Array Value → Prop} {Post : Pt → Array Value → Option Value → Pt → Prop} {PostX : Pt → Array Value → Addr → Pt → Prop} (hK : vx_Back l R p e below s args y 3 W9 Pre Post PostX)
    {g : JFrame} (hg : g.method = m) (hsize : g.locals.size = c.maxLocals) {argsL rest : List Value} (hlen : ∀ sig, parseMethodDescriptor y.desc = some sig → argsL.length = sig.parameters.length)
    (hstack : g.stack = argsL.reverse ++ rest) (hW : 2 * g.monitorRoom + (rest.map fun v => v.category).sum ≤ W9) (hdg : decode c.code g.pc = .ok (.invokestatic index, 3))
    (hpre : ∀ vm₁, s.WarmedH vm₁ → Pre ⟨T.setVm vm₁, locs, cells, slots⟩ argsL.toArray) :
    (∃ (v : Option Value) (vm₁ : Vm) (B : Pt), s.WarmedH vm₁ ∧ Stand p l e R s m args below meth c B.U B.locs B.cells B.slots ∧ Post ⟨T.setVm vm₁, locs, cells, slots⟩ argsL.toArray v B ∧
      ∀ target, Steps p.tables e below (B.U.setTop { g with pc := g.pc + 3, stack := v.toList ++ rest }) target → Steps p.tables e below (T.setTop g) target) ∨
    (∃ (q : Addr) (vm₁ : Vm) (B : Pt), s.WarmedH vm₁ ∧ Stand p l e R s m args below meth c B.U B.locs B.cells B.slots ∧ PostX ⟨T.setVm vm₁, locs, cells, slots⟩ argsL.toArray q B ∧
      Steps p.tables e below (T.setTop g) ((B.U.setTop { g with stack := rest }).pushFrame (.throwing q))) := by
  obtain ⟨mk, hnamed⟩ := Cond.code_named hcode
  obtain ⟨methM, cM, hmethM, -, -, -, -, -, -, hsigM⟩ := Cond.code_spec hnamed hcode
  have hstatic : methM.isStatic = true := Cond.static_spec hnamed hmethM hstat
  obtain ⟨kP, hkP, -⟩ := className_of_methodNamed hnamed
  have hinitP : kP.init = .initialized := Cond.initialized_spec (findClass_of_methodNamed hnamed) hkP hinit
  obtain ⟨vm₁, X₁, hstep₁⟩ := X.invokestatic hexec hown hlink hnamed hmethM hstatic hkP hinitP hy (g := g) hg (argsL := argsL) (rest := rest) (hlen _ hsigM) hstack hdg
  rcases hK m meth c ⟨T.setVm vm₁, locs, cells, slots⟩ { g with stack := rest } (.invokestatic index) mk argsL.toArray X₁ hg hsize hdg hW (X₁.named hnamed) (hpre vm₁ X₁.warmed) with ⟨v, B, X', hpost, hsteps⟩ | ⟨q, B, X', hpost, hsteps⟩
  · exact Or.inl ⟨v, vm₁, B, X₁.warmed, X', hpost, fun target h => hstep₁ _ fun acts => by rw [doInvoke_state]; exact hsteps.trans h⟩
  · exact Or.inr ⟨q, vm₁, B, X₁.warmed, X', hpost, hstep₁ _ fun acts => by rw [doInvoke_state]; exact hsteps⟩
end Calls
theorem vx_cls {s : State} {T : State} {vm₁ : Vm} {E : String} {k : ClassId} (hW : s.WarmedH vm₁) (h : (T.setVm vm₁).vm.findClass E = some k) : s.vm.findClass E = some k := by
  have h1 : vm₁.findClass E = some k := h
  rw [hW.alike.findClass] at h1
  exact h1
/-- the method's frame g, with q thrown over it -/
def vx_W (p : Program) (l : Launch) (e : Env) (R : Room) (s : State) (m : MethodId) (args : Array Value) (below : List Frame) (meth : Method) (c : Code) (H : Heap) (locs : List Loc) (cells slots : Nat) (Q : State → Prop) (g : JFrame) (q : Addr) : Prop :=
  ∀ T : State, T.heap = H → Stand p l e R s m args below meth c T locs cells slots → ∃ t, Steps p.tables e below ((T.setTop g).pushFrame (.throwing q)) t ∧ Q t
def vx_Run (p : Program) (l : Launch) (e : Env) (R : Room) (s : State) (m : MethodId) (args : Array Value) (below : List Frame) (meth : Method) (c : Code) (H : Heap) (locs : List Loc) (cells slots mc ms : Nat) (g : JFrame) (rest : List Value) (Qa : State → Outcome → State → Prop) (XC : String → State → State → Prop) (free : Addr → Prop) : Prop :=
  ∀ T : State, T.heap = H → Stand p l e R s m args below meth c T locs cells slots →
    (∃ (v : Option Value) (st₀ t T' : State) (L : List Loc), st₀.heap = H ∧ Stand p l e R s m args below meth c T' (locs ++ L) (cells + mc) (slots + ms) ∧ (∀ q ∈ L, free q.base) ∧ T'.heap = t.heap ∧ T'.vm = t.vm ∧ Qa st₀ (.returned v) t ∧
      Goes p e below T g T' { g with pc := g.pc + 3, stack := v.toList ++ rest }) ∨
    (∃ (q : Addr) (st₀ t T' : State) (L : List Loc) (E : String) (ce : Cell), st₀.heap = H ∧ Stand p l e R s m args below meth c T' (locs ++ L) (cells + mc) (slots + ms) ∧ (∀ z ∈ L, free z.base) ∧ T'.heap = t.heap ∧ T'.vm = t.vm ∧ XC E st₀ t ∧ t.heap[q]? = some ce ∧ ce.vm = .none ∧ s.vm.findClass E = some ce.cls ∧
      Steps p.tables e below (T.setTop g) ((T'.setTop { g with stack := rest }).pushFrame (.throwing q)))
def vx_X {S : Type} (px : S → Prop) (B : String → S → State → Prop) (A : Nat → Prop) : String → State → State → Prop := fun E st t => ∃ u : S, px u ∧ B E u t ∧ va_F A st t
section Runs
variable {p : Program} {l : Launch} {e : Env} {R : Room} {s : State} {m : MethodId} {args : Array Value} {below : List Frame} {meth : Method} {c : Code} {H : Heap} {locs : List Loc} {cells slots : Nat}
variable {y : MethodName} {bytes cc : ByteArray} {maxL nL mc ms n index : Nat} {ret : Option FieldType} {ws : List Cond} {rm : Room} {Pc : Array Value → State → Prop} {Qc : Array Value → State → Outcome → State → Prop} {XC : String → State → State → Prop} {free : Addr → Prop} {Ts : List Cond} {own C : String} {b : Addr} {As rest : List Value} {g : JFrame}
theorem vx_callBack (cb : CallB R s args own index y bytes maxL ret ws rm mc ms n) (hM : vx_Met l y ws rm Pc Qc XC mc ms free) (hbl : FrameBlind Pc) : vx_Back l R p e below s args y 3 8 (PreOf R mc ms Pc) (PostOf Qc mc ms free) (vx_Post XC mc ms free) := by
  obtain ⟨hrc, hrs, hfr, hlo, hws, hcw, -, hini, -⟩ := cb
  exact vx_back (bytes := bytes) (maxL := maxL) (ret := ret) hM hbl hrc hrs hfr hlo hws hcw (fun a' U hW => word_at hW (Or.inl (by first | rfl | simp [Cond.onTables, Cond.keeps, Cond.steady])) hini)
theorem vx_runV (S : CallFix p m c cc nL s args Ts own) (hM : vx_Met l y ws rm Pc Qc XC mc ms free) (cw : CallW R s args own C index y bytes maxL ret ws rm mc ms n) (hp : PreV s H C b Pc As)
    (hg : g.method = m) (hn : As.length = n) (hsize : g.locals.size = nL) (hstack : g.stack = As.reverse ++ .ref b :: rest) (hW : 2 * g.monitorRoom + (rest.map fun v => v.category).sum ≤ 8) (hdg : decode cc g.pc = .ok (.invokevirtual index, 3)) (hf : cells + mc ≤ R.cells ∧ slots + ms ≤ R.slots) :
    vx_Run p l e R s m args below meth c H locs cells slots mc ms g rest (Qc (Value.ref b :: As).toArray) XC free := by
  have hK : vx_Back l R p e below s args y 3 8 (PreOf R mc ms Pc) (PostOf Qc mc ms free) (vx_Post XC mc ms free) := vx_callBack cw.1 hM hp.1
  obtain ⟨⟨-, -, -, -, -, -, hcode, -, hy, hlen, hl⟩, hin, hse⟩ := cw
  obtain ⟨hx, hb, hml, ho, -⟩ := S
  obtain ⟨-, ⟨cellB, hcB, hoB, hclB⟩, hPc⟩ := hp
  intro T hT X
  rcases vx_callV X hx (C := C) (bytes := bytes) (maxL := maxL) (ret := ret) ho hl hin hse hcode hy hK (by rw [hT]; exact hcB) hoB hclB hg (hsize.trans hml.symm) (argsL := As) (rest := rest) (fun sig h => hn.trans (hlen sig h)) hstack hW (by rw [hb]; exact hdg)
    (fun vm₁ hW₁ => ⟨hf.1, hf.2, hPc (T.setVm vm₁) hT hW₁⟩) with ⟨v, vm₁, ⟨U', l2, c2, s2⟩, hW₁, X', ⟨g', mk, t, L, e1, e2, hq, h1, hL, h2, h3⟩, st⟩ | ⟨q, vm₁, ⟨U', l2, c2, s2⟩, hW₁, X', ⟨g', mk, t, L, E, ce, e1, e2, hq, hce, hcv, hcl, h1, hL, h2, h3⟩, st⟩
  · dsimp only [Pt.U, Pt.locs, Pt.cells, Pt.slots] at X' e1 e2 h1 h2 h3 st
    subst h1; subst h2; subst h3
    exact Or.inl ⟨v, (T.setVm vm₁).calling g' mk (Value.ref b :: As).toArray, t, U', L, hT, X', hL, e1, e2, hq, st⟩
  · dsimp only [Pt.U, Pt.locs, Pt.cells, Pt.slots] at X' e1 e2 h1 h2 h3 st hcl
    subst h1; subst h2; subst h3
    exact Or.inr ⟨q, (T.setVm vm₁).calling g' mk (Value.ref b :: As).toArray, t, U', L, E, ce, hT, X', hL, e1, e2, hq, hce, hcv, vx_cls hW₁ hcl, st⟩
theorem vx_runS (S : CallFix p m c cc nL s args Ts own) (hM : vx_Met l y ws rm Pc Qc XC mc ms free) (cw : CallB R s args own index y bytes maxL ret ws rm mc ms n ∧ (Cond.static y).before args s = true) (hp : PreS s H Pc As)
    (hg : g.method = m) (hn : As.length = n) (hsize : g.locals.size = nL) (hstack : g.stack = As.reverse ++ rest) (hW : 2 * g.monitorRoom + (rest.map fun v => v.category).sum ≤ 8) (hdg : decode cc g.pc = .ok (.invokestatic index, 3)) (hf : cells + mc ≤ R.cells ∧ slots + ms ≤ R.slots) :
    vx_Run p l e R s m args below meth c H locs cells slots mc ms g rest (Qc As.toArray) XC free := by
  have hK : vx_Back l R p e below s args y 3 8 (PreOf R mc ms Pc) (PostOf Qc mc ms free) (vx_Post XC mc ms free) := vx_callBack cw.1 hM hp.1
  obtain ⟨⟨-, -, -, -, -, -, hcode, hini, hy, hlen, hl⟩, hstt⟩ := cw
  obtain ⟨hx, hb, hml, ho, -⟩ := S
  intro T hT X
  rcases vx_callS X hx (bytes := bytes) (maxL := maxL) (ret := ret) ho hl hstt hini hcode hy hK hg (hsize.trans hml.symm) (argsL := As) (rest := rest) (fun sig h => hn.trans (hlen sig h)) hstack hW (by rw [hb]; exact hdg)
    (fun vm₁ hW₁ => ⟨hf.1, hf.2, hp.2 (T.setVm vm₁) hT hW₁⟩) with ⟨v, vm₁, ⟨U', l2, c2, s2⟩, hW₁, X', ⟨g', mk, t, L, e1, e2, hq, h1, hL, h2, h3⟩, st⟩ | ⟨q, vm₁, ⟨U', l2, c2, s2⟩, hW₁, X', ⟨g', mk, t, L, E, ce, e1, e2, hq, hce, hcv, hcl, h1, hL, h2, h3⟩, st⟩
  · dsimp only [Pt.U, Pt.locs, Pt.cells, Pt.slots] at X' e1 e2 h1 h2 h3 st
    subst h1; subst h2; subst h3
    exact Or.inl ⟨v, (T.setVm vm₁).calling g' mk As.toArray, t, U', L, hT, X', hL, e1, e2, hq, st⟩
  · dsimp only [Pt.U, Pt.locs, Pt.cells, Pt.slots] at X' e1 e2 h1 h2 h3 st hcl
    subst h1; subst h2; subst h3
    exact Or.inr ⟨q, (T.setVm vm₁).calling g' mk As.toArray, t, U', L, E, ce, hT, X', hL, e1, e2, hq, hce, hcv, vx_cls hW₁ hcl, st⟩
end Runs
section Rows
variable {p : Program} {l : Launch} {e : Env} {R : Room} {s : State} {m : MethodId} {args : Array Value} {below : List Frame} {meth : Method} {c : Code} {H : Heap} {locs : List Loc} {cells slots : Nat} {Q : State → Prop}
variable {mc ms : Nat} {free : Addr → Prop} {A0 A1 : Nat → Prop} {H0 : Heap} {a : Array Value} {pc : Nat} {ls : Array Slot} {st0 rest : List Value}
theorem vx_keep {st₀ t T' : State} {L : List Loc} (h0 : st₀.heap = H) (e1 : T'.heap = t.heap) (hS : va_S A0 H0 H locs) (hA : ∀ q, q < H.size → A1 q → A0 q) (hf : ∀ q, free q → A0 q) (hL : ∀ q ∈ L, free q.base) (hF : va_F A1 st₀ t) :
    H.size ≤ T'.heap.size ∧ (∀ q : Nat, q < H.size → ¬ A1 q → T'.heap[q]? = H[q]?) ∧ va_S A0 H0 T'.heap (locs ++ L) := by
  obtain ⟨hz, hk⟩ := hF
  rw [h0] at hz hk
  exact ⟨by rw [e1]; exact hz, fun q h1 h2 => by rw [e1]; exact hk q h1 h2,
    ⟨Nat.le_trans hS.1 (by rw [e1]; exact hz), fun q h1 h2 => by rw [e1, hk q (Nat.lt_of_lt_of_le h1 hS.1) (fun z => h2 (hA q (Nat.lt_of_lt_of_le h1 hS.1) z))]; exact hS.2.1 q h1 h2, fun q hq => by
      rcases List.mem_append.mp hq with h | h
      · exact hS.2.2 q h
      · exact hf _ (hL q h)⟩⟩
theorem vx_calli {S SX : Type} {post : Int32 → S → Prop} {px : SX → Prop} {B : S → State → Prop} {BX : String → SX → State → Prop} {AX : Nat → Prop} (hr : vx_Run p l e R s m args below meth c H locs cells slots mc ms (F0 m pc ls st0) rest (va_Qi post B A1 a) (vx_X px BX AX) free) (hS : va_S A0 H0 H locs) (hA : ∀ q, q < H.size → A1 q → A0 q) (hf : ∀ q, free q → A0 q) (hAX : ∀ q, q < H.size → AX q → A0 q)
    (kx : ∀ (E : String) (ce : Cell) (q9 : Addr) (u : SX) (t : State) (H1 : Heap) (locs1 : List Loc), t.heap = H1 → s.vm.Alike t.vm → px u → BX E u t → H.size ≤ H1.size → (∀ q : Nat, q < H.size → ¬ AX q → H1[q]? = H[q]?) → va_S A0 H0 H1 locs1 → H1[q9]? = some ce → ce.vm = .none → s.vm.findClass E = some ce.cls → vx_W p l e R s m args below meth c H1 locs1 (cells + mc) (slots + ms) Q (F0 m pc ls rest) q9)
    (kk : ∀ (r : Int32) (u : S) (t : State) (H1 : Heap) (locs1 : List Loc), t.heap = H1 → s.vm.Alike t.vm → post r u → B u t → H.size ≤ H1.size → (∀ q : Nat, q < H.size → ¬ A1 q → H1[q]? = H[q]?) → va_S A0 H0 H1 locs1 → W p l e R s m args below meth c H1 locs1 (cells + mc) (slots + ms) Q (F0 m (pc + 3) ls (.int r :: rest))) : W p l e R s m args below meth c H locs cells slots Q (F0 m pc ls st0) := by
  intro T hT X
  rcases hr T hT X with ⟨v, st₀, t, T', L, h0, X', hL, e1, e2, ⟨⟨r, u, hv, hp, hb⟩, hF⟩, st⟩ | ⟨q, st₀, t, T', L, E, ce, h0, X', hL, e1, e2, ⟨u, hp, hb, hF⟩, hce, hcv, hcl, st⟩
  · cases hv
    obtain ⟨k1, k2, k3⟩ := vx_keep h0 e1 hS hA hf hL hF
    obtain ⟨t2, a1, b1⟩ := kk r u t T'.heap (locs ++ L) e1.symm (by rw [← e2]; exact X'.warmed.alike) hp hb k1 k2 k3 T' rfl X'
    exact ⟨t2, st t2 a1, b1⟩
  · obtain ⟨k1, k2, k3⟩ := vx_keep h0 e1 hS hAX hf hL hF
    obtain ⟨t2, a1, b1⟩ := kx E ce q u t T'.heap (locs ++ L) e1.symm (by rw [← e2]; exact X'.warmed.alike) hp hb k1 k2 k3 (by rw [e1]; exact hce) hcv hcl T' rfl X'
    exact ⟨t2, st.trans a1, b1⟩
theorem vx_calll {S SX : Type} {post : Int64 → S → Prop} {px : SX → Prop} {B : S → State → Prop} {BX : String → SX → State → Prop} {AX : Nat → Prop} (hr : vx_Run p l e R s m args below meth c H locs cells slots mc ms (F0 m pc ls st0) rest (va_Ql post B A1 a) (vx_X px BX AX) free) (hS : va_S A0 H0 H locs) (hA : ∀ q, q < H.size → A1 q → A0 q) (hf : ∀ q, free q → A0 q) (hAX : ∀ q, q < H.size → AX q → A0 q)
    (kx : ∀ (E : String) (ce : Cell) (q9 : Addr) (u : SX) (t : State) (H1 : Heap) (locs1 : List Loc), t.heap = H1 → s.vm.Alike t.vm → px u → BX E u t → H.size ≤ H1.size → (∀ q : Nat, q < H.size → ¬ AX q → H1[q]? = H[q]?) → va_S A0 H0 H1 locs1 → H1[q9]? = some ce → ce.vm = .none → s.vm.findClass E = some ce.cls → vx_W p l e R s m args below meth c H1 locs1 (cells + mc) (slots + ms) Q (F0 m pc ls rest) q9)
    (kk : ∀ (r : Int64) (u : S) (t : State) (H1 : Heap) (locs1 : List Loc), t.heap = H1 → s.vm.Alike t.vm → post r u → B u t → H.size ≤ H1.size → (∀ q : Nat, q < H.size → ¬ A1 q → H1[q]? = H[q]?) → va_S A0 H0 H1 locs1 → W p l e R s m args below meth c H1 locs1 (cells + mc) (slots + ms) Q (F0 m (pc + 3) ls (.long r :: rest))) : W p l e R s m args below meth c H locs cells slots Q (F0 m pc ls st0) := by
  intro T hT X
  rcases hr T hT X with ⟨v, st₀, t, T', L, h0, X', hL, e1, e2, ⟨⟨r, u, hv, hp, hb⟩, hF⟩, st⟩ | ⟨q, st₀, t, T', L, E, ce, h0, X', hL, e1, e2, ⟨u, hp, hb, hF⟩, hce, hcv, hcl, st⟩
  · cases hv
    obtain ⟨k1, k2, k3⟩ := vx_keep h0 e1 hS hA hf hL hF
    obtain ⟨t2, a1, b1⟩ := kk r u t T'.heap (locs ++ L) e1.symm (by rw [← e2]; exact X'.warmed.alike) hp hb k1 k2 k3 T' rfl X'
    exact ⟨t2, st t2 a1, b1⟩
  · obtain ⟨k1, k2, k3⟩ := vx_keep h0 e1 hS hAX hf hL hF
    obtain ⟨t2, a1, b1⟩ := kx E ce q u t T'.heap (locs ++ L) e1.symm (by rw [← e2]; exact X'.warmed.alike) hp hb k1 k2 k3 (by rw [e1]; exact hce) hcv hcl T' rfl X'
    exact ⟨t2, st.trans a1, b1⟩
theorem vx_callf {S SX : Type} {post : UInt32 → S → Prop} {px : SX → Prop} {B : S → State → Prop} {BX : String → SX → State → Prop} {AX : Nat → Prop} (hr : vx_Run p l e R s m args below meth c H locs cells slots mc ms (F0 m pc ls st0) rest (va_Qf post B A1 a) (vx_X px BX AX) free) (hS : va_S A0 H0 H locs) (hA : ∀ q, q < H.size → A1 q → A0 q) (hf : ∀ q, free q → A0 q) (hAX : ∀ q, q < H.size → AX q → A0 q)
    (kx : ∀ (E : String) (ce : Cell) (q9 : Addr) (u : SX) (t : State) (H1 : Heap) (locs1 : List Loc), t.heap = H1 → s.vm.Alike t.vm → px u → BX E u t → H.size ≤ H1.size → (∀ q : Nat, q < H.size → ¬ AX q → H1[q]? = H[q]?) → va_S A0 H0 H1 locs1 → H1[q9]? = some ce → ce.vm = .none → s.vm.findClass E = some ce.cls → vx_W p l e R s m args below meth c H1 locs1 (cells + mc) (slots + ms) Q (F0 m pc ls rest) q9)
    (kk : ∀ (r : UInt32) (u : S) (t : State) (H1 : Heap) (locs1 : List Loc), t.heap = H1 → s.vm.Alike t.vm → post r u → B u t → H.size ≤ H1.size → (∀ q : Nat, q < H.size → ¬ A1 q → H1[q]? = H[q]?) → va_S A0 H0 H1 locs1 → W p l e R s m args below meth c H1 locs1 (cells + mc) (slots + ms) Q (F0 m (pc + 3) ls (.float r :: rest))) : W p l e R s m args below meth c H locs cells slots Q (F0 m pc ls st0) := by
  intro T hT X
  rcases hr T hT X with ⟨v, st₀, t, T', L, h0, X', hL, e1, e2, ⟨⟨r, u, hv, hp, hb⟩, hF⟩, st⟩ | ⟨q, st₀, t, T', L, E, ce, h0, X', hL, e1, e2, ⟨u, hp, hb, hF⟩, hce, hcv, hcl, st⟩
  · cases hv
    obtain ⟨k1, k2, k3⟩ := vx_keep h0 e1 hS hA hf hL hF
    obtain ⟨t2, a1, b1⟩ := kk r u t T'.heap (locs ++ L) e1.symm (by rw [← e2]; exact X'.warmed.alike) hp hb k1 k2 k3 T' rfl X'
    exact ⟨t2, st t2 a1, b1⟩
  · obtain ⟨k1, k2, k3⟩ := vx_keep h0 e1 hS hAX hf hL hF
    obtain ⟨t2, a1, b1⟩ := kx E ce q u t T'.heap (locs ++ L) e1.symm (by rw [← e2]; exact X'.warmed.alike) hp hb k1 k2 k3 (by rw [e1]; exact hce) hcv hcl T' rfl X'
    exact ⟨t2, st.trans a1, b1⟩
theorem vx_calld {S SX : Type} {post : UInt64 → S → Prop} {px : SX → Prop} {B : S → State → Prop} {BX : String → SX → State → Prop} {AX : Nat → Prop} (hr : vx_Run p l e R s m args below meth c H locs cells slots mc ms (F0 m pc ls st0) rest (va_Qd post B A1 a) (vx_X px BX AX) free) (hS : va_S A0 H0 H locs) (hA : ∀ q, q < H.size → A1 q → A0 q) (hf : ∀ q, free q → A0 q) (hAX : ∀ q, q < H.size → AX q → A0 q)
    (kx : ∀ (E : String) (ce : Cell) (q9 : Addr) (u : SX) (t : State) (H1 : Heap) (locs1 : List Loc), t.heap = H1 → s.vm.Alike t.vm → px u → BX E u t → H.size ≤ H1.size → (∀ q : Nat, q < H.size → ¬ AX q → H1[q]? = H[q]?) → va_S A0 H0 H1 locs1 → H1[q9]? = some ce → ce.vm = .none → s.vm.findClass E = some ce.cls → vx_W p l e R s m args below meth c H1 locs1 (cells + mc) (slots + ms) Q (F0 m pc ls rest) q9)
    (kk : ∀ (r : UInt64) (u : S) (t : State) (H1 : Heap) (locs1 : List Loc), t.heap = H1 → s.vm.Alike t.vm → post r u → B u t → H.size ≤ H1.size → (∀ q : Nat, q < H.size → ¬ A1 q → H1[q]? = H[q]?) → va_S A0 H0 H1 locs1 → W p l e R s m args below meth c H1 locs1 (cells + mc) (slots + ms) Q (F0 m (pc + 3) ls (.double r :: rest))) : W p l e R s m args below meth c H locs cells slots Q (F0 m pc ls st0) := by
  intro T hT X
  rcases hr T hT X with ⟨v, st₀, t, T', L, h0, X', hL, e1, e2, ⟨⟨r, u, hv, hp, hb⟩, hF⟩, st⟩ | ⟨q, st₀, t, T', L, E, ce, h0, X', hL, e1, e2, ⟨u, hp, hb, hF⟩, hce, hcv, hcl, st⟩
  · cases hv
    obtain ⟨k1, k2, k3⟩ := vx_keep h0 e1 hS hA hf hL hF
    obtain ⟨t2, a1, b1⟩ := kk r u t T'.heap (locs ++ L) e1.symm (by rw [← e2]; exact X'.warmed.alike) hp hb k1 k2 k3 T' rfl X'
    exact ⟨t2, st t2 a1, b1⟩
  · obtain ⟨k1, k2, k3⟩ := vx_keep h0 e1 hS hAX hf hL hF
    obtain ⟨t2, a1, b1⟩ := kx E ce q u t T'.heap (locs ++ L) e1.symm (by rw [← e2]; exact X'.warmed.alike) hp hb k1 k2 k3 (by rw [e1]; exact hce) hcv hcl T' rfl X'
    exact ⟨t2, st.trans a1, b1⟩
theorem vx_callv {S SX : Type} {post : S → Prop} {px : SX → Prop} {B : S → State → Prop} {BX : String → SX → State → Prop} {AX : Nat → Prop} (hr : vx_Run p l e R s m args below meth c H locs cells slots mc ms (F0 m pc ls st0) rest (va_Qv post B A1 a) (vx_X px BX AX) free) (hS : va_S A0 H0 H locs) (hA : ∀ q, q < H.size → A1 q → A0 q) (hf : ∀ q, free q → A0 q) (hAX : ∀ q, q < H.size → AX q → A0 q)
    (kx : ∀ (E : String) (ce : Cell) (q9 : Addr) (u : SX) (t : State) (H1 : Heap) (locs1 : List Loc), t.heap = H1 → s.vm.Alike t.vm → px u → BX E u t → H.size ≤ H1.size → (∀ q : Nat, q < H.size → ¬ AX q → H1[q]? = H[q]?) → va_S A0 H0 H1 locs1 → H1[q9]? = some ce → ce.vm = .none → s.vm.findClass E = some ce.cls → vx_W p l e R s m args below meth c H1 locs1 (cells + mc) (slots + ms) Q (F0 m pc ls rest) q9)
    (kk : ∀ (u : S) (t : State) (H1 : Heap) (locs1 : List Loc), t.heap = H1 → s.vm.Alike t.vm → post u → B u t → H.size ≤ H1.size → (∀ q : Nat, q < H.size → ¬ A1 q → H1[q]? = H[q]?) → va_S A0 H0 H1 locs1 → W p l e R s m args below meth c H1 locs1 (cells + mc) (slots + ms) Q (F0 m (pc + 3) ls (rest))) : W p l e R s m args below meth c H locs cells slots Q (F0 m pc ls st0) := by
  intro T hT X
  rcases hr T hT X with ⟨v, st₀, t, T', L, h0, X', hL, e1, e2, ⟨⟨u, hv, hp, hb⟩, hF⟩, st⟩ | ⟨q, st₀, t, T', L, E, ce, h0, X', hL, e1, e2, ⟨u, hp, hb, hF⟩, hce, hcv, hcl, st⟩
  · cases hv
    obtain ⟨k1, k2, k3⟩ := vx_keep h0 e1 hS hA hf hL hF
    obtain ⟨t2, a1, b1⟩ := kk u t T'.heap (locs ++ L) e1.symm (by rw [← e2]; exact X'.warmed.alike) hp hb k1 k2 k3 T' rfl X'
    exact ⟨t2, st t2 a1, b1⟩
  · obtain ⟨k1, k2, k3⟩ := vx_keep h0 e1 hS hAX hf hL hF
    obtain ⟨t2, a1, b1⟩ := kx E ce q u t T'.heap (locs ++ L) e1.symm (by rw [← e2]; exact X'.warmed.alike) hp hb k1 k2 k3 (by rw [e1]; exact hce) hcv hcl T' rfl X'
    exact ⟨t2, st.trans a1, b1⟩
/-- caught by the row x of this method's table; the rows ahead don't take it -/
theorem vx_catch {own name : String} {E : String} {ce : Cell} {q : Addr} (hown : s.vm.findClass own = some m.cls) (pre : List ExceptionTableEntry) (x : ExceptionTableEntry) (suf : List ExceptionTableEntry) (hsplit : c.exceptionTable.toList = pre ++ x :: suf)
    (hpass : ∀ z ∈ pre, covers z pc = false ∨ (z.catchType ≠ 0 ∧ ∃ nm : String, (Cond.classLink own z.catchType nm).before args s = true ∧ va_Nc E nm s)) (hx : covers x pc = true) (h0 : x.catchType ≠ 0)
    (hlink : (Cond.classLink own x.catchType name).before args s = true) (hcast : (Cond.castable E name).before args s = true) (hcell : H[q]? = some ce) (hv : ce.vm = .none) (hcl : s.vm.findClass E = some ce.cls)
    (kk : W p l e R s m args below meth c H locs cells slots Q (F0 m x.handlerPc ls [.ref q])) : vx_W p l e R s m args below meth c H locs cells slots Q (F0 m pc ls rest) q := by
  intro T hT X
  have hpl : e.platform.magicAccessors = ({} : Platform).magicAccessors := by rw [X.admits.platform]
  obtain ⟨c3, c4, hc3, hc4, hasg⟩ := Cond.castable_spec hcast
  cases Option.some.inj (hc3.symm.trans hcl)
  obtain ⟨c5, hc5, hcl5⟩ := Cond.classLink_spec hown hlink e.platform hpl
  cases Option.some.inj (hc4.symm.trans hc5)
  obtain ⟨vm', X', st⟩ := X.thenCaughtThrough q (g := F0 m pc ls rest) rfl (Steps.refl _) (by rw [hT]; exact hcell) (by rw [hv]; rfl) (by obtain ⟨k9, h9, -⟩ := Vm.findClass_spec hcl; exact ⟨k9, h9⟩) pre x suf hsplit
    (fun z hz => by
      rcases hpass z hz with h | ⟨hz0, nm, hl1, hn1⟩
      · exact Or.inl h
      · obtain ⟨c6, hc6, hcl6⟩ := Cond.classLink_spec hown hl1 e.platform hpl
        obtain ⟨a8, b8, h1, h2, h3⟩ := hn1
        cases Option.some.inj (h1.symm.trans hcl)
        cases Option.some.inj (h2.symm.trans hc6)
        exact Or.inr ⟨hz0, _, hcl6, h3⟩) hx (Or.inr ⟨h0, c4, hcl5, hasg⟩)
  obtain ⟨t, a1, b1⟩ := kk (T.setVm vm') hT X'
  exact ⟨t, st.trans a1, b1⟩
end Rows
section Ends
variable {p : Program} {l : Launch} {e : Env} {R : Room} {s : State} {m : MethodId} {args : Array Value} {below : List Frame} {meth : Method} {c : Code} {H : Heap} {locs : List Loc} {cells slots : Nat} {Q : State → Prop}
variable {mc ms : Nat} {free : Addr → Prop} {A0 A1 : Nat → Prop} {H0 : Heap} {a : Array Value} {ls : Array Slot} {st0 rest : List Value}
variable {Qc : Array Value → State → Outcome → State → Prop} {XC : String → State → State → Prop}
/-- what a body that may throw owes at its end -/
def vx_MQ (below : List Frame) (Qc : Array Value → State → Outcome → State → Prop) (XC : String → State → State → Prop) (a : Array Value) (s : State) (mc ms : Nat) (free : Addr → Prop) : State → Prop := fun t =>
  ∃ o, t.status = .running ∧ Ended t below o ∧ vx_Q Qc XC mc ms free a s o t
theorem vx_ret {g : JFrame} {mc ms : Nat} (k : W p l e R s m args below meth c H locs cells slots (MQ below Qc args s mc ms free) g) : W p l e R s m args below meth c H locs cells slots (vx_MQ below Qc XC args s mc ms free) g := by
  intro T hT X
  obtain ⟨t, a1, o, b1, b2, b3, b4⟩ := k T hT X
  exact ⟨t, a1, o, b1, b2, Or.inl ⟨b3, b4⟩⟩
/-- not caught here: it goes on to the caller -/
theorem vx_widen {g : JFrame} {q : Addr} {k n : Nat} (h1 : cells ≤ k) (h2 : slots ≤ n) (kk : vx_W p l e R s m args below meth c H locs k n Q g q) : vx_W p l e R s m args below meth c H locs cells slots Q g q := fun T hT X => kk T hT (stand_widen X h1 h2)
theorem vx_out {pc : Nat} {E : String} {ce : Cell} {q : Addr} {mc ms : Nat} (hout : ∀ x ∈ c.exceptionTable.toList, covers x pc = false) (hlocks : meth.locks = false) (hcell : H[q]? = some ce) (hv : ce.vm = .none) (hcl : s.vm.findClass E = some ce.cls)
    (hx : ∀ t : State, t.heap = H → s.vm.Alike t.vm → XC E s t) (hf : ∀ z ∈ locs, free z.base) (hc : cells ≤ mc) (hs : slots ≤ ms) :
    vx_W p l e R s m args below meth c H locs cells slots (vx_MQ below Qc XC args s mc ms free) (F0 m pc ls rest) q := by
  intro T hT X
  obtain ⟨st1, hrun, hend, hW, hsm⟩ := X.leaveThrown q (g := F0 m pc ls rest) rfl rfl rfl hout hlocks
  have hcell9 : (T.setFrames (.throwing q :: below)).heap[q]? = some ce := by
    show T.heap[q]? = some ce
    rw [hT]; exact hcell
  exact ⟨_, st1, .threw q, hrun, hend, Or.inr ⟨q, rfl, E, ce, locs, hx _ hT hW.alike, hcell9, hv, hcl, hW, hsm.mono hc hs, hf⟩⟩
theorem vx_frame {U : State} {k n : Nat} (h : s.sameButNew ({ U with vm := s.vm } : State) locs k n) : s.heap.size ≤ U.heap.size ∧ ∀ q : Nat, q < s.heap.size → (∀ z ∈ locs, z.base ≠ q) → U.heap[q]? = s.heap[q]? := by
  obtain ⟨-, h2, -, -, -, h6⟩ := h
  refine ⟨h2, fun q hq hz => ?_⟩
  obtain ⟨c9, e1, e2, e3, e4⟩ := h6 q _ (Array.getElem?_eq_getElem hq)
  have hs : c9.slots = (s.heap[q]).slots := Array.ext_getElem? fun i => e4 i fun hm => hz _ hm rfl
  have h9 : c9 = s.heap[q] := by
    rw [hs] at e2
    exact e2
  have e5 : U.heap[q]? = some c9 := e1
  rw [e5, h9, Array.getElem?_eq_getElem hq]
/-- the words of a throw but the four that speak of the heap -/
def vx_no (w : Cond) : Bool := decide (w ≠ .isRef (.static Bundle.tN "UNASSIGNED_STACK" Bundle.steD)) && decide (w ≠ .isRef (.static Bundle.tN "SUPPRESSED_SENTINEL" Bundle.listD)) && decide (w ≠ .laysStatic Bundle.tN "UNASSIGNED_STACK" Bundle.steD) && decide (w ≠ .laysStatic Bundle.tN "SUPPRESSED_SENTINEL" Bundle.listD)
def vx_at0 (own : String) (ic : Nat) (X : String) (names : List String) : List Cond := (Bundle.ownAtoms0 own ic X names).filter vx_no
def vx_atS (own : String) (ic : Nat) (X : String) (names : List String) : List Cond := (Bundle.ownAtoms own ic X names).filter vx_no
/-- a word that the tables alone decide, or a good one -/
def vx_ot (w : Cond) : Bool := w.onTables || goodWord w
theorem vx_ot_at {args a' : Array Value} {s U : State} {w : Cond} (hW : s.WarmedH U.vm) (hvm : s.vm = U.vm) (hg : vx_ot w = true) (h : w.before args s = true) : w.before a' U = true := by
  simp only [vx_ot, Bool.or_eq_true] at hg
  rcases hg with hg | hg
  · exact va_tabs hg hvm h
  · exact word_at hW (good_of_word hg) h
/-- a list's words: the good ones out of the method's own list, the others by premises of their own -/
theorem vx_hat {args : Array Value} {s : State} {L B : List Cond} (h1 : ∀ w ∈ L.filter goodWord, w.before args s = true) (h2 : ∀ w ∈ L.filter (fun w => !goodWord w), w ∈ B) (h3 : ∀ w ∈ B, w.before args s = true) : ∀ w ∈ L, w.before args s = true := by
  intro w hw
  by_cases g : goodWord w = true
  · exact h1 w (List.mem_filter.mpr ⟨hw, g⟩)
  · refine h3 w (h2 w (List.mem_filter.mpr ⟨hw, ?_⟩))
    show (!goodWord w) = true
    cases hgw : goodWord w
    · rfl
    · exact absurd hgw g
theorem vx_c {args : Array Value} {s : State} {w : Cond} {B : List Cond} (h : w.before args s = true) (t : ∀ w ∈ B, w.before args s = true) : ∀ w' ∈ w :: B, w'.before args s = true := fun w' h' => (List.mem_cons.mp h').elim (fun e => by rw [e]; exact h) (t w')
theorem vx_n {args : Array Value} {s : State} : ∀ w ∈ ([] : List Cond), w.before args s = true := fun _ h => nomatch h
theorem vx_own {args : Array Value} {s : State} {L : List Cond} (h1 : ∀ w ∈ L.filter vx_no, w.before args s = true)
    (hU : (Cond.isRef (.static Bundle.tN "UNASSIGNED_STACK" Bundle.steD)).before args s = true) (hN : (Cond.isRef (.static Bundle.tN "SUPPRESSED_SENTINEL" Bundle.listD)).before args s = true)
    (lU : (Cond.laysStatic Bundle.tN "UNASSIGNED_STACK" Bundle.steD).before args s = true) (lN : (Cond.laysStatic Bundle.tN "SUPPRESSED_SENTINEL" Bundle.listD).before args s = true) : ∀ w ∈ L, w.before args s = true := by
  intro w hw
  by_cases e1 : w = .isRef (.static Bundle.tN "UNASSIGNED_STACK" Bundle.steD)
  · rw [e1]; exact hU
  · by_cases e2 : w = .isRef (.static Bundle.tN "SUPPRESSED_SENTINEL" Bundle.listD)
    · rw [e2]; exact hN
    · by_cases e3 : w = .laysStatic Bundle.tN "UNASSIGNED_STACK" Bundle.steD
      · rw [e3]; exact lU
      · by_cases e4 : w = .laysStatic Bundle.tN "SUPPRESSED_SENTINEL" Bundle.listD
        · rw [e4]; exact lN
        · exact h1 w (List.mem_filter.mpr ⟨hw, by unfold vx_no; rw [decide_eq_true e1, decide_eq_true e2, decide_eq_true e3, decide_eq_true e4]; rfl⟩)
/-- where a static field lies, its class's statics cell in H -/
def vx_L (C n d : String) (A : Nat → Prop) (U : State) (H : Heap) : Prop := ∃ (c : ClassId) (k : Class) (i : Nat) (f : Field) (a : Nat) (cell : Cell), U.vm.findClass C = some c ∧ U.fieldFound? C n d = some (c, k, i, f) ∧ f.isStatic = true ∧ k.statics = some a ∧ H[a]? = some cell ∧ cell.vm.isStatics = true ∧ cell.cls = c ∧ f.slot < cell.slots.size ∧ k.staticTypes[f.slot]? = some f.type ∧ ¬ A a
theorem vx_L.moved {C n d : String} {A : Nat → Prop} {u U : State} {H : Heap} (hvm : u.vm.Alike U.vm) (h : vx_L C n d A u H) : vx_L C n d A U H := by
  obtain ⟨c, k, i, f, a, cell, h1, h2, h3, h4, h5, h6, h7, h8, h9, h10⟩ := h
  obtain ⟨k', hi', he⟩ := State.fieldFound?_setVm hvm h2
  exact ⟨c, k', i, f, a, cell, by rw [hvm.findClass]; exact h1, hi', h3, by rw [he]; exact h4, h5, h6, h7, h8, by rw [he]; exact h9, h10⟩
theorem vx_L.kept {C n d : String} {A : Nat → Prop} {U : State} {H H1 : Heap} (h : vx_L C n d A U H) (hq : ∀ a : Nat, a < H.size → ¬ A a → H1[a]? = H[a]?) : vx_L C n d A U H1 := by
  obtain ⟨c, k, i, f, a, cell, h1, h2, h3, h4, h5, h6, h7, h8, h9, h10⟩ := h
  exact ⟨c, k, i, f, a, cell, h1, h2, h3, h4, by rw [hq a (Array.getElem?_eq_some_iff.mp h5).1 h10]; exact h5, h6, h7, h8, h9, h10⟩
theorem vx_L.narrow {C n d : String} {A B : Nat → Prop} {U : State} {H : Heap} (h : vx_L C n d A U H) (hAB : ∀ q, B q → A q) : vx_L C n d B U H := by
  obtain ⟨c, k, i, f, a, cell, h1, h2, h3, h4, h5, h6, h7, h8, h9, h10⟩ := h
  exact ⟨c, k, i, f, a, cell, h1, h2, h3, h4, h5, h6, h7, h8, h9, fun z => h10 (hAB _ z)⟩
theorem vx_L.word {C n d : String} {A : Nat → Prop} {s : State} {args : Array Value} (h : vx_L C n d A s s.heap) : (Cond.laysStatic C n d).before args s = true := by
  obtain ⟨c, k, i, f, a, cell, h1, h2, h3, h4, h5, h6, h7, h8, h9, -⟩ := h
  show (Cond.laysStatic C n d).holds args s none s [] = true
  exact Cond.laysStatic_of h1 h2 h3 h4 h5 h6 h7 h8 h9
/-- .. and what it holds: null or some reference -/
def vx_Zq (C n d : String) (A : Nat → Prop) (U : State) (H : Heap) : Prop := va_Zq C n d A U H ∧ vx_L C n d A U H
theorem vx_Zq.moved {C n d : String} {A : Nat → Prop} {u U : State} {H : Heap} (hvm : u.vm.Alike U.vm) (h : vx_Zq C n d A u H) : vx_Zq C n d A U H := ⟨va_Zq.moved hvm h.1, vx_L.moved hvm h.2⟩
theorem vx_Zq.kept {C n d : String} {A : Nat → Prop} {U : State} {H H1 : Heap} (h : vx_Zq C n d A U H) (hq : ∀ a : Nat, a < H.size → ¬ A a → H1[a]? = H[a]?) : vx_Zq C n d A U H1 := ⟨va_Zq.kept h.1 hq, vx_L.kept h.2 hq⟩
theorem vx_Zq.narrow {C n d : String} {A B : Nat → Prop} {U : State} {H : Heap} (h : vx_Zq C n d A U H) (hAB : ∀ q, B q → A q) : vx_Zq C n d B U H := ⟨va_Zq.narrow h.1 hAB, vx_L.narrow h.2 hAB⟩
theorem vx_Zqof {args : Array Value} {s : State} {C n d : String} {A : Nat → Prop} (hl : (Cond.laysStatic C n d).before args s = true) (hini : (Cond.initialized C).before args s = true) (h : (Cond.isRef (.static C n d)).before args s = true) (hA : ∀ a : Nat, a < s.heap.size → ¬ A a) : vx_Zq C n d A s s.heap := by
  refine ⟨va_Zqof hl hini h hA, ?_⟩
  obtain ⟨c, k, i, f, a, cell, h1, h2, h3, h4, h5, h6, h7, h8, h9⟩ := Cond.laysStatic_spec hl
  exact ⟨c, k, i, f, a, cell, h1, h2, h3, h4, h5, h6, h7, h8, h9, hA a (Array.getElem?_eq_some_iff.mp h5).1⟩
theorem vx_isRef {C n d : String} {v : Value} {A : Nat → Prop} {s : State} {args : Array Value} (h : va_Z C n d v A s s.heap) (hv : v.isRef = true) : (Cond.isRef (.static C n d)).before args s = true := by
  obtain ⟨cf, kf, fi, f, a, cell, h1, h2, h3, h4, h5, h6, h7, -⟩ := h
  have he : (Term.static C n d).eval args s none [] s = some v := by
    simp [Term.eval, State.fieldNamed?, h1, h2, h4, h5, h6, h7]
  simp only [Cond.before, Cond.holds, Cond.value, he]
  cases v <;> simp_all [Value.isRef]
theorem vx_isRefq {C n d : String} {A : Nat → Prop} {s : State} {args : Array Value} (h : va_Zq C n d A s s.heap) : (Cond.isRef (.static C n d)).before args s = true := by
  rcases h with h | ⟨t, h⟩
  · exact vx_isRef h rfl
  · exact vx_isRef h rfl
/-- the same frame, seen from here: as if the method were called anew in this heap -/
theorem vx_rebase {T : State} (X : Stand p l e R s m args below meth c T locs cells slots) {R' : Room} (hf : R'.frames ≤ R.frames) (hl : R'.locals ≤ R.locals) (hc : cells + R'.cells ≤ R.cells) (hs : slots + R'.slots ≤ R.slots) :
    Stand p l e R' ((T.setVm s.vm).setFrames (.invoking m args :: below)) m args below meth c T [] 0 0 := by
  have htop : (T.setVm s.vm).topJava?.isSome := X.here.top
  have hF : ((T.setVm s.vm).setFrames (.invoking m args :: below)).frames = .invoking m args :: below := State.frames_setFrames _ (State.cur_lt_of_top htop)
  obtain ⟨g₀, hg0⟩ := Option.isSome_iff_exists.mp htop
  obtain ⟨r, hr⟩ := State.topJava?_eq_some.mp hg0
  have hl9 : e.platform.stackLimits (T.setVm s.vm).me = e.platform.stackLimits s.me := X.limits
  have hb9 : (T.setVm s.vm).me.stackBytes = s.me.stackBytes := X.bytes
  refine ⟨X.admits, X.cas, X.clock, hF, ?_, X.hears, X.method, X.code, X.here, X.tail, X.warmed, ?_, ?_, ?_⟩
  · have h := X.room
    have hU : ((T.setVm s.vm).setFrames (.invoking m args :: below)).localsInUse = s.localsInUse := by
      rw [State.localsInUse_invoking hF (meth := meth) (c := c) X.method X.code, State.localsInUse_invoking X.frames X.method X.code]
    simp only [State.hasRoom, Bool.and_eq_true, decide_eq_true_eq] at h ⊢
    obtain ⟨⟨⟨⟨h1, h2, h3, h4, h5, h6⟩, h7⟩, h8⟩, h9⟩ := h
    rw [X.frames, List.length_cons] at h2 h3
    have q1 := X.heapSize
    have q2 := X.used
    simp only [hF, hU, List.length_cons, State.stackLimits_setFrames, State.stackBytes_setFrames, hl9, hb9]
    refine ⟨⟨⟨⟨by omega, by omega, by omega, by omega, by omega, h6⟩, ?_⟩, ?_⟩, X.book⟩
    · show T.heap.size + R'.cells ≤ e.platform.maxCells
      omega
    · show T.slotsUsed + R'.slots ≤ e.platform.maxSlots
      omega
  · rw [State.stackLimits_setFrames]; rfl
  · rw [State.stackBytes_setFrames]; rfl
  · refine ⟨?_, Nat.le_refl _, Nat.le_refl _, ?_, ?_, fun a c9 h9 => ⟨c9, h9, rfl, rfl, fun _ _ => rfl⟩⟩
    · obtain ⟨t, ht, -⟩ := State.frames_cons hr
      show T.setVm s.vm = { ((T.setVm s.vm).setFrames (.invoking m args :: below)).setFrames (T.setVm s.vm).frames with heap := T.heap, slotsUsed := T.slotsUsed }
      rw [State.setFrames_setFrames, State.setFrames_self ht]
      rfl
    · show T.slotsUsed = T.slotsUsed + ((T.heap.toList.drop T.heap.size).map (·.slots.size)).sum
      rw [List.drop_eq_nil_of_le (Nat.le_of_eq Array.length_toList)]
      rfl
    · show ((T.heap.toList.drop T.heap.size).map (·.slots.size)).sum ≤ 0
      rw [List.drop_eq_nil_of_le (Nat.le_of_eq Array.length_toList)]
      exact Nat.le_refl _
/-- 'throw new E()': new; dup; invokespecial; athrow -/
theorem vx_throw0 {cc : ByteArray} {pc : Nat} (hexec : p.tables.exec = Jvm.exec) (hb : c.code = cc) (hl : l.stackTraces = false) {own cls : String} {names : List String} {ik ic mc ms : Nat} {A : Nat → Prop}
    (hown : s.vm.findClass own = some m.cls) (hcls : Bundle.fit cls = true) (hnames : ∀ n ∈ names, Bundle.fit n = true)
    (hk : (Cond.classLink own ik cls).before args s = true) (hini : (Cond.initialized cls).before args s = true) (hat : ∀ w ∈ vx_at0 own ic cls names, w.before args s = true)
    (hgood : ∀ w ∈ Cond.classLink own ik cls :: Cond.initialized cls :: vx_at0 own ic cls names, vx_ot w = true)
    (hU : vx_Zq Bundle.tN "UNASSIGNED_STACK" Bundle.steD A s s.heap) (hN : vx_Zq Bundle.tN "SUPPRESSED_SENTINEL" Bundle.listD A s s.heap) (hS : va_S A s.heap H locs) (hsize : ls.size = c.maxLocals)
    (d0 : decode cc pc = .ok (.new ik, 3)) (d3 : decode cc (pc + 3) = .ok (.dup, 1)) (d4 : decode cc (pc + 4) = .ok (.invokespecial ic, 3)) (d7 : decode cc (pc + 7) = .ok (.athrow, 1))
    (hout : ∀ x ∈ c.exceptionTable.toList, covers x (pc + 7) = false)
    (hRframes : names.length + 3 < R.frames) (hRlocals : (rest.map fun v => v.category).sum + (13 * (names.length + 1) + 42) ≤ R.locals) (hRcells : cells + 1 ≤ R.cells) (hRslots : slots + 6 ≤ R.slots) (hlocks : meth.locks = false)
    (hx : ∀ t : State, s.vm.Alike t.vm → H.size ≤ t.heap.size → (∀ q : Nat, q < H.size → t.heap[q]? = H[q]?) → XC cls s t)
    (hf : ∀ z ∈ locs, free z.base) (hc : cells + 1 ≤ mc) (hs : slots + 6 ≤ ms) :
    W p l e R s m args below meth c H locs cells slots (vx_MQ below Qc XC args s mc ms free) (F0 m pc ls rest) := by
  intro T hT X
  have htr : e.platform.stackTraces = false := (show e.platform.stackTraces = l.stackTraces by rw [X.admits.platform]).trans hl
  have Y := vx_rebase X (R' := { frames := R.frames, locals := R.locals, cells := 1, slots := 6 }) (Nat.le_refl _) (Nat.le_refl _) hRcells hRslots
  obtain ⟨s', hA⟩ : ∃ z, z = (T.setVm s.vm).setFrames (.invoking m args :: below) := ⟨_, rfl⟩
  rw [← hA] at Y
  have hvm : s'.vm = s.vm := by rw [hA]; rfl
  have hhp : s'.heap = H := by rw [hA]; exact hT
  have hW0 : s.WarmedH s'.vm := by rw [hvm]; exact State.WarmedH.refl s
  have hat' : ∀ w ∈ vx_at0 own ic cls names, w.before args s' = true := fun w hw => vx_ot_at hW0 hvm.symm (hgood w (List.mem_cons_of_mem _ (List.mem_cons_of_mem _ hw))) (hat w hw)
  have hk' : (Cond.classLink own ik cls).before args s' = true := vx_ot_at hW0 hvm.symm (hgood _ List.mem_cons_self) hk
  have hini' : (Cond.initialized cls).before args s' = true := vx_ot_at hW0 hvm.symm (hgood _ (List.mem_cons_of_mem _ List.mem_cons_self)) hini
  have hU' : vx_Zq Bundle.tN "UNASSIGNED_STACK" Bundle.steD A s' s'.heap := by rw [hhp]; exact vx_Zq.moved hW0.alike (hU.kept hS.2.1)
  have hN' : vx_Zq Bundle.tN "SUPPRESSED_SENTINEL" Bundle.listD A s' s'.heap := by rw [hhp]; exact vx_Zq.moved hW0.alike (hN.kept hS.2.1)
  have h : ∀ w ∈ Bundle.ownAtoms0 own ic cls names, w.before args s' = true := vx_own hat' (vx_isRefq hU'.1) (vx_isRefq hN'.1) hU'.2.word hN'.2.word
  have hown' : s'.vm.findClass own = some m.cls := by rw [hvm]; exact hown
  have hins : (Cond.instantiable cls 6).before args s' = true := h _ (by simp [Bundle.ownAtoms0])
  obtain ⟨vm₁, cX, kX, hfX, hkX, -, -, X₁, st1⟩ := Y.newCold hexec (own := own) (C := cls) (index := ik) (n := 6) hown' hk' hins hini'
    (g := F0 m pc ls rest) rfl (by rw [hb]; exact d0) (Nat.le_refl _) (Nat.le_refl _)
  generalize hT1 : (T.setVm vm₁).pushCell { cls := cX, slots := kX.instanceTypes.map defaultValue, vm := .none } = T1 at X₁ st1
  have hcat : (Value.ref T.heap.size).category = 1 := rfl
  have hcellA : T1.heap[T.heap.size]? = some (freshCell cX kX) := by rw [← hT1]; exact State.heap_pushCell_size _ _
  have d3' : decode c.code (pc + 3) = .ok (.dup, 1) := by rw [hb]; exact d3
  obtain ⟨U, hsteps, hrun, hend, hW, hsame, ce, hce, hO⟩ := X₁.ctorThrow0 hexec htr (own := own) (cls := cls) (names := names) (ic := ic) hown' hcls hnames h (fun x hx => nomatch hx) hfX hkX hcellA (by rw [hhp, hT]; exact Nat.le_refl _)
    (g := { method := m, pc := pc + 4, locals := ls, stack := .ref T.heap.size :: .ref T.heap.size :: rest, locked := none }) rfl hsize rfl rfl (rest := rest) rfl
    (by rw [hb]; exact d4) (by rw [hb]; exact d7) hout hRframes (by simp only [List.map_cons, List.sum_cons, hcat]; omega) hlocks
  obtain ⟨f1, f2⟩ := vx_frame hsame
  rw [hhp] at f1 f2
  have hWs : s.WarmedH U.vm := State.WarmedH.trans hW0 hW
  have hcl : s.vm.findClass cls = some ce.cls := by
    have h9 := hO.cls
    rw [hvm] at h9
    exact h9
  have hall : s.sameButNew ({ U with vm := s.vm } : State) locs mc ms := by
    subst hA
    obtain ⟨e1, e2⟩ := hsame
    rw [State.setFrames_setFrames] at e1
    have h2 : (T.setVm s.vm).sameButNew ({ U with vm := s.vm } : State) [] (0 + 1) (0 + 6) := ⟨e1, e2⟩
    have h3 := X.same.trans h2
    rw [List.append_nil] at h3
    exact h3.mono hc hs
  refine ⟨U, ?_, .threw T.heap.size, hrun, hend, Or.inr ⟨T.heap.size, rfl, cls, ce, locs, hx U hWs.alike f1 (fun q hq => f2 q hq (fun z hz => nomatch hz)), hce, hO.vm, hcl, hWs, hall, hf⟩⟩
  refine st1 _ ?_
  show Steps p.tables e below (T1.setTop { method := m, pc := pc + 3, locals := ls, stack := .ref T.heap.size :: rest, locked := none }) _
  jvm_step X₁.here [X₁.here.top, hexec, d3', Value.category]
  exact hsteps
/-- 'throw new E("text")': new; dup; ldc; invokespecial; athrow -/
theorem vx_throwS {cc : ByteArray} {pc : Nat} (hexec : p.tables.exec = Jvm.exec) (hb : c.code = cc) (hl : l.stackTraces = false) {own cls text : String} {names : List String} {ik is ic mc ms sa : Nat} {A : Nat → Prop}
    (hown : s.vm.findClass own = some m.cls) (hcls : Bundle.fit cls = true) (hnames : ∀ n ∈ names, Bundle.fit n = true)
    (hk : (Cond.classLink own ik cls).before args s = true) (hini : (Cond.initialized cls).before args s = true) (hstr : vk_R own is text sa s) (hat : ∀ w ∈ vx_atS own ic cls names, w.before args s = true)
    (hgood : ∀ w ∈ Cond.classLink own ik cls :: Cond.initialized cls :: vx_atS own ic cls names, vx_ot w = true)
    (hU : vx_Zq Bundle.tN "UNASSIGNED_STACK" Bundle.steD A s s.heap) (hN : vx_Zq Bundle.tN "SUPPRESSED_SENTINEL" Bundle.listD A s s.heap) (hS : va_S A s.heap H locs) (hsize : ls.size = c.maxLocals)
    (d0 : decode cc pc = .ok (.new ik, 3)) (d3 : decode cc (pc + 3) = .ok (.dup, 1)) (d4 : decode cc (pc + 4) = .ok (.ldc is, 2)) (d6 : decode cc (pc + 6) = .ok (.invokespecial ic, 3)) (d9 : decode cc (pc + 9) = .ok (.athrow, 1))
    (hout : ∀ x ∈ c.exceptionTable.toList, covers x (pc + 9) = false)
    (hRframes : names.length + 3 < R.frames) (hRlocals : (rest.map fun v => v.category).sum + (13 * (names.length + 1) + 43) ≤ R.locals) (hRcells : cells + 1 ≤ R.cells) (hRslots : slots + 6 ≤ R.slots) (hlocks : meth.locks = false)
    (hx : ∀ t : State, s.vm.Alike t.vm → H.size ≤ t.heap.size → (∀ q : Nat, q < H.size → t.heap[q]? = H[q]?) → XC cls s t)
    (hf : ∀ z ∈ locs, free z.base) (hc : cells + 1 ≤ mc) (hs : slots + 6 ≤ ms) :
    W p l e R s m args below meth c H locs cells slots (vx_MQ below Qc XC args s mc ms free) (F0 m pc ls rest) := by
  intro T hT X
  have htr : e.platform.stackTraces = false := (show e.platform.stackTraces = l.stackTraces by rw [X.admits.platform]).trans hl
  have Y := vx_rebase X (R' := { frames := R.frames, locals := R.locals, cells := 1, slots := 6 }) (Nat.le_refl _) (Nat.le_refl _) hRcells hRslots
  obtain ⟨s', hA⟩ : ∃ z, z = (T.setVm s.vm).setFrames (.invoking m args :: below) := ⟨_, rfl⟩
  rw [← hA] at Y
  have hvm : s'.vm = s.vm := by rw [hA]; rfl
  have hhp : s'.heap = H := by rw [hA]; exact hT
  have hW0 : s.WarmedH s'.vm := by rw [hvm]; exact State.WarmedH.refl s
  have hat' : ∀ w ∈ vx_atS own ic cls names, w.before args s' = true := fun w hw => vx_ot_at hW0 hvm.symm (hgood w (List.mem_cons_of_mem _ (List.mem_cons_of_mem _ hw))) (hat w hw)
  have hk' : (Cond.classLink own ik cls).before args s' = true := vx_ot_at hW0 hvm.symm (hgood _ List.mem_cons_self) hk
  have hini' : (Cond.initialized cls).before args s' = true := vx_ot_at hW0 hvm.symm (hgood _ (List.mem_cons_of_mem _ List.mem_cons_self)) hini
  have hU' : vx_Zq Bundle.tN "UNASSIGNED_STACK" Bundle.steD A s' s'.heap := by rw [hhp]; exact vx_Zq.moved hW0.alike (hU.kept hS.2.1)
  have hN' : vx_Zq Bundle.tN "SUPPRESSED_SENTINEL" Bundle.listD A s' s'.heap := by rw [hhp]; exact vx_Zq.moved hW0.alike (hN.kept hS.2.1)
  have h : ∀ w ∈ Bundle.ownAtoms own ic cls names, w.before args s' = true := vx_own hat' (vx_isRefq hU'.1) (vx_isRefq hN'.1) hU'.2.word hN'.2.word
  have hown' : s'.vm.findClass own = some m.cls := by rw [hvm]; exact hown
  have hins : (Cond.instantiable cls 6).before args s' = true := h _ (by simp [Bundle.ownAtoms])
  obtain ⟨vm₁, cX, kX, hfX, hkX, -, -, X₁, st1⟩ := Y.newCold hexec (own := own) (C := cls) (index := ik) (n := 6) hown' hk' hins hini'
    (g := F0 m pc ls rest) rfl (by rw [hb]; exact d0) (Nat.le_refl _) (Nat.le_refl _)
  generalize hT1 : (T.setVm vm₁).pushCell { cls := cX, slots := kX.instanceTypes.map defaultValue, vm := .none } = T1 at X₁ st1
  have hcat : (Value.ref T.heap.size).category = 1 := rfl
  have hcellA : T1.heap[T.heap.size]? = some (freshCell cX kX) := by rw [← hT1]; exact State.heap_pushCell_size _ _
  have d3' : decode c.code (pc + 3) = .ok (.dup, 1) := by rw [hb]; exact d3
  have d4' : decode c.code (pc + 4) = .ok (.ldc is, 2) := by rw [hb]; exact d4
  have hstr' : vk_R own is text sa s' := vk_R.warm hW0 hstr
  obtain ⟨U, hsteps, hrun, hend, hW, hsame, ce, hce, hO⟩ := X₁.ctorThrowS hexec htr (own := own) (cls := cls) (names := names) (ic := ic) hown' hcls hnames h (fun x hx => nomatch hx) hfX hkX hcellA (by rw [hhp, hT]; exact Nat.le_refl _) (msg := .ref sa) rfl
    (g := { method := m, pc := pc + 6, locals := ls, stack := .ref sa :: .ref T.heap.size :: .ref T.heap.size :: rest, locked := none }) rfl hsize rfl rfl (rest := rest) rfl
    (by rw [hb]; exact d6) (by rw [hb]; exact d9) hout hRframes (by simp only [List.map_cons, List.sum_cons, hcat]; omega) hlocks
  obtain ⟨f1, f2⟩ := vx_frame hsame
  rw [hhp] at f1 f2
  have hWs : s.WarmedH U.vm := State.WarmedH.trans hW0 hW
  have hcl : s.vm.findClass cls = some ce.cls := by
    have h9 := hO.cls
    rw [hvm] at h9
    exact h9
  have hall : s.sameButNew ({ U with vm := s.vm } : State) locs mc ms := by
    subst hA
    obtain ⟨e1, e2⟩ := hsame
    rw [State.setFrames_setFrames] at e1
    have h2 : (T.setVm s.vm).sameButNew ({ U with vm := s.vm } : State) [] (0 + 1) (0 + 6) := ⟨e1, e2⟩
    have h3 := X.same.trans h2
    rw [List.append_nil] at h3
    exact h3.mono hc hs
  refine ⟨U, ?_, .threw T.heap.size, hrun, hend, Or.inr ⟨T.heap.size, rfl, cls, ce, locs, hx U hWs.alike f1 (fun q hq => f2 q hq (fun z hz => nomatch hz)), hce, hO.vm, hcl, hWs, hall, hf⟩⟩
  refine st1 _ ?_
  show Steps p.tables e below (T1.setTop { method := m, pc := pc + 3, locals := ls, stack := .ref T.heap.size :: rest, locked := none }) _
  jvm_step X₁.here [X₁.here.top, hexec, d3', Value.category]
  exact X₁.ldcString hexec (own := own) (text := text) (index := is) (a := sa) hown' hstr'.1 hstr'.2
    (g := { method := m, pc := pc + 4, locals := ls, stack := .ref T.heap.size :: .ref T.heap.size :: rest, locked := none }) rfl d4' _ hsteps
/-- 'throw new E("text")', the text by a wide index -/
theorem vx_throwSW {cc : ByteArray} {pc : Nat} (hexec : p.tables.exec = Jvm.exec) (hb : c.code = cc) (hl : l.stackTraces = false) {own cls text : String} {names : List String} {ik is ic mc ms sa : Nat} {A : Nat → Prop}
    (hown : s.vm.findClass own = some m.cls) (hcls : Bundle.fit cls = true) (hnames : ∀ n ∈ names, Bundle.fit n = true)
    (hk : (Cond.classLink own ik cls).before args s = true) (hini : (Cond.initialized cls).before args s = true) (hstr : vk_R own is text sa s) (hat : ∀ w ∈ vx_atS own ic cls names, w.before args s = true)
    (hgood : ∀ w ∈ Cond.classLink own ik cls :: Cond.initialized cls :: vx_atS own ic cls names, vx_ot w = true)
    (hU : vx_Zq Bundle.tN "UNASSIGNED_STACK" Bundle.steD A s s.heap) (hN : vx_Zq Bundle.tN "SUPPRESSED_SENTINEL" Bundle.listD A s s.heap) (hS : va_S A s.heap H locs) (hsize : ls.size = c.maxLocals)
    (d0 : decode cc pc = .ok (.new ik, 3)) (d3 : decode cc (pc + 3) = .ok (.dup, 1)) (d4 : decode cc (pc + 4) = .ok (.ldc_w is, 3)) (d7 : decode cc (pc + 7) = .ok (.invokespecial ic, 3)) (d10 : decode cc (pc + 10) = .ok (.athrow, 1))
    (hout : ∀ x ∈ c.exceptionTable.toList, covers x (pc + 10) = false)
    (hRframes : names.length + 3 < R.frames) (hRlocals : (rest.map fun v => v.category).sum + (13 * (names.length + 1) + 43) ≤ R.locals) (hRcells : cells + 1 ≤ R.cells) (hRslots : slots + 6 ≤ R.slots) (hlocks : meth.locks = false)
    (hx : ∀ t : State, s.vm.Alike t.vm → H.size ≤ t.heap.size → (∀ q : Nat, q < H.size → t.heap[q]? = H[q]?) → XC cls s t)
    (hf : ∀ z ∈ locs, free z.base) (hc : cells + 1 ≤ mc) (hs : slots + 6 ≤ ms) :
    W p l e R s m args below meth c H locs cells slots (vx_MQ below Qc XC args s mc ms free) (F0 m pc ls rest) := by
  intro T hT X
  have htr : e.platform.stackTraces = false := (show e.platform.stackTraces = l.stackTraces by rw [X.admits.platform]).trans hl
  have Y := vx_rebase X (R' := { frames := R.frames, locals := R.locals, cells := 1, slots := 6 }) (Nat.le_refl _) (Nat.le_refl _) hRcells hRslots
  obtain ⟨s', hA⟩ : ∃ z, z = (T.setVm s.vm).setFrames (.invoking m args :: below) := ⟨_, rfl⟩
  rw [← hA] at Y
  have hvm : s'.vm = s.vm := by rw [hA]; rfl
  have hhp : s'.heap = H := by rw [hA]; exact hT
  have hW0 : s.WarmedH s'.vm := by rw [hvm]; exact State.WarmedH.refl s
  have hat' : ∀ w ∈ vx_atS own ic cls names, w.before args s' = true := fun w hw => vx_ot_at hW0 hvm.symm (hgood w (List.mem_cons_of_mem _ (List.mem_cons_of_mem _ hw))) (hat w hw)
  have hk' : (Cond.classLink own ik cls).before args s' = true := vx_ot_at hW0 hvm.symm (hgood _ List.mem_cons_self) hk
  have hini' : (Cond.initialized cls).before args s' = true := vx_ot_at hW0 hvm.symm (hgood _ (List.mem_cons_of_mem _ List.mem_cons_self)) hini
  have hU' : vx_Zq Bundle.tN "UNASSIGNED_STACK" Bundle.steD A s' s'.heap := by rw [hhp]; exact vx_Zq.moved hW0.alike (hU.kept hS.2.1)
  have hN' : vx_Zq Bundle.tN "SUPPRESSED_SENTINEL" Bundle.listD A s' s'.heap := by rw [hhp]; exact vx_Zq.moved hW0.alike (hN.kept hS.2.1)
  have h : ∀ w ∈ Bundle.ownAtoms own ic cls names, w.before args s' = true := vx_own hat' (vx_isRefq hU'.1) (vx_isRefq hN'.1) hU'.2.word hN'.2.word
  have hown' : s'.vm.findClass own = some m.cls := by rw [hvm]; exact hown
  have hins : (Cond.instantiable cls 6).before args s' = true := h _ (by simp [Bundle.ownAtoms])
  obtain ⟨vm₁, cX, kX, hfX, hkX, -, -, X₁, st1⟩ := Y.newCold hexec (own := own) (C := cls) (index := ik) (n := 6) hown' hk' hins hini'
    (g := F0 m pc ls rest) rfl (by rw [hb]; exact d0) (Nat.le_refl _) (Nat.le_refl _)
  generalize hT1 : (T.setVm vm₁).pushCell { cls := cX, slots := kX.instanceTypes.map defaultValue, vm := .none } = T1 at X₁ st1
  have hcat : (Value.ref T.heap.size).category = 1 := rfl
  have hcellA : T1.heap[T.heap.size]? = some (freshCell cX kX) := by rw [← hT1]; exact State.heap_pushCell_size _ _
  have d3' : decode c.code (pc + 3) = .ok (.dup, 1) := by rw [hb]; exact d3
  have d4' : decode c.code (pc + 4) = .ok (.ldc_w is, 3) := by rw [hb]; exact d4
  have hstr' : vk_R own is text sa s' := vk_R.warm hW0 hstr
  obtain ⟨U, hsteps, hrun, hend, hW, hsame, ce, hce, hO⟩ := X₁.ctorThrowS hexec htr (own := own) (cls := cls) (names := names) (ic := ic) hown' hcls hnames h (fun x hx => nomatch hx) hfX hkX hcellA (by rw [hhp, hT]; exact Nat.le_refl _) (msg := .ref sa) rfl
    (g := { method := m, pc := pc + 7, locals := ls, stack := .ref sa :: .ref T.heap.size :: .ref T.heap.size :: rest, locked := none }) rfl hsize rfl rfl (rest := rest) rfl
    (by rw [hb]; exact d7) (by rw [hb]; exact d10) hout hRframes (by simp only [List.map_cons, List.sum_cons, hcat]; omega) hlocks
  obtain ⟨f1, f2⟩ := vx_frame hsame
  rw [hhp] at f1 f2
  have hWs : s.WarmedH U.vm := State.WarmedH.trans hW0 hW
  have hcl : s.vm.findClass cls = some ce.cls := by
    have h9 := hO.cls
    rw [hvm] at h9
    exact h9
  have hall : s.sameButNew ({ U with vm := s.vm } : State) locs mc ms := by
    subst hA
    obtain ⟨e1, e2⟩ := hsame
    rw [State.setFrames_setFrames] at e1
    have h2 : (T.setVm s.vm).sameButNew ({ U with vm := s.vm } : State) [] (0 + 1) (0 + 6) := ⟨e1, e2⟩
    have h3 := X.same.trans h2
    rw [List.append_nil] at h3
    exact h3.mono hc hs
  refine ⟨U, ?_, .threw T.heap.size, hrun, hend, Or.inr ⟨T.heap.size, rfl, cls, ce, locs, hx U hWs.alike f1 (fun q hq => f2 q hq (fun z hz => nomatch hz)), hce, hO.vm, hcl, hWs, hall, hf⟩⟩
  refine st1 _ ?_
  show Steps p.tables e below (T1.setTop { method := m, pc := pc + 3, locals := ls, stack := .ref T.heap.size :: rest, locked := none }) _
  jvm_step X₁.here [X₁.here.top, hexec, d3', Value.category]
  exact X₁.ldcStringW hexec (own := own) (text := text) (index := is) (a := sa) hown' hstr'.1 hstr'.2
    (g := { method := m, pc := pc + 4, locals := ls, stack := .ref T.heap.size :: .ref T.heap.size :: rest, locked := none }) rfl d4' _ hsteps
end Ends
section Bodies
variable {l : Launch}
theorem vx_ofW {y : MethodName} {ws ws' : List Cond} {rm : Room} {Pc : Array Value → State → Prop} {Qc : Array Value → State → Outcome → State → Prop} {XC : String → State → State → Prop} {mc ms : Nat} {free : Addr → Prop} {cc : ByteArray} {maxL : Nat} {ret : Option FieldType}
    (hy : plainName y.cls = true) (hw : ws = Cond.code y cc maxL ret :: ws')
    (body : ∀ p e s m args below meth c s₁, BodyLoose p l y (headSpec ws rm) cc maxL ret e s m args below meth c s₁ → c.maxLocals = maxL → (∀ x ∈ c.exceptionTable.toList, False) → Pc args s →
      W p l e (headSpec ws rm).room s m args below meth c s.heap [] 0 0 (vx_MQ below Qc XC args s mc ms free) (entryFrame m args maxL)) : vx_Met l y ws rm Pc Qc XC mc ms free := by
  refine MetFree.of_bodyS (code := cc) (maxLocals := maxL) (ret := ret) hy ?_ ?_
  · intro args s m h hn
    obtain ⟨meth, c, h1, h2, h3, h4, h5, h6, -, -⟩ := Cond.code_spec hn (atoms_spec (ws := ws) h _ (by rw [hw]; exact List.mem_cons_self))
    exact ⟨meth, c, h1, h2, h3, h4, h5, h6⟩
  · intro p e s m args below meth c s₁ B hml hP _
    have hh0 : s₁.heap = s.heap := by rw [B.state]; rfl
    have ht : ∀ x ∈ c.exceptionTable.toList, False := by
      obtain ⟨meth9, c9, h1, h2, -, -, -, -, h7, -⟩ := Cond.code_spec B.named (atoms_spec (ws := ws) B.pre _ (by rw [hw]; exact List.mem_cons_self))
      cases Option.some.inj (h1.symm.trans B.method)
      cases Option.some.inj (h2.symm.trans (Stand.of_body B).code)
      intro x hx
      rw [Array.isEmpty_iff.mp h7] at hx
      cases hx
    obtain ⟨t, a1, o, b1, b2, b3⟩ := body p e s m args below meth c s₁ B hml ht hP s₁ hh0 (Stand.of_body B)
    exact ⟨t, o, a1, b1, b2, b3⟩
/-- the table of a body with handlers -/
theorem vx_table {p : Program} {x y : MethodName} {S : Spec} {cc bytes : ByteArray} {maxL maxL' : Nat} {ret ret' : Option FieldType} {e : Env} {s s₁ : State} {m : MethodId} {args : Array Value} {below : List Frame} {meth : Method} {c : Code} {hh : List (Nat × Nat × Nat × Nat)}
    (B : BodyLoose p l y S cc maxL ret e s m args below meth c s₁) (h : (Cond.codeWith y bytes maxL' ret' hh).before args s = true) : c.exceptionTable.toList = tableOf hh := by
  obtain ⟨m9, meth9, c9, hn9, h1, h2, -, -, h6, -⟩ := Cond.codeWith_spec h
  cases Option.some.inj (hn9.symm.trans B.named)
  cases Option.some.inj (h1.symm.trans B.method)
  cases Option.some.inj (h2.symm.trans (Stand.of_body B).code)
  rw [← h6, table_eq]
end Bodies
end VXA
section VXS
variable {p : Program} {l : Launch} {e : Env} {R : Room} {s : State} {m : MethodId} {args : Array Value} {below : List Frame} {meth : Method} {c : Code} {T : State} {H : Heap} {locs : List Loc} {cells slots : Nat}
abbrev vx_CSW (R : Room) (s : State) (args : Array Value) (own : String) (index : Nat) (y : MethodName) (bytes : ByteArray) (maxL : Nat) (ret : Option FieldType) (hh : List (Nat × Nat × Nat × Nat)) (ws : List Cond) (rm : Room) (mc ms n : Nat) : Prop :=
  (rm.cells = mc ∧ rm.slots = ms ∧ rm.frames + 1 ≤ R.frames ∧ 8 + (maxL + 11) + rm.locals ≤ R.locals ∧ (∀ w ∈ ws, ∀ (a' : Array Value) (U : State), s.WarmedH U.vm → w.before a' U = true) ∧ Cond.codeWith y bytes maxL ret hh ∈ ws) ∧
  (Cond.codeWith y bytes maxL ret hh).before args s = true ∧ (Cond.initialized y.cls).before args s = true ∧ (y.cls ≠ "java/lang/invoke/MethodHandle" ∧ y.cls ≠ "java/lang/invoke/VarHandle") ∧
  (∀ sig, parseMethodDescriptor y.desc = some sig → n = sig.parameters.length) ∧ (Cond.methodLink own index y).before args s = true ∧ (Cond.static y).before args s = true
theorem vx_cwSW {own : String} {index maxL mc ms : Nat} {y : MethodName} {bytes : ByteArray} {ret : Option FieldType} {hh : List (Nat × Nat × Nat × Nat)} {Ts ws ws' : List Cond} {rm : Room} (n : Nat) (ht : ∀ w ∈ Ts, w.before args s = true) (hT : GoodIn Ts (va_wsS own index y ws)) (hw : ws = Cond.codeWith y bytes maxL ret hh :: ws') (hrc : rm.cells = mc) (hrs : rm.slots = ms)
    (hd : y.cls ≠ "java/lang/invoke/MethodHandle" ∧ y.cls ≠ "java/lang/invoke/VarHandle" ∧ (parseMethodDescriptor y.desc).map (fun d => d.parameters.length) = some n) (hR : rm.frames + 1 ≤ R.frames ∧ 8 + (maxL + 11) + rm.locals ≤ R.locals) :
    vx_CSW R s args own index y bytes maxL ret hh ws rm mc ms n := by
  have ok : ∀ w ∈ va_wsS own index y ws, w.before args s = true := fun w h => ht w (hT w h).1
  have hG : GoodIn Ts ws := fun w h => hT w (by unfold va_wsS; exact List.mem_append_right _ h)
  have hc : Cond.codeWith y bytes maxL ret hh ∈ ws := by rw [hw]; exact List.mem_cons_self
  refine ⟨⟨hrc, hrs, hR.1, hR.2, pay_in ht hG, hc⟩, ht _ (hG _ hc).1, ok _ (by simp [va_wsS]), ⟨hd.1, hd.2.1⟩, fun sig h => ?_, ok _ (by simp [va_wsS]), ok _ (by simp [va_wsS])⟩
  have h2 := hd.2.2
  rw [h] at h2
  exact (Option.some.inj h2).symm
theorem vx_callSW (X : Stand p l e R s m args below meth c T locs cells slots) (hexec : p.tables.exec = Jvm.exec) {own : String} {index : Nat} {y : MethodName} {bytes : ByteArray} {maxL : Nat} {ret : Option FieldType} {hh : List (Nat × Nat × Nat × Nat)}
    (hown : s.vm.findClass own = some m.cls) (hlink : (Cond.methodLink own index y).before args s = true) (hstat : (Cond.static y).before args s = true) (hinit : (Cond.initialized y.cls).before args s = true)
    (hcode : (Cond.codeWith y bytes maxL ret hh).before args s = true) (hy : y.cls ≠ "java/lang/invoke/MethodHandle" ∧ y.cls ≠ "java/lang/invoke/VarHandle")
    {W9 : Nat} {Pre : Pt → Array Value → Prop} {Post : Pt → Array Value → Option Value → Pt → Prop} (hK : Back l R p e below s args y 3 W9 Pre Post)
    {g : JFrame} (hg : g.method = m) (hsize : g.locals.size = c.maxLocals) {argsL rest : List Value} (hlen : ∀ sig, parseMethodDescriptor y.desc = some sig → argsL.length = sig.parameters.length)
    (hstack : g.stack = argsL.reverse ++ rest) (hW : 2 * g.monitorRoom + (rest.map fun v => v.category).sum ≤ W9) (hdg : decode c.code g.pc = .ok (.invokestatic index, 3))
    (hpre : ∀ vm₁, s.WarmedH vm₁ → Pre ⟨T.setVm vm₁, locs, cells, slots⟩ argsL.toArray) :
    ∃ (v : Option Value) (vm₁ : Vm) (B : Pt), s.WarmedH vm₁ ∧ Stand p l e R s m args below meth c B.U B.locs B.cells B.slots ∧ Post ⟨T.setVm vm₁, locs, cells, slots⟩ argsL.toArray v B ∧
      ∀ target, Steps p.tables e below (B.U.setTop { g with pc := g.pc + 3, stack := v.toList ++ rest }) target → Steps p.tables e below (T.setTop g) target := by
  obtain ⟨mk, methM, cM, hnamed, hmethM, -, -, -, -, -, -, hsigM⟩ := Cond.codeWith_spec hcode
  have hstatic : methM.isStatic = true := Cond.static_spec hnamed hmethM hstat
  obtain ⟨kP, hkP, -⟩ := className_of_methodNamed hnamed
  have hinitP : kP.init = .initialized := Cond.initialized_spec (findClass_of_methodNamed hnamed) hkP hinit
  obtain ⟨vm₁, X₁, hstep₁⟩ := X.invokestatic hexec hown hlink hnamed hmethM hstatic hkP hinitP hy (g := g) hg (argsL := argsL) (rest := rest) (hlen _ hsigM) hstack hdg
  obtain ⟨v, B, X', hpost, hsteps⟩ := hK m meth c ⟨T.setVm vm₁, locs, cells, slots⟩ { g with stack := rest } (.invokestatic index) mk argsL.toArray X₁ hg hsize hdg hW (X₁.named hnamed) (hpre vm₁ X₁.warmed)
  exact ⟨v, vm₁, B, X₁.warmed, X', hpost, fun target h => hstep₁ _ fun acts => by rw [doInvoke_state]; exact hsteps.trans h⟩
theorem vx_runSW {y : MethodName} {bytes cc : ByteArray} {maxL nL mc ms n index : Nat} {ret : Option FieldType} {hh : List (Nat × Nat × Nat × Nat)} {ws : List Cond} {rm : Room} {Pc : Array Value → State → Prop} {Qc : Array Value → State → Outcome → State → Prop} {free : Addr → Prop} {Ts : List Cond} {own : String} {As rest : List Value} {g : JFrame}
    (S : CallFix p m c cc nL s args Ts own) (hM : Met l y ws rm Pc Qc mc ms free) (cw : vx_CSW R s args own index y bytes maxL ret hh ws rm mc ms n) (hp : PreS s H Pc As)
    (hg : g.method = m) (hn : As.length = n) (hsize : g.locals.size = nL) (hstack : g.stack = As.reverse ++ rest) (hW : 2 * g.monitorRoom + (rest.map fun v => v.category).sum ≤ 8) (hdg : decode cc g.pc = .ok (.invokestatic index, 3)) (hf : cells + mc ≤ R.cells ∧ slots + ms ≤ R.slots) :
    va_Run p l e R s m args below meth c H locs cells slots mc ms g rest (Qc As.toArray) (free) := by
  obtain ⟨⟨hrc, hrs, hfr, hlo, hws, hcw⟩, hcode, hini, hy, hlen, hl, hstt⟩ := cw
  have hK : Back l R p e below s args y 3 8 (PreOf R mc ms Pc) (PostOf Qc mc ms free) := va_backW (hh := hh) (bytes := bytes) (maxL := maxL) (ret := ret) hM hp.1 hrc hrs hfr hlo hws hcw (fun a' U hW => word_at hW (Or.inl (by first | rfl | simp [Cond.onTables, Cond.keeps, Cond.steady])) hini)
  obtain ⟨hx, hb, hml, ho, -⟩ := S
  intro T hT X
  obtain ⟨v, vm₁, ⟨U', l2, c2, s2⟩, hW₁, X', ⟨g', mk, t, L, e1, e2, hq, h1, hL, h2, h3⟩, st⟩ := vx_callSW X hx (hh := hh) (bytes := bytes) (maxL := maxL) (ret := ret) ho hl hstt hini hcode hy hK hg (hsize.trans hml.symm) (argsL := As) (rest := rest) (fun sig h => hn.trans (hlen sig h)) hstack hW (by rw [hb]; exact hdg)
    (fun vm₁ hW₁ => ⟨hf.1, hf.2, hp.2 (T.setVm vm₁) hT hW₁⟩)
  dsimp only [Pt.U, Pt.locs, Pt.cells, Pt.slots] at X' e1 e2 h1 h2 h3 st
  subst h1; subst h2; subst h3
  exact ⟨v, (T.setVm vm₁).calling g' mk As.toArray, t, U', L, hT, X', hL, e1, e2, hq, st⟩
/-- not caught here, past rows that name other classes: it goes on to the caller -/
theorem vx_outP {p : Program} {l : Launch} {e : Env} {R : Room} {s : State} {m : MethodId} {args : Array Value} {below : List Frame} {meth : Method} {c : Code} {H : Heap} {locs : List Loc} {cells slots : Nat} {free : Addr → Prop} {ls : Array Slot} {rest : List Value} {Qc : Array Value → State → Outcome → State → Prop} {XC : String → State → State → Prop}
    {pc : Nat} {own E : String} {ce : Cell} {q : Addr} {mc ms : Nat} (hown : s.vm.findClass own = some m.cls) (hlocks : meth.locks = false)
    (hpass : ∀ z ∈ c.exceptionTable.toList, covers z pc = false ∨ (z.catchType ≠ 0 ∧ ∃ nm : String, (Cond.classLink own z.catchType nm).before args s = true ∧ va_Nc E nm s)) (hcell : H[q]? = some ce) (hv : ce.vm = .none) (hcl : s.vm.findClass E = some ce.cls)
    (hx : ∀ t : State, t.heap = H → s.vm.Alike t.vm → XC E s t) (hf : ∀ z ∈ locs, free z.base) (hc : cells ≤ mc) (hs : slots ≤ ms) :
    vx_W p l e R s m args below meth c H locs cells slots (vx_MQ below Qc XC args s mc ms free) (F0 m pc ls rest) q := by
  intro T hT X
  have hpl : e.platform.magicAccessors = ({} : Platform).magicAccessors := by rw [X.admits.platform]
  obtain ⟨vm', hW', X', st⟩ := X.outThrough hlocks q (g := F0 m pc ls rest) rfl rfl rfl (cell := ce) (by rw [hT]; exact hcell) (by rw [hv]; rfl)
    (by obtain ⟨k9, h9, -⟩ := Vm.findClass_spec hcl; exact ⟨k9, h9⟩) (fun z hz => by
      rcases hpass z hz with h | ⟨hz0, nm, hl1, hn1⟩
      · exact Or.inl h
      · obtain ⟨c6, hc6, hcl6⟩ := Cond.classLink_spec hown hl1 e.platform hpl
        obtain ⟨a8, b8, h1, h2, h3⟩ := hn1
        cases Option.some.inj (h1.symm.trans hcl)
        cases Option.some.inj (h2.symm.trans hc6)
        exact Or.inr ⟨hz0, _, hcl6, h3⟩)
  obtain ⟨g₀, hfr⟩ := X'.frames_eq
  have hcell9 : ((T.setVm vm').setFrames (.throwing q :: below)).heap[q]? = some ce := by
    show T.heap[q]? = some ce
    rw [hT]; exact hcell
  have hend : Ended ((T.setVm vm').setFrames (.throwing q :: below)) below (.threw q) := State.frames_setFrames _ (State.cur_lt_of_frames hfr)
  refine ⟨(T.setVm vm').setFrames (.throwing q :: below), ?_, .threw q, X'.here.running, hend, Or.inr ⟨q, rfl, E, ce, locs, hx _ hT (X'.ends _).1.alike, hcell9, hv, hcl, (X'.ends _).1, (X'.ends _).2.mono hc hs, hf⟩⟩
  rw [X.pushThrowing_eq]
  exact st
/-- a thing of a world lies in the heap -/
theorem vx_lt {D : va_G} {cl : List vw_C} {ws : va_W} {H1 : Heap} (h : va_P D cl ws H1) {k : Nat} {q : Nat × va_E} (hk : ws[k]? = some q) : q.1 < H1.size := (h k q hk).lt
end VXS
section VXH
/-! vx_backW, vx_callVX, vx_callSX, vx_callVW, vx_runVW, vx_runVX, vx_runSX, vx_ofWH follow the same proofs as their sisters above (Free/Laws.lean, Shelf42/LK1.lean); vx_outP calls Shelf42/NT130.lean (outThrough). -/
section
variable {l : Launch} {R : Room} {p : Program} {e : Env} {below : List Frame} {s : State} {sargs : Array Value} {y : MethodName} {len W9 : Nat}
theorem vx_backW {ws : List Cond} {rm : Room} {Pc : Array Value → State → Prop} {Qc : Array Value → State → Outcome → State → Prop} {XC : String → State → State → Prop} {mc ms : Nat} {free : Addr → Prop} {bytes : ByteArray} {maxL : Nat} {ret : Option FieldType} {hh : List (Nat × Nat × Nat × Nat)}
    (hM : vx_Met l y ws rm Pc Qc XC mc ms free) (hblind : FrameBlind Pc) (hrc : rm.cells = mc) (hrs : rm.slots = ms)
    (hframes : rm.frames + 1 ≤ R.frames) (hlocals : W9 + (maxL + 11) + rm.locals ≤ R.locals)
    (hws : ∀ w ∈ ws, ∀ a' U, s.WarmedH U.vm → w.before a' U = true) (hcode : Cond.codeWith y bytes maxL ret hh ∈ ws) (hinit : ∀ a' U, s.WarmedH U.vm → (Cond.initialized y.cls).before a' U = true) :
    vx_Back l R p e below s sargs y len W9 (PreOf R mc ms Pc) (PostOf Qc mc ms free) (vx_Post XC mc ms free) := by
  intro m meth c A g ig mk a X hg hsize hdg hW hn hp
  have h1 : (headSpec ws rm).pre.before a A.U = true := atoms_intro fun w hw => hws w hw _ _ X.warmed
  have h2 : (Cond.codeWith y bytes maxL ret hh).before a A.U = true := hws _ hcode _ _ X.warmed
  have h3 : (Cond.initialized y.cls).before a A.U = true := hinit _ _ X.warmed
  have h4 : A.cells + (headSpec ws rm).room.cells ≤ R.cells := by rw [show (headSpec ws rm).room.cells = mc from hrc]; exact hp.1
  have h5 : A.slots + (headSpec ws rm).room.slots ≤ R.slots := by rw [show (headSpec ws rm).room.slots = ms from hrs]; exact hp.2.1
  have hPc : Pc a (A.U.calling g mk a) := hblind _ _ _ _ hp.2.2
  obtain ⟨U, Ls, c0, s0⟩ := A
  dsimp only [Pt.U, Pt.locs, Pt.cells, Pt.slots] at h1 h2 h3 h4 h5 X hn hPc ⊢
  obtain ⟨m9, methY, cY, hn9, hmY, hcY, -, hlY, -⟩ := Cond.codeWith_spec h2
  cases Option.some.inj (hn9.symm.trans hn)
  obtain ⟨kY, hkY, -⟩ := className_of_methodNamed hn
  have hinitY : kY.init = .initialized := Cond.initialized_spec (findClass_of_methodNamed hn) hkY h3
  have h : At U g.method c below := by rw [hg]; exact X.here
  have hlocals9 : W9 + (maxL + 11) + (headSpec ws rm).room.locals ≤ R.locals := hlocals
  have happ : (headSpec ws rm).appliesLoose y e.platform (U.calling g mk a) = true :=
    Spec.appliesLoose_calling (g := g) h hdg hn hkY hinitY
      (X.room_calling (g := g) (R' := (headSpec ws rm).room) hsize hmY hcY hframes (by rw [hlY]; omega) h4 h5) h1
  obtain ⟨mid, hmid⟩ := h.above
  have hfr : (U.setTop g).frames = (.java g :: mid) ++ below := by rw [State.frames_setTop' g h.top, hmid]; rfl
  obtain ⟨o, s₂, hsteps, -, hend, hq⟩ := Steps.callFree hM p X.admits X.cas X.clock (acts := []) hfr happ hPc trivial
  have hq' : vx_Q Qc XC mc ms free a (U.calling g mk a) o s₂ := hq
  rw [State.frames_setTop' g h.top] at hend
  obtain ⟨g₀, hg0⟩ := Option.isSome_iff_exists.mp h.top
  obtain ⟨r, hr⟩ := State.topJava?_eq_some.mp hg0
  have hr' : (({ U with heap := s₂.heap, slotsUsed := s₂.slotsUsed } : State).setVm s₂.vm).frames = .java g₀ :: r := hr
  rcases hq' with ⟨hqc, L, hfe, hL⟩ | ⟨q, rfl, E, ce, L, hx, hce, hcv, hcl, hW₂, hsm, hL⟩
  · obtain ⟨⟨v, rfl⟩, hW₂, e2, q2, q3, q4, q5, q6⟩ := id hfe
    have e3 : s₂ = ({ (U.calling g mk a).setFrames s₂.frames with heap := s₂.heap, slotsUsed := s₂.slotsUsed } : State).setVm s₂.vm := by
      have : s₂ = ({ s₂ with vm := (U.calling g mk a).vm } : State).setVm s₂.vm := rfl
      rw [e2] at this
      exact this
    obtain ⟨c₂, i₂, len₂, hc₂, hd₂, hf₂⟩ := hend
    have hW' : U.WarmedH s₂.vm := hW₂
    have hcc : c₂ = c := by
      have h1 : s₂.code? g.method = U.code? g.method := by
        rw [State.code?_eq, State.code?_eq, hW'.alike.method?]
      exact Option.some.inj (hc₂.symm.trans (h1.trans h.code))
    subst hcc
    have hlen : len₂ = len := by rw [hdg] at hd₂; cases hd₂; rfl
    subst hlen
    have hs₂ : s₂ = (({ U with heap := s₂.heap, slotsUsed := s₂.slotsUsed } : State).setVm s₂.vm).setTop { g with pc := g.pc + len₂, stack := v.toList ++ g.stack } := by
      refine e3.trans ?_
      rw [hf₂, State.calling_eq h.top, State.setFrames_setFrames, State.setTop_of_frames _ hr', hr]
      rfl
    have hsame : U.sameButNew ({ U with heap := s₂.heap, slotsUsed := s₂.slotsUsed } : State) L mc ms := by
      refine ⟨?_, q2, q3, q4, q5, q6⟩
      obtain ⟨t, ht, -⟩ := State.frames_cons hr
      show ({ U with heap := s₂.heap, slotsUsed := s₂.slotsUsed } : State) = { U.setFrames U.frames with heap := s₂.heap, slotsUsed := s₂.slotsUsed }
      rw [State.setFrames_self ht]
    subst hg
    refine Or.inl ⟨v, ⟨(({ U with heap := s₂.heap, slotsUsed := s₂.slotsUsed } : State).setVm s₂.vm), Ls ++ L, c0 + mc, s0 + ms⟩,
      ⟨X.admits, X.cas, X.clock, X.frames, X.room, X.hears, X.method, X.code, (X.here.setHeapUsed s₂.heap s₂.slotsUsed).setVm hW'.alike, X.tail, State.WarmedH.trans X.warmed hW', X.limits, X.bytes, X.same.trans (hsame.setVm s.vm)⟩,
      ⟨g, mk, s₂, L, rfl, rfl, hqc, rfl, hL, rfl, rfl⟩, ?_⟩
    show Steps p.tables e below _ ((({ U with heap := s₂.heap, slotsUsed := s₂.slotsUsed } : State).setVm s₂.vm).setTop { g with pc := g.pc + len₂, stack := v.toList ++ g.stack })
    rw [← hs₂]
    exact hsteps
  · obtain ⟨e2, q2, q3, q4, q5, q6⟩ := id hsm
    have e3 : s₂ = ({ (U.calling g mk a).setFrames s₂.frames with heap := s₂.heap, slotsUsed := s₂.slotsUsed } : State).setVm s₂.vm := by
      have : s₂ = ({ s₂ with vm := (U.calling g mk a).vm } : State).setVm s₂.vm := rfl
      rw [e2] at this
      exact this
    have hf₂ : s₂.frames = .throwing q :: .java g :: U.frames.tail := hend
    have hW' : U.WarmedH s₂.vm := hW₂
    have hs₂ : s₂ = ((({ U with heap := s₂.heap, slotsUsed := s₂.slotsUsed } : State).setVm s₂.vm).setTop g).pushFrame (.throwing q) := by
      refine e3.trans ?_
      rw [hf₂, State.calling_eq h.top, State.setFrames_setFrames, State.pushFrame, State.frames_setTop _ hr', State.setTop_of_frames _ hr', State.setFrames_setFrames, hr]
      rfl
    have hsame : U.sameButNew ({ U with heap := s₂.heap, slotsUsed := s₂.slotsUsed } : State) L mc ms := by
      refine ⟨?_, q2, q3, q4, q5, q6⟩
      obtain ⟨t, ht, -⟩ := State.frames_cons hr
      show ({ U with heap := s₂.heap, slotsUsed := s₂.slotsUsed } : State) = { U.setFrames U.frames with heap := s₂.heap, slotsUsed := s₂.slotsUsed }
      rw [State.setFrames_self ht]
    subst hg
    refine Or.inr ⟨q, ⟨(({ U with heap := s₂.heap, slotsUsed := s₂.slotsUsed } : State).setVm s₂.vm), Ls ++ L, c0 + mc, s0 + ms⟩,
      ⟨X.admits, X.cas, X.clock, X.frames, X.room, X.hears, X.method, X.code, (X.here.setHeapUsed s₂.heap s₂.slotsUsed).setVm hW'.alike, X.tail, State.WarmedH.trans X.warmed hW', X.limits, X.bytes, X.same.trans (hsame.setVm s.vm)⟩,
      ⟨g, mk, s₂, L, E, ce, rfl, rfl, hx, hce, hcv, hcl, rfl, hL, rfl, rfl⟩, ?_⟩
    show Steps p.tables e below _ (((({ U with heap := s₂.heap, slotsUsed := s₂.slotsUsed } : State).setVm s₂.vm).setTop g).pushFrame (.throwing q))
    rw [← hs₂]
    exact hsteps
end
variable {p : Program} {l : Launch} {e : Env} {R : Room} {s : State} {m : MethodId} {args : Array Value} {below : List Frame} {meth : Method} {c : Code} {T : State} {H : Heap} {locs : List Loc} {cells slots : Nat}
theorem vx_callVX (X : Stand p l e R s m args below meth c T locs cells slots) (hexec : p.tables.exec = Jvm.exec) {own C : String} {index : Nat} {y : MethodName} {bytes : ByteArray} {maxL : Nat} {ret : Option FieldType} {hh : List (Nat × Nat × Nat × Nat)}
    (hown : s.vm.findClass own = some m.cls) (hlink : (Cond.methodLink own index y).before args s = true) (hinst : (Cond.instanceMethod y).before args s = true) (hsel : (Cond.selects C y y).before args s = true)
    (hcode : (Cond.codeWith y bytes maxL ret hh).before args s = true) (hy : y.cls ≠ "java/lang/invoke/MethodHandle" ∧ y.cls ≠ "java/lang/invoke/VarHandle")
    {W9 : Nat} {Pre : Pt → Array Value → Prop} {Post : Pt → Array Value → Option Value → Pt → Prop} {PostX : Pt → Array Value → Addr → Pt → Prop} (hK : vx_Back l R p e below s args y 3 W9 Pre Post PostX)
    {b : Addr} {cellB : Cell} (hcell : T.heap[b]? = some cellB) (hobj : cellB.vm.isStatics = false) (hcls : s.vm.findClass C = some cellB.cls)
    {g : JFrame} (hg : g.method = m) (hsize : g.locals.size = c.maxLocals) {argsL rest : List Value} (hlen : ∀ sig, parseMethodDescriptor y.desc = some sig → argsL.length = sig.parameters.length)
    (hstack : g.stack = argsL.reverse ++ .ref b :: rest) (hW : 2 * g.monitorRoom + (rest.map fun v => v.category).sum ≤ W9) (hdg : decode c.code g.pc = .ok (.invokevirtual index, 3))
    (hpre : ∀ vm₁, s.WarmedH vm₁ → Pre ⟨T.setVm vm₁, locs, cells, slots⟩ (Value.ref b :: argsL).toArray) :
    (∃ (v : Option Value) (vm₁ : Vm) (B : Pt), s.WarmedH vm₁ ∧ Stand p l e R s m args below meth c B.U B.locs B.cells B.slots ∧ Post ⟨T.setVm vm₁, locs, cells, slots⟩ (Value.ref b :: argsL).toArray v B ∧
      ∀ target, Steps p.tables e below (B.U.setTop { g with pc := g.pc + 3, stack := v.toList ++ rest }) target → Steps p.tables e below (T.setTop g) target) ∨
    (∃ (q : Addr) (vm₁ : Vm) (B : Pt), s.WarmedH vm₁ ∧ Stand p l e R s m args below meth c B.U B.locs B.cells B.slots ∧ PostX ⟨T.setVm vm₁, locs, cells, slots⟩ (Value.ref b :: argsL).toArray q B ∧
      Steps p.tables e below (T.setTop g) ((B.U.setTop { g with stack := rest }).pushFrame (.throwing q))) := by
  obtain ⟨mk, methM, hnamed, hmethM, hstM, habM⟩ := Cond.instanceMethod_spec hinst
  obtain ⟨m8, methM', cM, hn8, hmethM', -, -, -, -, -, -, hsigM⟩ := Cond.codeWith_spec hcode
  cases Option.some.inj (hn8.symm.trans hnamed)
  cases hmethM.symm.trans hmethM'
  obtain ⟨c2, r2, m2, q1, q2, q3, q4, kP, hkP, hkPi⟩ := Cond.selects_spec hsel
  cases hcls.symm.trans q1
  cases (State.methodFound?_of_named hnamed hy).symm.trans q2
  cases hnamed.symm.trans q3
  have hselP : selectMethod e.platform s.vm cellB.cls mk = .method mk := by rw [Launch.admits_selectMethod X.admits]; exact q4
  obtain ⟨vm₁, X₁, hstep₁⟩ := X.invokevirtual hexec hown hlink hnamed hmethM hstM hkP hkPi hy (a := b) (cell := cellB) hcell
    (fun z h => by rw [h] at hobj; cases hobj) hselP hmethM habM hkP hkPi (g := g) hg (argsL := argsL) (rest := rest) (hlen _ hsigM) hstack hdg
  rcases hK m meth c ⟨T.setVm vm₁, locs, cells, slots⟩ { g with stack := rest } (.invokevirtual index) mk (Value.ref b :: argsL).toArray X₁ hg hsize hdg hW (X₁.named hnamed) (hpre vm₁ X₁.warmed) with ⟨v, B, X', hpost, hsteps⟩ | ⟨q, B, X', hpost, hsteps⟩
  · exact Or.inl ⟨v, vm₁, B, X₁.warmed, X', hpost, fun target h => hstep₁ _ fun acts => by rw [doInvoke_state]; exact hsteps.trans h⟩
  · exact Or.inr ⟨q, vm₁, B, X₁.warmed, X', hpost, hstep₁ _ fun acts => by rw [doInvoke_state]; exact hsteps⟩
theorem vx_callSX (X : Stand p l e R s m args below meth c T locs cells slots) (hexec : p.tables.exec = Jvm.exec) {own : String} {index : Nat} {y : MethodName} {bytes : ByteArray} {maxL : Nat} {ret : Option FieldType} {hh : List (Nat × Nat × Nat × Nat)}
    (hown : s.vm.findClass own = some m.cls) (hlink : (Cond.methodLink own index y).before args s = true) (hstat : (Cond.static y).before args s = true) (hinit : (Cond.initialized y.cls).before args s = true)
    (hcode : (Cond.codeWith y bytes maxL ret hh).before args s = true) (hy : y.cls ≠ "java/lang/invoke/MethodHandle" ∧ y.cls ≠ "java/lang/invoke/VarHandle")
    {W9 : Nat} {Pre : Pt → Array Value → Prop} {Post : Pt → Array Value → Option Value → Pt → Prop} {PostX : Pt → Array Value → Addr → Pt → Prop} (hK : vx_Back l R p e below s args y 3 W9 Pre Post PostX)
    {g : JFrame} (hg : g.method = m) (hsize : g.locals.size = c.maxLocals) {argsL rest : List Value} (hlen : ∀ sig, parseMethodDescriptor y.desc = some sig → argsL.length = sig.parameters.length)
    (hstack : g.stack = argsL.reverse ++ rest) (hW : 2 * g.monitorRoom + (rest.map fun v => v.category).sum ≤ W9) (hdg : decode c.code g.pc = .ok (.invokestatic index, 3))
    (hpre : ∀ vm₁, s.WarmedH vm₁ → Pre ⟨T.setVm vm₁, locs, cells, slots⟩ argsL.toArray) :
    (∃ (v : Option Value) (vm₁ : Vm) (B : Pt), s.WarmedH vm₁ ∧ Stand p l e R s m args below meth c B.U B.locs B.cells B.slots ∧ Post ⟨T.setVm vm₁, locs, cells, slots⟩ argsL.toArray v B ∧
      ∀ target, Steps p.tables e below (B.U.setTop { g with pc := g.pc + 3, stack := v.toList ++ rest }) target → Steps p.tables e below (T.setTop g) target) ∨
    (∃ (q : Addr) (vm₁ : Vm) (B : Pt), s.WarmedH vm₁ ∧ Stand p l e R s m args below meth c B.U B.locs B.cells B.slots ∧ PostX ⟨T.setVm vm₁, locs, cells, slots⟩ argsL.toArray q B ∧
      Steps p.tables e below (T.setTop g) ((B.U.setTop { g with stack := rest }).pushFrame (.throwing q))) := by
  obtain ⟨mk, methM, cM, hnamed, hmethM, -, -, -, -, -, -, hsigM⟩ := Cond.codeWith_spec hcode
  have hstatic : methM.isStatic = true := Cond.static_spec hnamed hmethM hstat
  obtain ⟨kP, hkP, -⟩ := className_of_methodNamed hnamed
  have hinitP : kP.init = .initialized := Cond.initialized_spec (findClass_of_methodNamed hnamed) hkP hinit
  obtain ⟨vm₁, X₁, hstep₁⟩ := X.invokestatic hexec hown hlink hnamed hmethM hstatic hkP hinitP hy (g := g) hg (argsL := argsL) (rest := rest) (hlen _ hsigM) hstack hdg
  rcases hK m meth c ⟨T.setVm vm₁, locs, cells, slots⟩ { g with stack := rest } (.invokestatic index) mk argsL.toArray X₁ hg hsize hdg hW (X₁.named hnamed) (hpre vm₁ X₁.warmed) with ⟨v, B, X', hpost, hsteps⟩ | ⟨q, B, X', hpost, hsteps⟩
  · exact Or.inl ⟨v, vm₁, B, X₁.warmed, X', hpost, fun target h => hstep₁ _ fun acts => by rw [doInvoke_state]; exact hsteps.trans h⟩
  · exact Or.inr ⟨q, vm₁, B, X₁.warmed, X', hpost, hstep₁ _ fun acts => by rw [doInvoke_state]; exact hsteps⟩
theorem vx_callVW (X : Stand p l e R s m args below meth c T locs cells slots) (hexec : p.tables.exec = Jvm.exec) {own C : String} {index : Nat} {y : MethodName} {bytes : ByteArray} {maxL : Nat} {ret : Option FieldType} {hh : List (Nat × Nat × Nat × Nat)}
    (hown : s.vm.findClass own = some m.cls) (hlink : (Cond.methodLink own index y).before args s = true) (hinst : (Cond.instanceMethod y).before args s = true) (hsel : (Cond.selects C y y).before args s = true)
    (hcode : (Cond.codeWith y bytes maxL ret hh).before args s = true) (hy : y.cls ≠ "java/lang/invoke/MethodHandle" ∧ y.cls ≠ "java/lang/invoke/VarHandle")
    {W9 : Nat} {Pre : Pt → Array Value → Prop} {Post : Pt → Array Value → Option Value → Pt → Prop} (hK : Back l R p e below s args y 3 W9 Pre Post)
    {b : Addr} {cellB : Cell} (hcell : T.heap[b]? = some cellB) (hobj : cellB.vm.isStatics = false) (hcls : s.vm.findClass C = some cellB.cls)
    {g : JFrame} (hg : g.method = m) (hsize : g.locals.size = c.maxLocals) {argsL rest : List Value} (hlen : ∀ sig, parseMethodDescriptor y.desc = some sig → argsL.length = sig.parameters.length)
    (hstack : g.stack = argsL.reverse ++ .ref b :: rest) (hW : 2 * g.monitorRoom + (rest.map fun v => v.category).sum ≤ W9) (hdg : decode c.code g.pc = .ok (.invokevirtual index, 3))
    (hpre : ∀ vm₁, s.WarmedH vm₁ → Pre ⟨T.setVm vm₁, locs, cells, slots⟩ (Value.ref b :: argsL).toArray) :
    ∃ (v : Option Value) (vm₁ : Vm) (B : Pt), s.WarmedH vm₁ ∧ Stand p l e R s m args below meth c B.U B.locs B.cells B.slots ∧ Post ⟨T.setVm vm₁, locs, cells, slots⟩ (Value.ref b :: argsL).toArray v B ∧
      ∀ target, Steps p.tables e below (B.U.setTop { g with pc := g.pc + 3, stack := v.toList ++ rest }) target → Steps p.tables e below (T.setTop g) target := by
  obtain ⟨mk, methM, hnamed, hmethM, hstM, habM⟩ := Cond.instanceMethod_spec hinst
  obtain ⟨m8, methM', cM, hn8, hmethM', -, -, -, -, -, -, hsigM⟩ := Cond.codeWith_spec hcode
  cases Option.some.inj (hn8.symm.trans hnamed)
  cases hmethM.symm.trans hmethM'
  obtain ⟨c2, r2, m2, q1, q2, q3, q4, kP, hkP, hkPi⟩ := Cond.selects_spec hsel
  cases hcls.symm.trans q1
  cases (State.methodFound?_of_named hnamed hy).symm.trans q2
  cases hnamed.symm.trans q3
  have hselP : selectMethod e.platform s.vm cellB.cls mk = .method mk := by rw [Launch.admits_selectMethod X.admits]; exact q4
  obtain ⟨vm₁, X₁, hstep₁⟩ := X.invokevirtual hexec hown hlink hnamed hmethM hstM hkP hkPi hy (a := b) (cell := cellB) hcell
    (fun z h => by rw [h] at hobj; cases hobj) hselP hmethM habM hkP hkPi (g := g) hg (argsL := argsL) (rest := rest) (hlen _ hsigM) hstack hdg
  obtain ⟨v, B, X', hpost, hsteps⟩ := hK m meth c ⟨T.setVm vm₁, locs, cells, slots⟩ { g with stack := rest } (.invokevirtual index) mk (Value.ref b :: argsL).toArray X₁ hg hsize hdg hW (X₁.named hnamed) (hpre vm₁ X₁.warmed)
  exact ⟨v, vm₁, B, X₁.warmed, X', hpost, fun target h => hstep₁ _ fun acts => by rw [doInvoke_state]; exact hsteps.trans h⟩
abbrev vx_CVW (R : Room) (s : State) (args : Array Value) (own C : String) (index : Nat) (y : MethodName) (bytes : ByteArray) (maxL : Nat) (ret : Option FieldType) (hh : List (Nat × Nat × Nat × Nat)) (ws : List Cond) (rm : Room) (mc ms n : Nat) : Prop :=
  (rm.cells = mc ∧ rm.slots = ms ∧ rm.frames + 1 ≤ R.frames ∧ 8 + (maxL + 11) + rm.locals ≤ R.locals ∧ (∀ w ∈ ws, ∀ (a' : Array Value) (U : State), s.WarmedH U.vm → w.before a' U = true) ∧ Cond.codeWith y bytes maxL ret hh ∈ ws) ∧
  (Cond.codeWith y bytes maxL ret hh).before args s = true ∧ (Cond.initialized y.cls).before args s = true ∧ (y.cls ≠ "java/lang/invoke/MethodHandle" ∧ y.cls ≠ "java/lang/invoke/VarHandle") ∧
  (∀ sig, parseMethodDescriptor y.desc = some sig → n = sig.parameters.length) ∧ (Cond.methodLink own index y).before args s = true ∧ (Cond.instanceMethod y).before args s = true ∧ (Cond.selects C y y).before args s = true
theorem vx_cwVW {own C : String} {index maxL mc ms : Nat} {y : MethodName} {bytes : ByteArray} {ret : Option FieldType} {hh : List (Nat × Nat × Nat × Nat)} {Ts ws ws' : List Cond} {rm : Room} (n : Nat) (ht : ∀ w ∈ Ts, w.before args s = true) (hT : GoodIn Ts (wsV own index C y ws)) (hw : ws = Cond.codeWith y bytes maxL ret hh :: ws') (hrc : rm.cells = mc) (hrs : rm.slots = ms)
    (hd : y.cls = C ∧ y.cls ≠ "java/lang/invoke/MethodHandle" ∧ y.cls ≠ "java/lang/invoke/VarHandle" ∧ (parseMethodDescriptor y.desc).map (fun d => d.parameters.length) = some n) (hR : rm.frames + 1 ≤ R.frames ∧ 8 + (maxL + 11) + rm.locals ≤ R.locals) :
    vx_CVW R s args own C index y bytes maxL ret hh ws rm mc ms n := by
  obtain ⟨hC, hd⟩ := hd
  subst hC
  have ok : ∀ w ∈ wsV own index y.cls y ws, w.before args s = true := fun w h => ht w (hT w h).1
  have hG : GoodIn Ts ws := fun w h => hT w (by unfold wsV; exact List.mem_append_right _ h)
  have hc : Cond.codeWith y bytes maxL ret hh ∈ ws := by rw [hw]; exact List.mem_cons_self
  refine ⟨⟨hrc, hrs, hR.1, hR.2, pay_in ht hG, hc⟩, ht _ (hG _ hc).1, ok _ (by simp [wsV]), ⟨hd.1, hd.2.1⟩, fun sig h => ?_, ok _ (by simp [wsV]), ok _ (by simp [wsV]), ok _ (by simp [wsV])⟩
  have h2 := hd.2.2
  rw [h] at h2
  exact (Option.some.inj h2).symm
theorem vx_runVW {y : MethodName} {bytes cc : ByteArray} {maxL nL mc ms n index : Nat} {ret : Option FieldType} {hh : List (Nat × Nat × Nat × Nat)} {ws : List Cond} {rm : Room} {Pc : Array Value → State → Prop} {Qc : Array Value → State → Outcome → State → Prop} {free : Addr → Prop} {Ts : List Cond} {own C : String} {b : Addr} {As rest : List Value} {g : JFrame}
    (S : CallFix p m c cc nL s args Ts own) (hM : Met l y ws rm Pc Qc mc ms free) (cw : vx_CVW R s args own C index y bytes maxL ret hh ws rm mc ms n) (hp : PreV s H C b Pc As)
    (hg : g.method = m) (hn : As.length = n) (hsize : g.locals.size = nL) (hstack : g.stack = As.reverse ++ .ref b :: rest) (hW : 2 * g.monitorRoom + (rest.map fun v => v.category).sum ≤ 8) (hdg : decode cc g.pc = .ok (.invokevirtual index, 3)) (hf : cells + mc ≤ R.cells ∧ slots + ms ≤ R.slots) :
    va_Run p l e R s m args below meth c H locs cells slots mc ms g rest (Qc (Value.ref b :: As).toArray) free := by
  obtain ⟨⟨hrc, hrs, hfr, hlo, hws, hcw⟩, hcode, hini, hy, hlen, hl, hin, hse⟩ := cw
  have hK : Back l R p e below s args y 3 8 (PreOf R mc ms Pc) (PostOf Qc mc ms free) := va_backW (hh := hh) (bytes := bytes) (maxL := maxL) (ret := ret) hM hp.1 hrc hrs hfr hlo hws hcw (fun a' U hW => word_at hW (Or.inl (by first | rfl | simp [Cond.onTables, Cond.keeps, Cond.steady])) hini)
  obtain ⟨hx, hb, hml, ho, -⟩ := S
  obtain ⟨-, ⟨cellB, hcB, hoB, hclB⟩, hPc⟩ := hp
  intro T hT X
  obtain ⟨v, vm₁, ⟨U', l2, c2, s2⟩, hW₁, X', ⟨g', mk, t, L, e1, e2, hq, h1, hL, h2, h3⟩, st⟩ := vx_callVW X hx (C := C) (hh := hh) (bytes := bytes) (maxL := maxL) (ret := ret) ho hl hin hse hcode hy hK (by rw [hT]; exact hcB) hoB hclB hg (hsize.trans hml.symm) (argsL := As) (rest := rest) (fun sig h => hn.trans (hlen sig h)) hstack hW (by rw [hb]; exact hdg)
    (fun vm₁ hW₁ => ⟨hf.1, hf.2, hPc (T.setVm vm₁) hT hW₁⟩)
  dsimp only [Pt.U, Pt.locs, Pt.cells, Pt.slots] at X' e1 e2 h1 h2 h3 st
  subst h1; subst h2; subst h3
  exact ⟨v, (T.setVm vm₁).calling g' mk (Value.ref b :: As).toArray, t, U', L, hT, X', hL, e1, e2, hq, st⟩
section
variable {y : MethodName} {bytes cc : ByteArray} {maxL nL mc ms n index : Nat} {ret : Option FieldType} {ws : List Cond} {rm : Room} {Pc : Array Value → State → Prop} {Qc : Array Value → State → Outcome → State → Prop} {XC : String → State → State → Prop} {free : Addr → Prop} {Ts : List Cond} {own C : String} {b : Addr} {As rest : List Value} {g : JFrame}
theorem vx_runVX {hh : List (Nat × Nat × Nat × Nat)} (S : CallFix p m c cc nL s args Ts own) (hM : vx_Met l y ws rm Pc Qc XC mc ms free) (cw : vx_CVW R s args own C index y bytes maxL ret hh ws rm mc ms n) (hp : PreV s H C b Pc As)
    (hg : g.method = m) (hn : As.length = n) (hsize : g.locals.size = nL) (hstack : g.stack = As.reverse ++ .ref b :: rest) (hW : 2 * g.monitorRoom + (rest.map fun v => v.category).sum ≤ 8) (hdg : decode cc g.pc = .ok (.invokevirtual index, 3)) (hf : cells + mc ≤ R.cells ∧ slots + ms ≤ R.slots) :
    vx_Run p l e R s m args below meth c H locs cells slots mc ms g rest (Qc (Value.ref b :: As).toArray) XC free := by
  obtain ⟨⟨hrc, hrs, hfr, hlo, hws, hcw⟩, hcode, hini, hy, hlen, hl, hin, hse⟩ := cw
  have hK : vx_Back l R p e below s args y 3 8 (PreOf R mc ms Pc) (PostOf Qc mc ms free) (vx_Post XC mc ms free) := vx_backW (hh := hh) (bytes := bytes) (maxL := maxL) (ret := ret) hM hp.1 hrc hrs hfr hlo hws hcw (fun a' U hW => word_at hW (Or.inl (by first | rfl | simp [Cond.onTables, Cond.keeps, Cond.steady])) hini)
  obtain ⟨hx, hb, hml, ho, -⟩ := S
  obtain ⟨-, ⟨cellB, hcB, hoB, hclB⟩, hPc⟩ := hp
  intro T hT X
  rcases vx_callVX X hx (C := C) (hh := hh) (bytes := bytes) (maxL := maxL) (ret := ret) ho hl hin hse hcode hy hK (by rw [hT]; exact hcB) hoB hclB hg (hsize.trans hml.symm) (argsL := As) (rest := rest) (fun sig h => hn.trans (hlen sig h)) hstack hW (by rw [hb]; exact hdg)
    (fun vm₁ hW₁ => ⟨hf.1, hf.2, hPc (T.setVm vm₁) hT hW₁⟩) with ⟨v, vm₁, ⟨U', l2, c2, s2⟩, hW₁, X', ⟨g', mk, t, L, e1, e2, hq, h1, hL, h2, h3⟩, st⟩ | ⟨q, vm₁, ⟨U', l2, c2, s2⟩, hW₁, X', ⟨g', mk, t, L, E, ce, e1, e2, hq, hce, hcv, hcl, h1, hL, h2, h3⟩, st⟩
  · dsimp only [Pt.U, Pt.locs, Pt.cells, Pt.slots] at X' e1 e2 h1 h2 h3 st
    subst h1; subst h2; subst h3
    exact Or.inl ⟨v, (T.setVm vm₁).calling g' mk (Value.ref b :: As).toArray, t, U', L, hT, X', hL, e1, e2, hq, st⟩
  · dsimp only [Pt.U, Pt.locs, Pt.cells, Pt.slots] at X' e1 e2 h1 h2 h3 st hcl
    subst h1; subst h2; subst h3
    exact Or.inr ⟨q, (T.setVm vm₁).calling g' mk (Value.ref b :: As).toArray, t, U', L, E, ce, hT, X', hL, e1, e2, hq, hce, hcv, vx_cls hW₁ hcl, st⟩
theorem vx_runSX {hh : List (Nat × Nat × Nat × Nat)} (S : CallFix p m c cc nL s args Ts own) (hM : vx_Met l y ws rm Pc Qc XC mc ms free) (cw : vx_CSW R s args own index y bytes maxL ret hh ws rm mc ms n) (hp : PreS s H Pc As)
    (hg : g.method = m) (hn : As.length = n) (hsize : g.locals.size = nL) (hstack : g.stack = As.reverse ++ rest) (hW : 2 * g.monitorRoom + (rest.map fun v => v.category).sum ≤ 8) (hdg : decode cc g.pc = .ok (.invokestatic index, 3)) (hf : cells + mc ≤ R.cells ∧ slots + ms ≤ R.slots) :
    vx_Run p l e R s m args below meth c H locs cells slots mc ms g rest (Qc As.toArray) XC free := by
  obtain ⟨⟨hrc, hrs, hfr, hlo, hws, hcw⟩, hcode, hini, hy, hlen, hl, hstt⟩ := cw
  have hK : vx_Back l R p e below s args y 3 8 (PreOf R mc ms Pc) (PostOf Qc mc ms free) (vx_Post XC mc ms free) := vx_backW (hh := hh) (bytes := bytes) (maxL := maxL) (ret := ret) hM hp.1 hrc hrs hfr hlo hws hcw (fun a' U hW => word_at hW (Or.inl (by first | rfl | simp [Cond.onTables, Cond.keeps, Cond.steady])) hini)
  obtain ⟨hx, hb, hml, ho, -⟩ := S
  intro T hT X
  rcases vx_callSX X hx (hh := hh) (bytes := bytes) (maxL := maxL) (ret := ret) ho hl hstt hini hcode hy hK hg (hsize.trans hml.symm) (argsL := As) (rest := rest) (fun sig h => hn.trans (hlen sig h)) hstack hW (by rw [hb]; exact hdg)
    (fun vm₁ hW₁ => ⟨hf.1, hf.2, hp.2 (T.setVm vm₁) hT hW₁⟩) with ⟨v, vm₁, ⟨U', l2, c2, s2⟩, hW₁, X', ⟨g', mk, t, L, e1, e2, hq, h1, hL, h2, h3⟩, st⟩ | ⟨q, vm₁, ⟨U', l2, c2, s2⟩, hW₁, X', ⟨g', mk, t, L, E, ce, e1, e2, hq, hce, hcv, hcl, h1, hL, h2, h3⟩, st⟩
  · dsimp only [Pt.U, Pt.locs, Pt.cells, Pt.slots] at X' e1 e2 h1 h2 h3 st
    subst h1; subst h2; subst h3
    exact Or.inl ⟨v, (T.setVm vm₁).calling g' mk As.toArray, t, U', L, hT, X', hL, e1, e2, hq, st⟩
  · dsimp only [Pt.U, Pt.locs, Pt.cells, Pt.slots] at X' e1 e2 h1 h2 h3 st hcl
    subst h1; subst h2; subst h3
    exact Or.inr ⟨q, (T.setVm vm₁).calling g' mk As.toArray, t, U', L, E, ce, hT, X', hL, e1, e2, hq, hce, hcv, vx_cls hW₁ hcl, st⟩
end
end VXH
theorem vx_ofWH {l : Launch} {y : MethodName} {ws ws' : List Cond} {rm : Room} {Pc : Array Value → State → Prop} {Qc : Array Value → State → Outcome → State → Prop} {XC : String → State → State → Prop} {mc ms : Nat} {free : Addr → Prop} {cc : ByteArray} {maxL : Nat} {ret : Option FieldType} {hh : List (Nat × Nat × Nat × Nat)}
    (hy : plainName y.cls = true) (hw : ws = Cond.codeWith y cc maxL ret hh :: ws')
    (body : ∀ p e s m args below meth c s₁, BodyLoose p l y (headSpec ws rm) cc maxL ret e s m args below meth c s₁ → c.maxLocals = maxL → Pc args s →
      W p l e (headSpec ws rm).room s m args below meth c s.heap [] 0 0 (vx_MQ below Qc XC args s mc ms free) (entryFrame m args maxL)) : vx_Met l y ws rm Pc Qc XC mc ms free := by
  refine MetFree.of_bodyS (code := cc) (maxLocals := maxL) (ret := ret) hy ?_ ?_
  · intro args s m h hn
    obtain ⟨m9, meth, c, hn9, h1, h2, h3, h4, -, h5, h6, -⟩ := Cond.codeWith_spec (atoms_spec (ws := ws) h _ (by rw [hw]; exact List.mem_cons_self))
    cases hn.symm.trans hn9
    exact ⟨meth, c, h1, h2, h3, h4, h5, h6⟩
  · intro p e s m args below meth c s₁ B hml hP _
    have hh0 : s₁.heap = s.heap := by rw [B.state]; rfl
    obtain ⟨t, a1, o, b1, b2, b3⟩ := body p e s m args below meth c s₁ B hml hP s₁ hh0 (Stand.of_body B)
    exact ⟨t, o, a1, b1, b2, b3⟩
end
section
/-! ===== BEGIN new T[n][m]: the outer array a place, the inner ones among the pooled ===== -/
/-- f, but v at every address of l -/
def vr_up {α : Type} (f : Nat → α) (l : List Nat) (v : α) : Nat → α := fun a => if a ∈ l then v else f a
theorem vr_up_in {α : Type} {f : Nat → α} {l : List Nat} {v : α} {a : Nat} (h : a ∈ l) : vr_up f l v a = v := if_pos h
theorem vr_up_ne {α : Type} {f : Nat → α} {l : List Nat} {v : α} {a : Nat} (h : a ∉ l) : vr_up f l v a = f a := if_neg h
theorem vr_rows {L l : List Nat} {f : Nat → va_E} {e : va_E} (h : ∀ a, a ∈ l → a ∉ L) : va_pl L f ++ l.map (fun a => (a, e)) = va_pl (L ++ l) (vr_up f l e) := by
  unfold va_pl
  rw [List.map_append]
  congr 1
  · apply List.map_congr_left
    intro a ha
    rw [vr_up_ne (fun q => h a q ha)]
  · apply List.map_congr_left
    intro a ha
    rw [vr_up_in ha]
theorem vr_lay {X rows : va_W} {x : Nat × va_E} {pl : va_W} {D : va_G} {cl : List vw_C} {H : Heap} (hP : va_P D cl (((X ++ pl) ++ [x]) ++ rows) H) : va_P D cl ((X ++ [x]) ++ (pl ++ rows)) H := by
  rw [List.append_assoc (X ++ pl)] at hP
  have h := va_P.swap hP
  rw [← List.append_assoc X] at h
  have h2 := va_P.swap h
  rw [List.append_assoc (X ++ [x])] at h2
  exact h2
theorem vr_layD {X rows : va_W} {x : Nat × va_E} {pl : va_W} {A : Nat → Prop} (hD : va_D A (((X ++ pl) ++ [x]) ++ rows)) : va_D A ((X ++ [x]) ++ (pl ++ rows)) := by
  rw [List.append_assoc (X ++ pl)] at hD
  have h := va_D.swap hD
  rw [← List.append_assoc X] at h
  have h2 := va_D.swap h
  rw [List.append_assoc (X ++ [x])] at h2
  exact h2
theorem vr_outer (c : ClassId) (N h0 : Nat) : ∀ i : Nat, Jvm.Free.Multi.outerC c N h0 i = arrV c N (fun j => va_rf (if j < i then some (h0 + 1 + j) else none))
  | 0 => by
    show ({ cls := c, slots := Array.replicate N .null, vm := .none } : Cell) = _
    rw [arrV_new]
    refine congrArg (arrV c N) (funext fun j => ?_)
    simp [va_rf]
  | i + 1 => by
    show (Jvm.Free.Multi.outerC c N h0 i).setSlot i (.ref (h0 + 1 + i)) = _
    rw [vr_outer c N h0 i, arrV_store]
    refine congrArg (arrV c N) (funext fun j => ?_)
    by_cases e : j = i
    · subst e
      simp [updV, va_rf]
    · by_cases h : j < i
      · simp [updV, e, h, Nat.lt_succ_of_lt h]
      · simp [updV, e, h, show ¬ j < i + 1 by omega]
section VGM
variable {p : Program} {l : Launch} {e : Env} {R : Room} {s : State} {m : MethodId} {args : Array Value} {below : List Frame} {meth : Method} {c : Code} {H : Heap} {locs : List Loc} {cells slots : Nat} {Q : State → Prop}
variable {cc : ByteArray} {pc : Nat} {ls : Array Slot} {rest : List Value} {D : va_G} {cl : List vw_C} {A : Nat → Prop} {a : Nat} {tys : List (ClassId × FieldType)} {ws : va_W} {H0 : Heap}
theorem va_mna {X : va_W} {L : List Nat} {f : Nat → va_E} {cc : ByteArray} (hexec : p.tables.exec = Jvm.exec) (hb : c.code = cc) {own : String} {index : Nat} {ty : FieldType} {cy : ClassId} (hown : s.vm.findClass own = some m.cls) (hclink : (Cond.classLink own index ("[" ++ (FieldType.array ty).toString)).before args s = true) (hover : (Cond.arrayOver (.array ty)).before args s = true) (harr : (Cond.arrayClass ty).before args s = true) (hcy : s.vm.findClass (FieldType.array ty).toString = some cy)
    (hK : va_K D cl tys s) (hP : va_P D cl (X ++ va_pl L f) H) (hD : va_D A (X ++ va_pl L f)) (hS : va_S A H0 H locs) (hA : ∀ q, H0.size ≤ q → A q) {n k : Int32} {N' K' : Nat} {z : vp_A} (hn : ¬ n < 0) (hk : ¬ k < 0) (hN : n.toNatClampNeg = N') (hM : k.toNatClampNeg = K')
    (hb1 : N' * 4 ≤ 536870912) (hb2 : K' * componentBytes ty ≤ 536870912) (hb3 : K' ≤ 536870912) (hdf : fits ty (defaultValue ty) = true) (hdd : (defaultValue ty).isDefault = true) (hcells : cells + (1 + N') ≤ R.cells) (hslots : slots + (N' + N' * K') ≤ R.slots) (hz : ∀ c : ClassId, Jvm.Free.Multi.innerC c K' (defaultValue ty) = vp_cell c z) (hdg : decode cc pc = .ok (.multianewarray index 2, 4))
    (kk : ∀ (q : Nat) (r : Nat → Nat) (cA : ClassId) (H1 : Heap), (∀ i j : Nat, i < N' → j < N' → r i = r j → i = j) → (∀ i : Nat, i < N' → r i ∉ L) → va_K D cl (tys ++ [(cA, .array ty)]) s →
      va_P D cl ((X ++ [(q, .inl (cA, N', .inr (.inr (.inr (.inr (fun i => if i < N' then some (r i) else none))))))]) ++ va_pl (L ++ (List.range N').map r) (vr_up f ((List.range N').map r) (.inl (cy, z)))) H1 → va_D A ((X ++ [(q, .inl (cA, N', .inr (.inr (.inr (.inr (fun i => if i < N' then some (r i) else none))))))]) ++ va_pl (L ++ (List.range N').map r) (vr_up f ((List.range N').map r) (.inl (cy, z)))) → va_S A H0 H1 locs →
      W p l e R s m args below meth c H1 locs (cells + 1 + N') (slots + N' + N' * K') Q (F0 m (pc + 4) ls (.ref q :: rest))) : W p l e R s m args below meth c H locs cells slots Q (F0 m pc ls (.int k :: .int n :: rest)) := by
  subst hN
  subst hM
  intro T hT Xs
  obtain ⟨vm₁, cA, comp, -, fA, fC, hO, -, X', step⟩ := Xs.multianewarray2F hexec hown hclink hover harr (g := F0 m pc ls (.int k :: .int n :: rest)) rfl (by rw [hb]; exact hdg) rfl hn hk hb1 hb2 hb3 hdf hdd hcells hslots
  have ec : some cy = some comp := hcy.symm.trans fC
  cases ec
  generalize hF : Jvm.Free.Multi.fill (T.setVm vm₁) cA cy n.toNatClampNeg k.toNatClampNeg (defaultValue ty) n.toNatClampNeg = F at X' step
  have hTh : (T.setVm vm₁).heap = H := hT
  obtain ⟨f1, f2, -, -⟩ := Jvm.Free.Multi.fill_facts (T.setVm vm₁) cA cy n.toNatClampNeg k.toNatClampNeg (defaultValue ty) n.toNatClampNeg
  rw [hF, hTh] at f1 f2
  have hold : ∀ x : Nat, x < H.size → F.heap[x]? = H[x]? := fun x hx => by
    have := Jvm.Free.Multi.fill_old (T.setVm vm₁) cA cy n.toNatClampNeg k.toNatClampNeg (defaultValue ty) (a := x) (by rw [hTh]; exact hx) n.toNatClampNeg
    rw [hF, hTh] at this
    exact this
  have hrow : ∀ j : Nat, j < n.toNatClampNeg → F.heap[H.size + 1 + j]? = some (vp_cell cy z) := fun j hj => by
    have := Jvm.Free.Multi.fill_inner (T.setVm vm₁) cA cy n.toNatClampNeg k.toNatClampNeg (defaultValue ty) n.toNatClampNeg j hj
    rw [hF, hTh, hz] at this
    exact this
  have hout : Jvm.Free.Multi.outerC cA n.toNatClampNeg H.size n.toNatClampNeg = vp_cell cA (n.toNatClampNeg, .inr (.inr (.inr (.inr (fun i => if i < n.toNatClampNeg then some (H.size + 1 + i) else none))))) := by
    rw [vp_cell_q]
    exact vr_outer cA n.toNatClampNeg H.size n.toNatClampNeg
  rw [hout] at f2
  have hlt : ∀ a, a ∈ L → a < H.size := fun a ha => by
    obtain ⟨k9, hk9⟩ := va_pl_get (X := X) (f := f) ha
    exact (hP k9 _ hk9).lt
  have hnl : ∀ i : Nat, i < n.toNatClampNeg → H.size + 1 + i ∉ L := fun i _ h => by
    have := hlt _ h
    omega
  have hnm : ∀ a, a ∈ (List.range n.toNatClampNeg).map (fun i => H.size + 1 + i) → a ∉ L := fun a ha h => by
    obtain ⟨i, -, rfl⟩ := List.mem_map.mp ha
    have := hlt _ h
    omega
  have hP0 : va_P D cl (X ++ va_pl L f) F.heap := hP.kept (fun k9 x hx => hold x.1 ((hP k9 x hx).lt))
  have hP1 : va_P D cl ((X ++ va_pl L f) ++ [(H.size, .inl (cA, n.toNatClampNeg, .inr (.inr (.inr (.inr (fun i => if i < n.toNatClampNeg then some (H.size + 1 + i) else none))))))]) F.heap := hP0.app (fun k9 x hx => by
    have h0 : k9 < 1 := (List.getElem?_eq_some_iff.mp hx).1
    rw [show k9 = 0 by omega] at hx
    cases hx
    exact f2)
  have hP2 : va_P D cl (((X ++ va_pl L f) ++ [(H.size, .inl (cA, n.toNatClampNeg, .inr (.inr (.inr (.inr (fun i => if i < n.toNatClampNeg then some (H.size + 1 + i) else none))))))]) ++ ((List.range n.toNatClampNeg).map (fun i => H.size + 1 + i)).map (fun a => (a, .inl (cy, z)))) F.heap := hP1.app (fun k9 x hx => by
    obtain ⟨a, ha, rfl⟩ := List.mem_map.mp (List.mem_of_getElem? hx)
    obtain ⟨i, hi, rfl⟩ := List.mem_map.mp ha
    exact hrow i (List.mem_range.mp hi))
  have hD2 : va_D A (((X ++ va_pl L f) ++ [(H.size, .inl (cA, n.toNatClampNeg, .inr (.inr (.inr (.inr (fun i => if i < n.toNatClampNeg then some (H.size + 1 + i) else none))))))]) ++ ((List.range n.toNatClampNeg).map (fun i => H.size + 1 + i)).map (fun a => (a, .inl (cy, z)))) := by
    have hD1 := hD.push (e := .inl (cA, n.toNatClampNeg, .inr (.inr (.inr (.inr (fun i => if i < n.toNatClampNeg then some (H.size + 1 + i) else none)))))) hP rfl (hA _ hS.1)
    generalize hW1 : (X ++ va_pl L f) ++ [(H.size, .inl (cA, n.toNatClampNeg, .inr (.inr (.inr (.inr (fun i => if i < n.toNatClampNeg then some (H.size + 1 + i) else none))))))] = W1 at hD1 hP1 ⊢
    have hle : ∀ (k9 : Nat) (x : Nat × va_E), W1[k9]? = some x → x.1 ≤ H.size := fun k9 x hx => by
      rw [← hW1] at hx
      by_cases hl : k9 < (X ++ va_pl L f).length
      · rw [List.getElem?_append_left hl] at hx
        exact Nat.le_of_lt ((hP k9 x hx).lt)
      · rw [List.getElem?_append_right (by omega)] at hx
        have h0 : k9 - (X ++ va_pl L f).length < 1 := (List.getElem?_eq_some_iff.mp hx).1
        rw [show k9 - (X ++ va_pl L f).length = 0 by omega] at hx
        cases hx
        exact Nat.le_refl _
    have hr : ∀ (k9 : Nat) (x : Nat × va_E), (((List.range n.toNatClampNeg).map (fun i => H.size + 1 + i)).map (fun a => ((a, .inl (cy, z)) : Nat × va_E)))[k9]? = some x → x.1 = H.size + 1 + k9 := fun k9 x hx => by
      rw [List.getElem?_map, List.getElem?_map] at hx
      by_cases h9 : k9 < n.toNatClampNeg
      · rw [List.getElem?_range h9] at hx
        cases hx
        rfl
      · have hn0 : (List.range n.toNatClampNeg)[k9]? = none := List.getElem?_eq_none (by rw [List.length_range]; omega)
        rw [hn0] at hx
        cases hx
    refine ⟨fun i j x y hi hj hxy => ?_, fun k9 x hx => ?_⟩
    · by_cases h1 : i < W1.length <;> by_cases h2 : j < W1.length
      · rw [List.getElem?_append_left h1] at hi
        rw [List.getElem?_append_left h2] at hj
        exact hD1.1 i j x y hi hj hxy
      · rw [List.getElem?_append_left h1] at hi
        rw [List.getElem?_append_right (by omega)] at hj
        have := hle _ _ hi
        have := hr _ _ hj
        omega
      · rw [List.getElem?_append_right (by omega)] at hi
        rw [List.getElem?_append_left h2] at hj
        have := hle _ _ hj
        have := hr _ _ hi
        omega
      · rw [List.getElem?_append_right (by omega)] at hi hj
        have := hr _ _ hi
        have := hr _ _ hj
        omega
    · by_cases h1 : k9 < W1.length
      · rw [List.getElem?_append_left h1] at hx
        exact hD1.2 k9 x hx
      · rw [List.getElem?_append_right (by omega)] at hx
        have := hr _ _ hx
        exact hA _ (by have := hS.1; omega)
  have hAr : ArrOfT s cA (.array ty) := fun N9 z9 => by
    obtain ⟨-, k9, hk9, cm9, hkk9⟩ := (hO 0 0 0).1
    exact ⟨(fun q hq => by cases hq), k9, hk9, cm9, hkk9⟩
  have hK2 : va_K D cl (tys ++ [(cA, .array ty)]) s := ⟨hK.1, fun k9 x hx => by
    by_cases hl : k9 < tys.length
    · rw [List.getElem?_append_left hl] at hx
      exact hK.2 k9 x hx
    · rw [List.getElem?_append_right (by omega)] at hx
      have h0 : k9 - tys.length < 1 := (List.getElem?_eq_some_iff.mp hx).1
      rw [show k9 - tys.length = 0 by omega] at hx
      cases hx
      exact ⟨hAr, fA⟩⟩
  obtain ⟨t, a1, b1⟩ := kk H.size (fun i => H.size + 1 + i) cA F.heap (fun i j _ _ h => by have h9 : H.size + 1 + i = H.size + 1 + j := h; omega) hnl hK2 (by rw [← vr_rows hnm]; exact vr_lay hP2) (by rw [← vr_rows hnm]; exact vr_layD hD2) ⟨by rw [f1]; have := hS.1; omega, fun x h1 h2 => (hold x (Nat.lt_of_lt_of_le h1 hS.1)).trans (hS.2.1 x h1 h2), hS.2.2⟩ F rfl X'
  refine ⟨t, step t ?_, b1⟩
  have e : T.heap.size = H.size := by rw [hT]
  rw [e]
  exact a1
end VGM
/-! ===== END ===== -/
end
section
def RX0 : String := "RagVats$Mill"
def TX0 : u_T := fun k => match k with
  | 0 => ("RagVats$Mill", "day", "I", false)
  | 1 => ("RagVats$Mill", "coins", "I", false)
  | 2 => ("RagVats$Mill", "felts", "I", false)
  | 3 => ("RagVats$Mill", "made", "I", false)
  | 4 => ("RagVats$Mill", "worth", "I", false)
  | 5 => ("RagVats$Mill", "rags", "[I", true)
  | 6 => ("RagVats$Mill", "water", "[I", true)
  | 7 => ("RagVats$Mill", "vats", "LRagVats$Vats;", true)
  | 8 => ("RagVats$Mill", "moulds", "LRagVats$Moulds;", true)
  | 9 => ("RagVats$Mill", "teams", "LRagVats$Teams;", true)
  | 10 => ("RagVats$Mill", "posts", "LRagVats$Posts;", true)
  | _ => ("RagVats$Mill", "loft", "[I", true)
def tyX0 : Nat → FieldType := fun k => match k with
  | 0 => .int
  | 1 => .int
  | 2 => .int
  | 3 => .int
  | 4 => .int
  | 5 => .array .int
  | 6 => .array .int
  | 7 => .object "RagVats$Vats"
  | 8 => .object "RagVats$Moulds"
  | 9 => .object "RagVats$Teams"
  | 10 => .object "RagVats$Posts"
  | _ => .array .int
abbrev wsX00 : List Cond := u_ws RX0 TX0 12
abbrev cX0_init : ByteArray := prog_2_method_1_code
def yX0_init : MethodName := ⟨RX0, "<init>", "()V"⟩
abbrev cX0_becomeLike : ByteArray := prog_2_method_2_code
def yX0_becomeLike : MethodName := ⟨RX0, "becomeLike", "(LRagVats$Mill;)V"⟩
abbrev cX0_takeIn : ByteArray := prog_2_method_3_code
def yX0_takeIn : MethodName := ⟨RX0, "takeIn", "(II)I"⟩
abbrev cX0_freeFelts : ByteArray := prog_2_method_4_code
def yX0_freeFelts : MethodName := ⟨RX0, "freeFelts", "()I"⟩
abbrev cX0_hanging : ByteArray := prog_2_method_5_code
def yX0_hanging : MethodName := ⟨RX0, "hanging", "(II)I"⟩
abbrev cX0_hang : ByteArray := prog_2_method_6_code
def yX0_hang : MethodName := ⟨RX0, "hang", "(III)V"⟩
abbrev cX0_tell : ByteArray := prog_2_method_7_code
def yX0_tell : MethodName := ⟨RX0, "tell", "(I)I"⟩
abbrev cX0_tellPair : ByteArray := prog_2_method_8_code
def yX0_tellPair : MethodName := ⟨RX0, "tellPair", "(II)I"⟩
abbrev cX0_tellTeam : ByteArray := prog_2_method_9_code
def yX0_tellTeam : MethodName := ⟨RX0, "tellTeam", "(II)I"⟩
abbrev cX0_sheetsOf : ByteArray := prog_2_method_10_code
def yX0_sheetsOf : MethodName := ⟨RX0, "sheetsOf", "(I)I"⟩
abbrev cX0_liveDays : ByteArray := prog_2_method_11_code
def yX0_liveDays : MethodName := ⟨RX0, "liveDays", "(I)V"⟩
abbrev cX0_liveDay : ByteArray := prog_2_method_12_code
def yX0_liveDay : MethodName := ⟨RX0, "liveDay", "()V"⟩
abbrev cX0_makeSheets : ByteArray := prog_2_method_13_code
def yX0_makeSheets : MethodName := ⟨RX0, "makeSheets", "(I)V"⟩
abbrev cX0_gradeOf : ByteArray := prog_2_method_14_code
def yX0_gradeOf : MethodName := ⟨RX0, "gradeOf", "(II)I"⟩
abbrev cX0_pointsOf : ByteArray := prog_2_method_15_code
def yX0_pointsOf : MethodName := ⟨RX0, "pointsOf", "(I)I"⟩
abbrev cX0_pressPosts : ByteArray := prog_2_method_16_code
def yX0_pressPosts : MethodName := ⟨RX0, "pressPosts", "()V"⟩
abbrev cX0_allHanging : ByteArray := prog_2_method_17_code
def yX0_allHanging : MethodName := ⟨RX0, "allHanging", "()I"⟩
abbrev cX0_poundsOf : ByteArray := prog_2_method_18_code
def yX0_poundsOf : MethodName := ⟨RX0, "poundsOf", "(I)I"⟩
def RX1 : String := "RagVats$Moulds"
def TX1 : u_T := fun k => match k with
  | 0 => ("RagVats$Moulds", "number", "I", false)
  | 1 => ("RagVats$Moulds", "mark", "[I", true)
  | 2 => ("RagVats$Moulds", "size", "[I", true)
  | _ => ("RagVats$Moulds", "worn", "[I", true)
def tyX1 : Nat → FieldType := fun k => match k with
  | 0 => .int
  | 1 => .array .int
  | 2 => .array .int
  | _ => .array .int
abbrev wsX10 : List Cond := u_ws RX1 TX1 4
abbrev cX1_init : ByteArray := prog_3_method_1_code
def yX1_init : MethodName := ⟨RX1, "<init>", "()V"⟩
abbrev cX1_becomeLike : ByteArray := prog_3_method_2_code
def yX1_becomeLike : MethodName := ⟨RX1, "becomeLike", "(LRagVats$Moulds;)V"⟩
abbrev cX1_has : ByteArray := prog_3_method_3_code
def yX1_has : MethodName := ⟨RX1, "has", "(I)Z"⟩
abbrev cX1_add : ByteArray := prog_3_method_4_code
def yX1_add : MethodName := ⟨RX1, "add", "(II)I"⟩
abbrev cX1_markOf : ByteArray := prog_3_method_5_code
def yX1_markOf : MethodName := ⟨RX1, "markOf", "(I)I"⟩
abbrev cX1_sizeOf : ByteArray := prog_3_method_6_code
def yX1_sizeOf : MethodName := ⟨RX1, "sizeOf", "(I)I"⟩
abbrev cX1_wornOf : ByteArray := prog_3_method_7_code
def yX1_wornOf : MethodName := ⟨RX1, "wornOf", "(I)I"⟩
abbrev cX1_makeNew : ByteArray := prog_3_method_8_code
def yX1_makeNew : MethodName := ⟨RX1, "makeNew", "(I)V"⟩
abbrev cX1_wearBySheets : ByteArray := prog_3_method_9_code
def yX1_wearBySheets : MethodName := ⟨RX1, "wearBySheets", "(II)V"⟩
def RX2 : String := "RagVats$Posts"
def TX2 : u_T := fun k => match k with
  | 0 => ("RagVats$Posts", "number", "I", false)
  | 1 => ("RagVats$Posts", "allSheets", "I", false)
  | 2 => ("RagVats$Posts", "mark", "[I", true)
  | 3 => ("RagVats$Posts", "grade", "[I", true)
  | _ => ("RagVats$Posts", "sheets", "[I", true)
def tyX2 : Nat → FieldType := fun k => match k with
  | 0 => .int
  | 1 => .int
  | 2 => .array .int
  | 3 => .array .int
  | _ => .array .int
abbrev wsX20 : List Cond := u_ws RX2 TX2 5
abbrev cX2_init : ByteArray := prog_4_method_1_code
def yX2_init : MethodName := ⟨RX2, "<init>", "()V"⟩
abbrev cX2_becomeLike : ByteArray := prog_4_method_2_code
def yX2_becomeLike : MethodName := ⟨RX2, "becomeLike", "(LRagVats$Posts;)V"⟩
abbrev cX2_has : ByteArray := prog_4_method_3_code
def yX2_has : MethodName := ⟨RX2, "has", "(I)Z"⟩
abbrev cX2_add : ByteArray := prog_4_method_4_code
def yX2_add : MethodName := ⟨RX2, "add", "(III)V"⟩
abbrev cX2_tell : ByteArray := prog_4_method_5_code
def yX2_tell : MethodName := ⟨RX2, "tell", "(II)I"⟩
abbrev cX2_markOf : ByteArray := prog_4_method_6_code
def yX2_markOf : MethodName := ⟨RX2, "markOf", "(I)I"⟩
abbrev cX2_gradeOf : ByteArray := prog_4_method_7_code
def yX2_gradeOf : MethodName := ⟨RX2, "gradeOf", "(I)I"⟩
abbrev cX2_sheetsOf : ByteArray := prog_4_method_8_code
def yX2_sheetsOf : MethodName := ⟨RX2, "sheetsOf", "(I)I"⟩
abbrev cX2_takeOff : ByteArray := prog_4_method_9_code
def yX2_takeOff : MethodName := ⟨RX2, "takeOff", "(II)V"⟩
abbrev cX2_dropEmptyOnes : ByteArray := prog_4_method_10_code
def yX2_dropEmptyOnes : MethodName := ⟨RX2, "dropEmptyOnes", "()V"⟩
def RX3 : String := "RagVats$Teams"
def TX3 : u_T := fun k => match k with
  | 0 => ("RagVats$Teams", "number", "I", false)
  | 1 => ("RagVats$Teams", "skill", "[I", true)
  | 2 => ("RagVats$Teams", "vat", "[I", true)
  | _ => ("RagVats$Teams", "pair", "[I", true)
def tyX3 : Nat → FieldType := fun k => match k with
  | 0 => .int
  | 1 => .array .int
  | 2 => .array .int
  | _ => .array .int
abbrev wsX30 : List Cond := u_ws RX3 TX3 4
abbrev cX3_init : ByteArray := prog_5_method_1_code
def yX3_init : MethodName := ⟨RX3, "<init>", "()V"⟩
abbrev cX3_becomeLike : ByteArray := prog_5_method_2_code
def yX3_becomeLike : MethodName := ⟨RX3, "becomeLike", "(LRagVats$Teams;)V"⟩
abbrev cX3_has : ByteArray := prog_5_method_3_code
def yX3_has : MethodName := ⟨RX3, "has", "(I)Z"⟩
abbrev cX3_add : ByteArray := prog_5_method_4_code
def yX3_add : MethodName := ⟨RX3, "add", "(I)I"⟩
abbrev cX3_skillOf : ByteArray := prog_5_method_5_code
def yX3_skillOf : MethodName := ⟨RX3, "skillOf", "(I)I"⟩
abbrev cX3_vatOf : ByteArray := prog_5_method_6_code
def yX3_vatOf : MethodName := ⟨RX3, "vatOf", "(I)I"⟩
abbrev cX3_pairOf : ByteArray := prog_5_method_7_code
def yX3_pairOf : MethodName := ⟨RX3, "pairOf", "(I)I"⟩
abbrev cX3_send : ByteArray := prog_5_method_8_code
def yX3_send : MethodName := ⟨RX3, "send", "(III)V"⟩
abbrev cX3_holderOf : ByteArray := prog_5_method_9_code
def yX3_holderOf : MethodName := ⟨RX3, "holderOf", "(I)I"⟩
def RX4 : String := "RagVats$Vats"
def TX4 : u_T := fun k => match k with
  | 0 => ("RagVats$Vats", "pulp", "[I", true)
  | 1 => ("RagVats$Vats", "beat", "[I", true)
  | _ => ("RagVats$Vats", "sort", "[I", true)
def tyX4 : Nat → FieldType := fun k => match k with
  | 0 => .array .int
  | 1 => .array .int
  | _ => .array .int
abbrev wsX40 : List Cond := u_ws RX4 TX4 3
abbrev cX4_init : ByteArray := prog_6_method_1_code
def yX4_init : MethodName := ⟨RX4, "<init>", "()V"⟩
abbrev cX4_becomeLike : ByteArray := prog_6_method_2_code
def yX4_becomeLike : MethodName := ⟨RX4, "becomeLike", "(LRagVats$Vats;)V"⟩
abbrev cX4_pulpOf : ByteArray := prog_6_method_3_code
def yX4_pulpOf : MethodName := ⟨RX4, "pulpOf", "(I)I"⟩
abbrev cX4_beatOf : ByteArray := prog_6_method_4_code
def yX4_beatOf : MethodName := ⟨RX4, "beatOf", "(I)I"⟩
abbrev cX4_sortOf : ByteArray := prog_6_method_5_code
def yX4_sortOf : MethodName := ⟨RX4, "sortOf", "(I)I"⟩
abbrev cX4_tell : ByteArray := prog_6_method_6_code
def yX4_tell : MethodName := ⟨RX4, "tell", "(II)I"⟩
abbrev cX4_charge : ByteArray := prog_6_method_7_code
def yX4_charge : MethodName := ⟨RX4, "charge", "(III)V"⟩
abbrev cX4_takeOut : ByteArray := prog_6_method_8_code
def yX4_takeOut : MethodName := ⟨RX4, "takeOut", "(II)V"⟩
abbrev cX4_allPulp : ByteArray := prog_6_method_9_code
def yX4_allPulp : MethodName := ⟨RX4, "allPulp", "()I"⟩
abbrev cX4_beatAll : ByteArray := prog_6_method_10_code
def yX4_beatAll : MethodName := ⟨RX4, "beatAll", "(I)V"⟩
abbrev cX4_numberWithPulp : ByteArray := prog_6_method_11_code
def yX4_numberWithPulp : MethodName := ⟨RX4, "numberWithPulp", "()I"⟩
def RX5 : String := "RagVats"
def TX5 : u_T := fun k => match k with
  | 0 => ("RagVats", "mill", "LRagVats$Mill;", true)
  | _ => ("RagVats", "trial", "LRagVats$Mill;", true)
def tyX5 : Nat → FieldType := fun k => match k with
  | 0 => .object "RagVats$Mill"
  | _ => .object "RagVats$Mill"
abbrev wsX50 : List Cond := u_ws RX5 TX5 2
abbrev cX5_init : ByteArray := prog_1_method_1_code
def yX5_init : MethodName := ⟨RX5, "<init>", "()V"⟩
abbrev cX5_buy : ByteArray := prog_1_method_2_code
def yX5_buy : MethodName := ⟨RX5, "buy", "(II)I"⟩
abbrev cX5_sell : ByteArray := prog_1_method_3_code
def yX5_sell : MethodName := ⟨RX5, "sell", "(III)I"⟩
abbrev cX5_fill : ByteArray := prog_1_method_4_code
def yX5_fill : MethodName := ⟨RX5, "fill", "(III)I"⟩
abbrev cX5_drain : ByteArray := prog_1_method_5_code
def yX5_drain : MethodName := ⟨RX5, "drain", "(I)I"⟩
abbrev cX5_pair : ByteArray := prog_1_method_6_code
def yX5_pair : MethodName := ⟨RX5, "pair", "(II)I"⟩
abbrev cX5_wire : ByteArray := prog_1_method_7_code
def yX5_wire : MethodName := ⟨RX5, "wire", "(I)I"⟩
abbrev cX5_team : ByteArray := prog_1_method_8_code
def yX5_team : MethodName := ⟨RX5, "team", "(I)I"⟩
abbrev cX5_place : ByteArray := prog_1_method_9_code
def yX5_place : MethodName := ⟨RX5, "place", "(III)I"⟩
abbrev cX5_setWater : ByteArray := prog_1_method_10_code
def yX5_setWater : MethodName := ⟨RX5, "setWater", "(II)I"⟩
abbrev cX5_about : ByteArray := prog_1_method_11_code
def yX5_about : MethodName := ⟨RX5, "about", "(II)I"⟩
abbrev cX5_mould : ByteArray := prog_1_method_12_code
def yX5_mould : MethodName := ⟨RX5, "mould", "(II)I"⟩
abbrev cX5_told : ByteArray := prog_1_method_13_code
def yX5_told : MethodName := ⟨RX5, "told", "(II)I"⟩
abbrev cX5_post : ByteArray := prog_1_method_14_code
def yX5_post : MethodName := ⟨RX5, "post", "(II)I"⟩
abbrev cX5_loft : ByteArray := prog_1_method_15_code
def yX5_loft : MethodName := ⟨RX5, "loft", "(II)I"⟩
abbrev cX5_count : ByteArray := prog_1_method_16_code
def yX5_count : MethodName := ⟨RX5, "count", "(I)I"⟩
abbrev cX5_pass : ByteArray := prog_1_method_17_code
def yX5_pass : MethodName := ⟨RX5, "pass", "(I)I"⟩
abbrev cX5_ripe : ByteArray := prog_1_method_18_code
def yX5_ripe : MethodName := ⟨RX5, "ripe", "(II)I"⟩
abbrev cX5_foresee : ByteArray := prog_1_method_19_code
def yX5_foresee : MethodName := ⟨RX5, "foresee", "(II)I"⟩
abbrev cX5_mean : ByteArray := prog_1_method_21_code
def yX5_mean : MethodName := ⟨RX5, "mean", "()D"⟩
abbrev cX5_isBelow : ByteArray := prog_1_method_23_code
def yX5_isBelow : MethodName := ⟨RX5, "isBelow", "(II)Z"⟩
abbrev cX5_isFrom1To : ByteArray := prog_1_method_24_code
def yX5_isFrom1To : MethodName := ⟨RX5, "isFrom1To", "(II)Z"⟩
abbrev cX5_worthOf : ByteArray := prog_1_method_25_code
def yX5_worthOf : MethodName := ⟨RX5, "worthOf", "(I)I"⟩
def RX6 : String := "RagVatsLaw$Sim"
def TX6 : u_T := fun k => match k with
  | 0 => ("RagVatsLaw$Sim", "day", "I", false)
  | 1 => ("RagVatsLaw$Sim", "coins", "I", false)
  | 2 => ("RagVatsLaw$Sim", "felts", "I", false)
  | 3 => ("RagVatsLaw$Sim", "made", "I", false)
  | 4 => ("RagVatsLaw$Sim", "worth", "I", false)
  | 5 => ("RagVatsLaw$Sim", "water", "[I", false)
  | 6 => ("RagVatsLaw$Sim", "rags", "[I", false)
  | 7 => ("RagVatsLaw$Sim", "vats", "[[I", false)
  | 8 => ("RagVatsLaw$Sim", "pairs", "[[I", false)
  | 9 => ("RagVatsLaw$Sim", "teams", "[[I", false)
  | 10 => ("RagVatsLaw$Sim", "posts", "[[I", false)
  | _ => ("RagVatsLaw$Sim", "loft", "[[I", false)
def tyX6 : Nat → FieldType := fun k => match k with
  | 0 => .int
  | 1 => .int
  | 2 => .int
  | 3 => .int
  | 4 => .int
  | 5 => .array .int
  | 6 => .array .int
  | 7 => .array (.array .int)
  | 8 => .array (.array .int)
  | 9 => .array (.array .int)
  | 10 => .array (.array .int)
  | _ => .array (.array .int)
abbrev wsX60 : List Cond := u_ws RX6 TX6 12
abbrev cX6_init : ByteArray := prog_8_method_1_code
def yX6_init : MethodName := ⟨RX6, "<init>", "()V"⟩
abbrev cX6_more : ByteArray := prog_8_method_3_code
def yX6_more : MethodName := ⟨RX6, "more", "([[I[I)[[I"⟩
abbrev cX6_free : ByteArray := prog_8_method_5_code
def yX6_free : MethodName := ⟨RX6, "free", "()I"⟩
abbrev cX6_makes : ByteArray := prog_8_method_6_code
def yX6_makes : MethodName := ⟨RX6, "makes", "([I)I"⟩
abbrev cX6_worth : ByteArray := prog_8_method_7_code
def yX6_worth : MethodName := ⟨RX6, "worth", "(I)I"⟩
abbrev cX6_pass : ByteArray := prog_8_method_8_code
def yX6_pass : MethodName := ⟨RX6, "pass", "()I"⟩
abbrev cX6_told : ByteArray := prog_8_method_9_code
def yX6_told : MethodName := ⟨RX6, "told", "(I)I"⟩
abbrev cX6_isSame : ByteArray := prog_8_method_10_code
def yX6_isSame : MethodName := ⟨RX6, "isSame", "(LRagVats;)Z"⟩
def RX7 : String := "RagVatsModel"
def TX7 : u_T := fun k => match k with
  | _ => ("", "", "", false)
def tyX7 : Nat → FieldType := fun k => match k with
  | _ => .int
abbrev wsX70 : List Cond := u_ws RX7 TX7 0
def RJx145de : String := "java/io/Serializable"
def TJx145de : u_T := fun k => match k with
  | _ => ("", "", "", false)
def tyJx145de : Nat → FieldType := fun k => match k with
  | _ => .int
abbrev wsJx145de0 : List Cond := u_ws RJx145de TJx145de 0
def RJx8e188 : String := "java/lang/Cloneable"
def TJx8e188 : u_T := fun k => match k with
  | _ => ("", "", "", false)
def tyJx8e188 : Nat → FieldType := fun k => match k with
  | _ => .int
abbrev wsJx8e1880 : List Cond := u_ws RJx8e188 TJx8e188 0
def RJ9 : String := "java/lang/Math"
def TJ9 : u_T := fun k => match k with
  | _ => ("", "", "", false)
def tyJ9 : Nat → FieldType := fun k => match k with
  | _ => .int
abbrev wsJ90 : List Cond := u_ws RJ9 TJ9 0
abbrev cJ9_floorMod_7cf53 : ByteArray := prog_15_method_50_code
def yJ9_floorMod_7cf53 : MethodName := ⟨RJ9, "floorMod", "(II)I"⟩
abbrev cJ9_min_7cf53 : ByteArray := prog_15_method_69_code
def yJ9_min_7cf53 : MethodName := ⟨RJ9, "min", "(II)I"⟩
def RJ0 : String := "java/lang/String"
def TJ0 : u_T := fun k => match k with
  | _ => ("", "", "", false)
def tyJ0 : Nat → FieldType := fun k => match k with
  | _ => .int
abbrev wsJ00 : List Cond := u_ws RJ0 TJ0 0
def RJ10 : String := "java/lang/System"
def TJ10 : u_T := fun k => match k with
  | _ => ("", "", "", false)
def tyJ10 : Nat → FieldType := fun k => match k with
  | _ => .int
abbrev wsJ100 : List Cond := u_ws RJ10 TJ10 0
def RJ7 : String := "java/util/Arrays"
def TJ7 : u_T := fun k => match k with
  | _ => ("", "", "", false)
def tyJ7 : Nat → FieldType := fun k => match k with
  | _ => .int
abbrev wsJ70 : List Cond := u_ws RJ7 TJ7 0
abbrev cJ7_fill_53178 : ByteArray := prog_20_method_103_code
def yJ7_fill_53178 : MethodName := ⟨RJ7, "fill", "([II)V"⟩
def RL : String := "RagVatsLaw"
abbrev cL_below : ByteArray := method_2_code
def yL_below : MethodName := ⟨RL, "below", "(II)I"⟩
abbrev cL_cell : ByteArray := method_3_code
def yL_cell : MethodName := ⟨RL, "cell", "([II)I"⟩
abbrev cL_act : ByteArray := method_4_code
def yL_act : MethodName := ⟨RL, "act", "(LRagVats;LRagVatsLaw$Sim;I)Z"⟩
abbrev cL_build : ByteArray := method_5_code
def yL_build : MethodName := ⟨RL, "build", "(LRagVats;[I)LRagVatsLaw$Sim;"⟩
abbrev cL_law : ByteArray := code
def yL_law : MethodName := ⟨RL, "law", "([I)Z"⟩
def wsJ7_fill_53178 : List Cond := .code yJ7_fill_53178 cJ7_fill_53178 4 none :: ([])
def wsX4_init : List Cond := .code yX4_init cX4_init 1 none :: ([.methodLink RX4 3 objectInit, .instanceMethod objectInit, .code objectInit ⟨#[0xb1]⟩ 1 none, .arrayClass .int, .fieldLink RX4 9 "RagVats$Vats" "pulp" "[I", .fieldLink RX4 15 "RagVats$Vats" "beat" "[I", .fieldLink RX4 18 "RagVats$Vats" "sort" "[I", .methodLink RX4 21 yJ7_fill_53178, .static yJ7_fill_53178, .initialized RJ7, .code yJ7_fill_53178 cJ7_fill_53178 4 none] ++ wsX40)
def wsX1_init : List Cond := .code yX1_init cX1_init 1 none :: ([.methodLink RX1 3 objectInit, .instanceMethod objectInit, .code objectInit ⟨#[0xb1]⟩ 1 none, .fieldLink RX1 9 "RagVats$Moulds" "number" "I", .arrayClass .int, .fieldLink RX1 15 "RagVats$Moulds" "mark" "[I", .fieldLink RX1 19 "RagVats$Moulds" "size" "[I", .fieldLink RX1 22 "RagVats$Moulds" "worn" "[I"] ++ wsX10)
def wsX3_init : List Cond := .code yX3_init cX3_init 1 none :: ([.methodLink RX3 3 objectInit, .instanceMethod objectInit, .code objectInit ⟨#[0xb1]⟩ 1 none, .fieldLink RX3 9 "RagVats$Teams" "number" "I", .arrayClass .int, .fieldLink RX3 15 "RagVats$Teams" "skill" "[I", .fieldLink RX3 19 "RagVats$Teams" "vat" "[I", .fieldLink RX3 22 "RagVats$Teams" "pair" "[I"] ++ wsX30)
def wsX2_init : List Cond := .code yX2_init cX2_init 1 none :: ([.methodLink RX2 3 objectInit, .instanceMethod objectInit, .code objectInit ⟨#[0xb1]⟩ 1 none, .fieldLink RX2 9 "RagVats$Posts" "number" "I", .fieldLink RX2 15 "RagVats$Posts" "allSheets" "I", .arrayClass .int, .fieldLink RX2 18 "RagVats$Posts" "mark" "[I", .fieldLink RX2 22 "RagVats$Posts" "grade" "[I", .fieldLink RX2 25 "RagVats$Posts" "sheets" "[I"] ++ wsX20)
def wsX0_init_r1 : List Cond := [Cond.methodLink RX0 3 objectInit, Cond.instanceMethod objectInit, Cond.code objectInit ⟨#[0xb1]⟩ 1 none, Cond.fieldLink RX0 9 "RagVats$Mill" "day" "I", Cond.fieldLink RX0 15 "RagVats$Mill" "coins" "I", Cond.fieldLink RX0 18 "RagVats$Mill" "felts" "I", Cond.fieldLink RX0 21 "RagVats$Mill" "made" "I", Cond.fieldLink RX0 24 "RagVats$Mill" "worth" "I", Cond.arrayClass .int, Cond.fieldLink RX0 27 "RagVats$Mill" "rags" "[I", Cond.fieldLink RX0 31 "RagVats$Mill" "water" "[I", Cond.classLink RX0 34 RX4, Cond.instantiable RX4 3, Cond.initialized RX4, Cond.fieldLink RX0 37 "RagVats$Mill" "vats" "LRagVats$Vats;", Cond.classLink RX0 41 RX1, Cond.instantiable RX1 4, Cond.initialized RX1, Cond.fieldLink RX0 44 "RagVats$Mill" "moulds" "LRagVats$Moulds;", Cond.classLink RX0 48 RX3, Cond.instantiable RX3 4, Cond.initialized RX3, Cond.fieldLink RX0 51 "RagVats$Mill" "teams" "LRagVats$Teams;", Cond.classLink RX0 55 RX2]
def wsX0_init_r2 : List Cond := [Cond.instantiable RX2 5, Cond.initialized RX2, Cond.fieldLink RX0 58 "RagVats$Mill" "posts" "LRagVats$Posts;", Cond.fieldLink RX0 62 "RagVats$Mill" "loft" "[I", Cond.methodLink RX0 36 yX4_init, Cond.instanceMethod yX4_init, Cond.code yX4_init cX4_init 1 none, Cond.methodLink RX4 3 objectInit, Cond.fieldLink RX4 9 "RagVats$Vats" "pulp" "[I", Cond.fieldLink RX4 15 "RagVats$Vats" "beat" "[I", Cond.fieldLink RX4 18 "RagVats$Vats" "sort" "[I", Cond.methodLink RX4 21 yJ7_fill_53178, Cond.static yJ7_fill_53178, Cond.initialized RJ7, Cond.code yJ7_fill_53178 cJ7_fill_53178 4 none, Cond.instanceMethod yX1_init, Cond.code yX1_init cX1_init 1 none, Cond.methodLink RX1 3 objectInit, Cond.fieldLink RX1 9 "RagVats$Moulds" "number" "I", Cond.fieldLink RX1 15 "RagVats$Moulds" "mark" "[I", Cond.fieldLink RX1 19 "RagVats$Moulds" "size" "[I", Cond.fieldLink RX1 22 "RagVats$Moulds" "worn" "[I", Cond.instanceMethod yX3_init, Cond.code yX3_init cX3_init 1 none]
def wsX0_init_r3 : List Cond := [Cond.methodLink RX3 3 objectInit, Cond.fieldLink RX3 9 "RagVats$Teams" "number" "I", Cond.fieldLink RX3 15 "RagVats$Teams" "skill" "[I", Cond.fieldLink RX3 19 "RagVats$Teams" "vat" "[I", Cond.fieldLink RX3 22 "RagVats$Teams" "pair" "[I", Cond.instanceMethod yX2_init, Cond.code yX2_init cX2_init 1 none, Cond.methodLink RX2 3 objectInit, Cond.fieldLink RX2 9 "RagVats$Posts" "number" "I", Cond.fieldLink RX2 15 "RagVats$Posts" "allSheets" "I", Cond.fieldLink RX2 18 "RagVats$Posts" "mark" "[I", Cond.fieldLink RX2 22 "RagVats$Posts" "grade" "[I", Cond.fieldLink RX2 25 "RagVats$Posts" "sheets" "[I", Cond.methodLink RX0 65 yJ7_fill_53178]
def wsX0_init : List Cond := .code yX0_init cX0_init 1 none :: ((wsX0_init_r1 ++ (wsX0_init_r2 ++ wsX0_init_r3)) ++ wsX00 ++ wsX40 ++ wsX10 ++ wsX30 ++ wsX20)
def wsX4_becomeLike : List Cond := .code yX4_becomeLike cX4_becomeLike 2 none :: ([.fieldLink RX4 9 "RagVats$Vats" "pulp" "[I", .methodLink RX4 27 arraycopyName, .native arraycopyName, .static arraycopyName, .initialized "java/lang/System", .fieldLink RX4 15 "RagVats$Vats" "beat" "[I", .fieldLink RX4 18 "RagVats$Vats" "sort" "[I"] ++ wsX40)
def wsX1_becomeLike : List Cond := .code yX1_becomeLike cX1_becomeLike 2 none :: ([.fieldLink RX1 9 "RagVats$Moulds" "number" "I", .fieldLink RX1 15 "RagVats$Moulds" "mark" "[I", .methodLink RX1 25 arraycopyName, .native arraycopyName, .static arraycopyName, .initialized "java/lang/System", .fieldLink RX1 19 "RagVats$Moulds" "size" "[I", .fieldLink RX1 22 "RagVats$Moulds" "worn" "[I"] ++ wsX10)
def wsX3_becomeLike : List Cond := .code yX3_becomeLike cX3_becomeLike 2 none :: ([.fieldLink RX3 9 "RagVats$Teams" "number" "I", .fieldLink RX3 15 "RagVats$Teams" "skill" "[I", .methodLink RX3 25 arraycopyName, .native arraycopyName, .static arraycopyName, .initialized "java/lang/System", .fieldLink RX3 19 "RagVats$Teams" "vat" "[I", .fieldLink RX3 22 "RagVats$Teams" "pair" "[I"] ++ wsX30)
def wsX2_becomeLike : List Cond := .code yX2_becomeLike cX2_becomeLike 2 none :: ([.fieldLink RX2 9 "RagVats$Posts" "number" "I", .fieldLink RX2 15 "RagVats$Posts" "allSheets" "I", .fieldLink RX2 18 "RagVats$Posts" "mark" "[I", .methodLink RX2 28 arraycopyName, .native arraycopyName, .static arraycopyName, .initialized "java/lang/System", .fieldLink RX2 22 "RagVats$Posts" "grade" "[I", .fieldLink RX2 25 "RagVats$Posts" "sheets" "[I"] ++ wsX20)
def wsX0_becomeLike_r1 : List Cond := [Cond.fieldLink RX0 9 "RagVats$Mill" "day" "I", Cond.fieldLink RX0 15 "RagVats$Mill" "coins" "I", Cond.fieldLink RX0 18 "RagVats$Mill" "felts" "I", Cond.fieldLink RX0 21 "RagVats$Mill" "made" "I", Cond.fieldLink RX0 24 "RagVats$Mill" "worth" "I", Cond.fieldLink RX0 27 "RagVats$Mill" "rags" "[I", Cond.methodLink RX0 71 arraycopyName, Cond.native arraycopyName, Cond.static arraycopyName, Cond.initialized "java/lang/System", Cond.fieldLink RX0 31 "RagVats$Mill" "water" "[I", Cond.fieldLink RX0 37 "RagVats$Mill" "vats" "LRagVats$Vats;", Cond.fieldLink RX0 44 "RagVats$Mill" "moulds" "LRagVats$Moulds;", Cond.fieldLink RX0 51 "RagVats$Mill" "teams" "LRagVats$Teams;", Cond.fieldLink RX0 58 "RagVats$Mill" "posts" "LRagVats$Posts;", Cond.fieldLink RX0 62 "RagVats$Mill" "loft" "[I", Cond.methodLink RX0 77 yX4_becomeLike, Cond.instanceMethod yX4_becomeLike, Cond.selects RX4 yX4_becomeLike yX4_becomeLike, Cond.initialized RX4, Cond.code yX4_becomeLike cX4_becomeLike 2 none, Cond.fieldLink RX4 9 "RagVats$Vats" "pulp" "[I", Cond.methodLink RX4 27 arraycopyName, Cond.fieldLink RX4 15 "RagVats$Vats" "beat" "[I"]
def wsX0_becomeLike_r2 : List Cond := [Cond.fieldLink RX4 18 "RagVats$Vats" "sort" "[I", Cond.methodLink RX0 81 yX1_becomeLike, Cond.instanceMethod yX1_becomeLike, Cond.selects RX1 yX1_becomeLike yX1_becomeLike, Cond.initialized RX1, Cond.code yX1_becomeLike cX1_becomeLike 2 none, Cond.fieldLink RX1 9 "RagVats$Moulds" "number" "I", Cond.fieldLink RX1 15 "RagVats$Moulds" "mark" "[I", Cond.methodLink RX1 25 arraycopyName, Cond.fieldLink RX1 19 "RagVats$Moulds" "size" "[I", Cond.fieldLink RX1 22 "RagVats$Moulds" "worn" "[I", Cond.methodLink RX0 84 yX3_becomeLike, Cond.instanceMethod yX3_becomeLike, Cond.selects RX3 yX3_becomeLike yX3_becomeLike, Cond.initialized RX3, Cond.code yX3_becomeLike cX3_becomeLike 2 none, Cond.fieldLink RX3 9 "RagVats$Teams" "number" "I", Cond.fieldLink RX3 15 "RagVats$Teams" "skill" "[I", Cond.methodLink RX3 25 arraycopyName, Cond.fieldLink RX3 19 "RagVats$Teams" "vat" "[I", Cond.fieldLink RX3 22 "RagVats$Teams" "pair" "[I", Cond.methodLink RX0 87 yX2_becomeLike, Cond.instanceMethod yX2_becomeLike, Cond.selects RX2 yX2_becomeLike yX2_becomeLike]
def wsX0_becomeLike_r3 : List Cond := [Cond.initialized RX2, Cond.code yX2_becomeLike cX2_becomeLike 2 none, Cond.fieldLink RX2 9 "RagVats$Posts" "number" "I", Cond.fieldLink RX2 15 "RagVats$Posts" "allSheets" "I", Cond.fieldLink RX2 18 "RagVats$Posts" "mark" "[I", Cond.methodLink RX2 28 arraycopyName, Cond.fieldLink RX2 22 "RagVats$Posts" "grade" "[I", Cond.fieldLink RX2 25 "RagVats$Posts" "sheets" "[I"]
def wsX0_becomeLike : List Cond := .code yX0_becomeLike cX0_becomeLike 2 none :: ((wsX0_becomeLike_r1 ++ (wsX0_becomeLike_r2 ++ wsX0_becomeLike_r3)) ++ wsX00 ++ wsX40 ++ wsX10 ++ wsX30 ++ wsX20)
def wsX5_isBelow : List Cond := .code yX5_isBelow cX5_isBelow 2 (some .boolean) :: ([])
def wsX0_takeIn : List Cond := .code yX0_takeIn cX0_takeIn 3 (some .int) :: ([.fieldLink RX0 18 "RagVats$Mill" "felts" "I", .fieldLink RX0 27 "RagVats$Mill" "rags" "[I", .static yX5_isBelow, .initialized RX5, .code yX5_isBelow cX5_isBelow 2 (some .boolean)] ++ wsX00)
def wsX0_freeFelts : List Cond := .code yX0_freeFelts cX0_freeFelts 1 (some .int) :: ([.fieldLink RX0 18 "RagVats$Mill" "felts" "I", .fieldLink RX0 58 "RagVats$Mill" "posts" "LRagVats$Posts;"] ++ wsX00 ++ wsX20)
def wsX0_hanging : List Cond := .code yX0_hanging cX0_hanging 3 (some .int) :: ([.fieldLink RX0 62 "RagVats$Mill" "loft" "[I", .static yX5_isBelow, .initialized RX5, .code yX5_isBelow cX5_isBelow 2 (some .boolean)] ++ wsX00)
def wsX0_hang : List Cond := .code yX0_hang cX0_hang 4 none :: ([.fieldLink RX0 62 "RagVats$Mill" "loft" "[I", .static yX5_isBelow, .initialized RX5, .code yX5_isBelow cX5_isBelow 2 (some .boolean)] ++ wsX00)
def wsX0_allHanging : List Cond := .code yX0_allHanging cX0_allHanging 3 (some .int) :: ([.fieldLink RX0 62 "RagVats$Mill" "loft" "[I"] ++ wsX00)
def wsX4_allPulp : List Cond := .code yX4_allPulp cX4_allPulp 3 (some .int) :: ([.fieldLink RX4 9 "RagVats$Vats" "pulp" "[I"] ++ wsX40)
def wsX0_poundsOf : List Cond := .code yX0_poundsOf cX0_poundsOf 2 (some .int) :: ([.fieldLink RX0 27 "RagVats$Mill" "rags" "[I", .static yX5_isBelow, .initialized RX5, .code yX5_isBelow cX5_isBelow 2 (some .boolean)] ++ wsX00)
def wsX0_tell_r1 : List Cond := [Cond.fieldLink RX0 9 "RagVats$Mill" "day" "I", Cond.fieldLink RX0 15 "RagVats$Mill" "coins" "I", Cond.fieldLink RX0 18 "RagVats$Mill" "felts" "I", Cond.fieldLink RX0 21 "RagVats$Mill" "made" "I", Cond.fieldLink RX0 24 "RagVats$Mill" "worth" "I", Cond.fieldLink RX0 58 "RagVats$Mill" "posts" "LRagVats$Posts;", Cond.fieldLink RX0 37 "RagVats$Mill" "vats" "LRagVats$Vats;", Cond.methodLink RX0 97 yX0_freeFelts, Cond.instanceMethod yX0_freeFelts, Cond.selects RX0 yX0_freeFelts yX0_freeFelts, Cond.initialized RX0, Cond.code yX0_freeFelts cX0_freeFelts 1 (some .int), Cond.methodLink RX0 104 yX0_allHanging, Cond.instanceMethod yX0_allHanging, Cond.selects RX0 yX0_allHanging yX0_allHanging, Cond.code yX0_allHanging cX0_allHanging 3 (some .int), Cond.fieldLink RX0 62 "RagVats$Mill" "loft" "[I", Cond.methodLink RX0 107 yX4_allPulp, Cond.instanceMethod yX4_allPulp, Cond.selects RX4 yX4_allPulp yX4_allPulp, Cond.initialized RX4, Cond.code yX4_allPulp cX4_allPulp 3 (some .int), Cond.fieldLink RX4 9 "RagVats$Vats" "pulp" "[I", Cond.methodLink RX0 110 yX0_poundsOf]
def wsX0_tell_r2 : List Cond := [Cond.instanceMethod yX0_poundsOf, Cond.selects RX0 yX0_poundsOf yX0_poundsOf, Cond.code yX0_poundsOf cX0_poundsOf 2 (some .int), Cond.fieldLink RX0 27 "RagVats$Mill" "rags" "[I", Cond.static yX5_isBelow, Cond.initialized RX5, Cond.code yX5_isBelow cX5_isBelow 2 (some .boolean)]
def wsX0_tell : List Cond := .code yX0_tell cX0_tell 2 (some .int) :: ((wsX0_tell_r1 ++ wsX0_tell_r2) ++ wsX00 ++ wsX20 ++ wsX40)
def wsX1_has : List Cond := .code yX1_has cX1_has 2 (some .boolean) :: ([.fieldLink RX1 9 "RagVats$Moulds" "number" "I"] ++ wsX10)
def wsX1_markOf : List Cond := .code yX1_markOf cX1_markOf 2 (some .int) :: ([.fieldLink RX1 15 "RagVats$Moulds" "mark" "[I", .methodLink RX1 31 yX1_has, .instanceMethod yX1_has, .selects RX1 yX1_has yX1_has, .initialized RX1, .code yX1_has cX1_has 2 (some .boolean), .fieldLink RX1 9 "RagVats$Moulds" "number" "I"] ++ wsX10)
def wsX1_sizeOf : List Cond := .code yX1_sizeOf cX1_sizeOf 2 (some .int) :: ([.fieldLink RX1 19 "RagVats$Moulds" "size" "[I", .methodLink RX1 31 yX1_has, .instanceMethod yX1_has, .selects RX1 yX1_has yX1_has, .initialized RX1, .code yX1_has cX1_has 2 (some .boolean), .fieldLink RX1 9 "RagVats$Moulds" "number" "I"] ++ wsX10)
def wsX1_wornOf : List Cond := .code yX1_wornOf cX1_wornOf 2 (some .int) :: ([.fieldLink RX1 22 "RagVats$Moulds" "worn" "[I", .methodLink RX1 31 yX1_has, .instanceMethod yX1_has, .selects RX1 yX1_has yX1_has, .initialized RX1, .code yX1_has cX1_has 2 (some .boolean), .fieldLink RX1 9 "RagVats$Moulds" "number" "I"] ++ wsX10)
def wsX3_has : List Cond := .code yX3_has cX3_has 2 (some .boolean) :: ([.fieldLink RX3 9 "RagVats$Teams" "number" "I"] ++ wsX30)
def wsX3_pairOf : List Cond := .code yX3_pairOf cX3_pairOf 2 (some .int) :: ([.fieldLink RX3 22 "RagVats$Teams" "pair" "[I", .methodLink RX3 31 yX3_has, .instanceMethod yX3_has, .selects RX3 yX3_has yX3_has, .initialized RX3, .code yX3_has cX3_has 2 (some .boolean), .fieldLink RX3 9 "RagVats$Teams" "number" "I"] ++ wsX30)
def wsX3_holderOf : List Cond := .code yX3_holderOf cX3_holderOf 3 (some .int) :: ([.fieldLink RX3 9 "RagVats$Teams" "number" "I", .methodLink RX3 35 yX3_pairOf, .instanceMethod yX3_pairOf, .selects RX3 yX3_pairOf yX3_pairOf, .initialized RX3, .code yX3_pairOf cX3_pairOf 2 (some .int), .fieldLink RX3 22 "RagVats$Teams" "pair" "[I", .methodLink RX3 31 yX3_has, .instanceMethod yX3_has, .selects RX3 yX3_has yX3_has, .code yX3_has cX3_has 2 (some .boolean)] ++ wsX30)
def wsX0_tellPair_r1 : List Cond := [Cond.fieldLink RX0 44 "RagVats$Mill" "moulds" "LRagVats$Moulds;", Cond.fieldLink RX0 51 "RagVats$Mill" "teams" "LRagVats$Teams;", Cond.methodLink RX0 114 yX1_markOf, Cond.instanceMethod yX1_markOf, Cond.selects RX1 yX1_markOf yX1_markOf, Cond.initialized RX1, Cond.code yX1_markOf cX1_markOf 2 (some .int), Cond.fieldLink RX1 15 "RagVats$Moulds" "mark" "[I", Cond.methodLink RX1 31 yX1_has, Cond.instanceMethod yX1_has, Cond.selects RX1 yX1_has yX1_has, Cond.code yX1_has cX1_has 2 (some .boolean), Cond.fieldLink RX1 9 "RagVats$Moulds" "number" "I", Cond.methodLink RX0 117 yX1_sizeOf, Cond.instanceMethod yX1_sizeOf, Cond.selects RX1 yX1_sizeOf yX1_sizeOf, Cond.code yX1_sizeOf cX1_sizeOf 2 (some .int), Cond.fieldLink RX1 19 "RagVats$Moulds" "size" "[I", Cond.methodLink RX0 120 yX1_wornOf, Cond.instanceMethod yX1_wornOf, Cond.selects RX1 yX1_wornOf yX1_wornOf, Cond.code yX1_wornOf cX1_wornOf 2 (some .int), Cond.fieldLink RX1 22 "RagVats$Moulds" "worn" "[I", Cond.methodLink RX0 123 yX3_holderOf]
def wsX0_tellPair_r2 : List Cond := [Cond.instanceMethod yX3_holderOf, Cond.selects RX3 yX3_holderOf yX3_holderOf, Cond.initialized RX3, Cond.code yX3_holderOf cX3_holderOf 3 (some .int), Cond.fieldLink RX3 9 "RagVats$Teams" "number" "I", Cond.methodLink RX3 35 yX3_pairOf, Cond.instanceMethod yX3_pairOf, Cond.selects RX3 yX3_pairOf yX3_pairOf, Cond.code yX3_pairOf cX3_pairOf 2 (some .int), Cond.fieldLink RX3 22 "RagVats$Teams" "pair" "[I", Cond.methodLink RX3 31 yX3_has, Cond.instanceMethod yX3_has, Cond.selects RX3 yX3_has yX3_has, Cond.code yX3_has cX3_has 2 (some .boolean)]
def wsX0_tellPair : List Cond := .code yX0_tellPair cX0_tellPair 3 (some .int) :: ((wsX0_tellPair_r1 ++ wsX0_tellPair_r2) ++ wsX00 ++ wsX10 ++ wsX30)
def wsX3_skillOf : List Cond := .code yX3_skillOf cX3_skillOf 2 (some .int) :: ([.fieldLink RX3 15 "RagVats$Teams" "skill" "[I", .methodLink RX3 31 yX3_has, .instanceMethod yX3_has, .selects RX3 yX3_has yX3_has, .initialized RX3, .code yX3_has cX3_has 2 (some .boolean), .fieldLink RX3 9 "RagVats$Teams" "number" "I"] ++ wsX30)
def wsX3_vatOf : List Cond := .code yX3_vatOf cX3_vatOf 2 (some .int) :: ([.fieldLink RX3 19 "RagVats$Teams" "vat" "[I", .methodLink RX3 31 yX3_has, .instanceMethod yX3_has, .selects RX3 yX3_has yX3_has, .initialized RX3, .code yX3_has cX3_has 2 (some .boolean), .fieldLink RX3 9 "RagVats$Teams" "number" "I"] ++ wsX30)
def wsX4_beatOf : List Cond := .code yX4_beatOf cX4_beatOf 2 (some .int) :: ([.fieldLink RX4 15 "RagVats$Vats" "beat" "[I", .static yX5_isBelow, .initialized RX5, .code yX5_isBelow cX5_isBelow 2 (some .boolean)] ++ wsX40)
def wsX4_pulpOf : List Cond := .code yX4_pulpOf cX4_pulpOf 2 (some .int) :: ([.fieldLink RX4 9 "RagVats$Vats" "pulp" "[I", .static yX5_isBelow, .initialized RX5, .code yX5_isBelow cX5_isBelow 2 (some .boolean)] ++ wsX40)
def wsX0_sheetsOf_r1 : List Cond := [Cond.fieldLink RX0 51 "RagVats$Mill" "teams" "LRagVats$Teams;", Cond.fieldLink RX0 37 "RagVats$Mill" "vats" "LRagVats$Vats;", Cond.fieldLink RX0 44 "RagVats$Mill" "moulds" "LRagVats$Moulds;", Cond.methodLink RX0 141 Lib.Math.min.name, Cond.static Lib.Math.min.name, Cond.initialized "java/lang/Math", Cond.code Lib.Math.min.name Lib.Math.min.code 2 (some .int), Cond.methodLink RX0 129 yX3_vatOf, Cond.instanceMethod yX3_vatOf, Cond.selects RX3 yX3_vatOf yX3_vatOf, Cond.initialized RX3, Cond.code yX3_vatOf cX3_vatOf 2 (some .int), Cond.fieldLink RX3 19 "RagVats$Teams" "vat" "[I", Cond.methodLink RX3 31 yX3_has, Cond.instanceMethod yX3_has, Cond.selects RX3 yX3_has yX3_has, Cond.code yX3_has cX3_has 2 (some .boolean), Cond.fieldLink RX3 9 "RagVats$Teams" "number" "I", Cond.methodLink RX0 132 yX3_pairOf, Cond.instanceMethod yX3_pairOf, Cond.selects RX3 yX3_pairOf yX3_pairOf, Cond.code yX3_pairOf cX3_pairOf 2 (some .int), Cond.fieldLink RX3 22 "RagVats$Teams" "pair" "[I", Cond.methodLink RX0 138 yX4_beatOf]
def wsX0_sheetsOf_r2 : List Cond := [Cond.instanceMethod yX4_beatOf, Cond.selects RX4 yX4_beatOf yX4_beatOf, Cond.initialized RX4, Cond.code yX4_beatOf cX4_beatOf 2 (some .int), Cond.fieldLink RX4 15 "RagVats$Vats" "beat" "[I", Cond.static yX5_isBelow, Cond.initialized RX5, Cond.code yX5_isBelow cX5_isBelow 2 (some .boolean), Cond.methodLink RX0 117 yX1_sizeOf, Cond.instanceMethod yX1_sizeOf, Cond.selects RX1 yX1_sizeOf yX1_sizeOf, Cond.initialized RX1, Cond.code yX1_sizeOf cX1_sizeOf 2 (some .int), Cond.fieldLink RX1 19 "RagVats$Moulds" "size" "[I", Cond.methodLink RX1 31 yX1_has, Cond.instanceMethod yX1_has, Cond.selects RX1 yX1_has yX1_has, Cond.code yX1_has cX1_has 2 (some .boolean), Cond.fieldLink RX1 9 "RagVats$Moulds" "number" "I", Cond.methodLink RX0 126 yX3_skillOf, Cond.instanceMethod yX3_skillOf, Cond.selects RX3 yX3_skillOf yX3_skillOf, Cond.code yX3_skillOf cX3_skillOf 2 (some .int), Cond.fieldLink RX3 15 "RagVats$Teams" "skill" "[I"]
def wsX0_sheetsOf_r3 : List Cond := [Cond.methodLink RX0 97 yX0_freeFelts, Cond.instanceMethod yX0_freeFelts, Cond.selects RX0 yX0_freeFelts yX0_freeFelts, Cond.initialized RX0, Cond.code yX0_freeFelts cX0_freeFelts 1 (some .int), Cond.fieldLink RX0 18 "RagVats$Mill" "felts" "I", Cond.fieldLink RX0 58 "RagVats$Mill" "posts" "LRagVats$Posts;", Cond.methodLink RX0 147 yX4_pulpOf, Cond.instanceMethod yX4_pulpOf, Cond.selects RX4 yX4_pulpOf yX4_pulpOf, Cond.code yX4_pulpOf cX4_pulpOf 2 (some .int), Cond.fieldLink RX4 9 "RagVats$Vats" "pulp" "[I"]
def wsX0_sheetsOf : List Cond := .code yX0_sheetsOf cX0_sheetsOf 6 (some .int) :: ((wsX0_sheetsOf_r1 ++ (wsX0_sheetsOf_r2 ++ wsX0_sheetsOf_r3)) ++ wsX00 ++ wsX30 ++ wsX40 ++ wsX10 ++ wsX20)
def wsX0_tellTeam_r1 : List Cond := [Cond.fieldLink RX0 51 "RagVats$Mill" "teams" "LRagVats$Teams;", Cond.methodLink RX0 126 yX3_skillOf, Cond.instanceMethod yX3_skillOf, Cond.selects RX3 yX3_skillOf yX3_skillOf, Cond.initialized RX3, Cond.code yX3_skillOf cX3_skillOf 2 (some .int), Cond.fieldLink RX3 15 "RagVats$Teams" "skill" "[I", Cond.methodLink RX3 31 yX3_has, Cond.instanceMethod yX3_has, Cond.selects RX3 yX3_has yX3_has, Cond.code yX3_has cX3_has 2 (some .boolean), Cond.fieldLink RX3 9 "RagVats$Teams" "number" "I", Cond.methodLink RX0 129 yX3_vatOf, Cond.instanceMethod yX3_vatOf, Cond.selects RX3 yX3_vatOf yX3_vatOf, Cond.code yX3_vatOf cX3_vatOf 2 (some .int), Cond.fieldLink RX3 19 "RagVats$Teams" "vat" "[I", Cond.methodLink RX0 132 yX3_pairOf, Cond.instanceMethod yX3_pairOf, Cond.selects RX3 yX3_pairOf yX3_pairOf, Cond.code yX3_pairOf cX3_pairOf 2 (some .int), Cond.fieldLink RX3 22 "RagVats$Teams" "pair" "[I", Cond.methodLink RX0 135 yX0_sheetsOf, Cond.instanceMethod yX0_sheetsOf]
def wsX0_tellTeam_r2 : List Cond := [Cond.selects RX0 yX0_sheetsOf yX0_sheetsOf, Cond.initialized RX0, Cond.code yX0_sheetsOf cX0_sheetsOf 6 (some .int), Cond.fieldLink RX0 37 "RagVats$Mill" "vats" "LRagVats$Vats;", Cond.fieldLink RX0 44 "RagVats$Mill" "moulds" "LRagVats$Moulds;", Cond.methodLink RX0 141 Lib.Math.min.name, Cond.static Lib.Math.min.name, Cond.initialized "java/lang/Math", Cond.code Lib.Math.min.name Lib.Math.min.code 2 (some .int), Cond.methodLink RX0 138 yX4_beatOf, Cond.instanceMethod yX4_beatOf, Cond.selects RX4 yX4_beatOf yX4_beatOf, Cond.initialized RX4, Cond.code yX4_beatOf cX4_beatOf 2 (some .int), Cond.fieldLink RX4 15 "RagVats$Vats" "beat" "[I", Cond.static yX5_isBelow, Cond.initialized RX5, Cond.code yX5_isBelow cX5_isBelow 2 (some .boolean), Cond.methodLink RX0 117 yX1_sizeOf, Cond.instanceMethod yX1_sizeOf, Cond.selects RX1 yX1_sizeOf yX1_sizeOf, Cond.initialized RX1, Cond.code yX1_sizeOf cX1_sizeOf 2 (some .int), Cond.fieldLink RX1 19 "RagVats$Moulds" "size" "[I"]
def wsX0_tellTeam_r3 : List Cond := [Cond.methodLink RX1 31 yX1_has, Cond.instanceMethod yX1_has, Cond.selects RX1 yX1_has yX1_has, Cond.code yX1_has cX1_has 2 (some .boolean), Cond.fieldLink RX1 9 "RagVats$Moulds" "number" "I", Cond.methodLink RX0 97 yX0_freeFelts, Cond.instanceMethod yX0_freeFelts, Cond.selects RX0 yX0_freeFelts yX0_freeFelts, Cond.code yX0_freeFelts cX0_freeFelts 1 (some .int), Cond.fieldLink RX0 18 "RagVats$Mill" "felts" "I", Cond.fieldLink RX0 58 "RagVats$Mill" "posts" "LRagVats$Posts;", Cond.methodLink RX0 147 yX4_pulpOf, Cond.instanceMethod yX4_pulpOf, Cond.selects RX4 yX4_pulpOf yX4_pulpOf, Cond.code yX4_pulpOf cX4_pulpOf 2 (some .int), Cond.fieldLink RX4 9 "RagVats$Vats" "pulp" "[I"]
def wsX0_tellTeam : List Cond := .code yX0_tellTeam cX0_tellTeam 3 (some .int) :: ((wsX0_tellTeam_r1 ++ (wsX0_tellTeam_r2 ++ wsX0_tellTeam_r3)) ++ wsX00 ++ wsX30 ++ wsX40 ++ wsX10 ++ wsX20)
def wsJ9_floorMod_7cf53 : List Cond := .code yJ9_floorMod_7cf53 cJ9_floorMod_7cf53 3 (some .int) :: ([])
def wsX4_numberWithPulp : List Cond := .code yX4_numberWithPulp cX4_numberWithPulp 3 (some .int) :: ([.fieldLink RX4 9 "RagVats$Vats" "pulp" "[I"] ++ wsX40)
def wsX4_beatAll : List Cond := .code yX4_beatAll cX4_beatAll 5 none :: ([.fieldLink RX4 9 "RagVats$Vats" "pulp" "[I", .fieldLink RX4 15 "RagVats$Vats" "beat" "[I", .methodLink RX4 55 Lib.Math.min.name, .static Lib.Math.min.name, .initialized "java/lang/Math", .code Lib.Math.min.name Lib.Math.min.code 2 (some .int), .methodLink RX4 51 yX4_numberWithPulp, .instanceMethod yX4_numberWithPulp, .selects RX4 yX4_numberWithPulp yX4_numberWithPulp, .initialized RX4, .code yX4_numberWithPulp cX4_numberWithPulp 3 (some .int)] ++ wsX40)
def wsX4_sortOf : List Cond := .code yX4_sortOf cX4_sortOf 2 (some .int) :: ([.fieldLink RX4 18 "RagVats$Vats" "sort" "[I", .static yX5_isBelow, .initialized RX5, .code yX5_isBelow cX5_isBelow 2 (some .boolean)] ++ wsX40)
def wsX0_pointsOf : List Cond := .code yX0_pointsOf cX0_pointsOf 1 (some .int) :: ([.static yX5_isBelow, .initialized RX5, .code yX5_isBelow cX5_isBelow 2 (some .boolean)])
def wsX0_gradeOf_r1 : List Cond := [Cond.fieldLink RX0 37 "RagVats$Mill" "vats" "LRagVats$Vats;", Cond.fieldLink RX0 44 "RagVats$Mill" "moulds" "LRagVats$Moulds;", Cond.methodLink RX0 138 yX4_beatOf, Cond.instanceMethod yX4_beatOf, Cond.selects RX4 yX4_beatOf yX4_beatOf, Cond.initialized RX4, Cond.code yX4_beatOf cX4_beatOf 2 (some .int), Cond.fieldLink RX4 15 "RagVats$Vats" "beat" "[I", Cond.static yX5_isBelow, Cond.initialized RX5, Cond.code yX5_isBelow cX5_isBelow 2 (some .boolean), Cond.methodLink RX0 184 yX4_sortOf, Cond.instanceMethod yX4_sortOf, Cond.selects RX4 yX4_sortOf yX4_sortOf, Cond.code yX4_sortOf cX4_sortOf 2 (some .int), Cond.fieldLink RX4 18 "RagVats$Vats" "sort" "[I", Cond.methodLink RX0 187 yX0_pointsOf, Cond.static yX0_pointsOf, Cond.initialized RX0, Cond.code yX0_pointsOf cX0_pointsOf 1 (some .int), Cond.methodLink RX0 120 yX1_wornOf, Cond.instanceMethod yX1_wornOf, Cond.selects RX1 yX1_wornOf yX1_wornOf, Cond.initialized RX1]
def wsX0_gradeOf_r2 : List Cond := [Cond.code yX1_wornOf cX1_wornOf 2 (some .int), Cond.fieldLink RX1 22 "RagVats$Moulds" "worn" "[I", Cond.methodLink RX1 31 yX1_has, Cond.instanceMethod yX1_has, Cond.selects RX1 yX1_has yX1_has, Cond.code yX1_has cX1_has 2 (some .boolean), Cond.fieldLink RX1 9 "RagVats$Moulds" "number" "I"]
def wsX0_gradeOf : List Cond := .code yX0_gradeOf cX0_gradeOf 4 (some .int) :: ((wsX0_gradeOf_r1 ++ wsX0_gradeOf_r2) ++ wsX00 ++ wsX40 ++ wsX10)
def wsX2_add : List Cond := .code yX2_add cX2_add 4 none :: ([.fieldLink RX2 9 "RagVats$Posts" "number" "I", .fieldLink RX2 18 "RagVats$Posts" "mark" "[I", .fieldLink RX2 22 "RagVats$Posts" "grade" "[I", .fieldLink RX2 25 "RagVats$Posts" "sheets" "[I", .fieldLink RX2 15 "RagVats$Posts" "allSheets" "I"] ++ wsX20)
def wsX5_worthOf : List Cond := .code yX5_worthOf cX5_worthOf 1 (some .int) :: ([.fieldLink RX5 252 "RagVats" "SHEET_WORTH" "[I", .methodLink RX5 19 yX5_isBelow, .static yX5_isBelow, .initialized RX5, .code yX5_isBelow cX5_isBelow 2 (some .boolean)])
def wsX4_charge : List Cond := .code yX4_charge cX4_charge 4 none :: ([.fieldLink RX4 9 "RagVats$Vats" "pulp" "[I", .fieldLink RX4 15 "RagVats$Vats" "beat" "[I", .fieldLink RX4 18 "RagVats$Vats" "sort" "[I", .static yX5_isBelow, .initialized RX5, .code yX5_isBelow cX5_isBelow 2 (some .boolean)] ++ wsX40)
def wsX4_takeOut : List Cond := .code yX4_takeOut cX4_takeOut 3 none :: ([.fieldLink RX4 9 "RagVats$Vats" "pulp" "[I", .static yX5_isBelow, .initialized RX5, .code yX5_isBelow cX5_isBelow 2 (some .boolean), .methodLink RX4 47 yX4_charge, .instanceMethod yX4_charge, .selects RX4 yX4_charge yX4_charge, .initialized RX4, .code yX4_charge cX4_charge 4 none, .fieldLink RX4 15 "RagVats$Vats" "beat" "[I", .fieldLink RX4 18 "RagVats$Vats" "sort" "[I"] ++ wsX40)
def wsX1_wearBySheets : List Cond := .code yX1_wearBySheets cX1_wearBySheets 3 none :: ([.fieldLink RX1 22 "RagVats$Moulds" "worn" "[I", .methodLink RX1 35 Lib.Math.min.name, .static Lib.Math.min.name, .initialized "java/lang/Math", .code Lib.Math.min.name Lib.Math.min.code 2 (some .int), .methodLink RX1 31 yX1_has, .instanceMethod yX1_has, .selects RX1 yX1_has yX1_has, .initialized RX1, .code yX1_has cX1_has 2 (some .boolean), .fieldLink RX1 9 "RagVats$Moulds" "number" "I"] ++ wsX10)
def wsX0_makeSheets_r1 : List Cond := [Cond.fieldLink RX0 51 "RagVats$Mill" "teams" "LRagVats$Teams;", Cond.fieldLink RX0 58 "RagVats$Mill" "posts" "LRagVats$Posts;", Cond.fieldLink RX0 44 "RagVats$Mill" "moulds" "LRagVats$Moulds;", Cond.fieldLink RX0 21 "RagVats$Mill" "made" "I", Cond.fieldLink RX0 24 "RagVats$Mill" "worth" "I", Cond.fieldLink RX0 37 "RagVats$Mill" "vats" "LRagVats$Vats;", Cond.methodLink RX0 135 yX0_sheetsOf, Cond.instanceMethod yX0_sheetsOf, Cond.selects RX0 yX0_sheetsOf yX0_sheetsOf, Cond.initialized RX0, Cond.code yX0_sheetsOf cX0_sheetsOf 6 (some .int), Cond.methodLink RX0 141 Lib.Math.min.name, Cond.static Lib.Math.min.name, Cond.initialized "java/lang/Math", Cond.code Lib.Math.min.name Lib.Math.min.code 2 (some .int), Cond.methodLink RX0 129 yX3_vatOf, Cond.instanceMethod yX3_vatOf, Cond.selects RX3 yX3_vatOf yX3_vatOf, Cond.initialized RX3, Cond.code yX3_vatOf cX3_vatOf 2 (some .int), Cond.fieldLink RX3 19 "RagVats$Teams" "vat" "[I", Cond.methodLink RX3 31 yX3_has, Cond.instanceMethod yX3_has, Cond.selects RX3 yX3_has yX3_has]
def wsX0_makeSheets_r2 : List Cond := [Cond.code yX3_has cX3_has 2 (some .boolean), Cond.fieldLink RX3 9 "RagVats$Teams" "number" "I", Cond.methodLink RX0 132 yX3_pairOf, Cond.instanceMethod yX3_pairOf, Cond.selects RX3 yX3_pairOf yX3_pairOf, Cond.code yX3_pairOf cX3_pairOf 2 (some .int), Cond.fieldLink RX3 22 "RagVats$Teams" "pair" "[I", Cond.methodLink RX0 138 yX4_beatOf, Cond.instanceMethod yX4_beatOf, Cond.selects RX4 yX4_beatOf yX4_beatOf, Cond.initialized RX4, Cond.code yX4_beatOf cX4_beatOf 2 (some .int), Cond.fieldLink RX4 15 "RagVats$Vats" "beat" "[I", Cond.static yX5_isBelow, Cond.initialized RX5, Cond.code yX5_isBelow cX5_isBelow 2 (some .boolean), Cond.methodLink RX0 117 yX1_sizeOf, Cond.instanceMethod yX1_sizeOf, Cond.selects RX1 yX1_sizeOf yX1_sizeOf, Cond.initialized RX1, Cond.code yX1_sizeOf cX1_sizeOf 2 (some .int), Cond.fieldLink RX1 19 "RagVats$Moulds" "size" "[I", Cond.methodLink RX1 31 yX1_has, Cond.instanceMethod yX1_has]
def wsX0_makeSheets_r3 : List Cond := [Cond.selects RX1 yX1_has yX1_has, Cond.code yX1_has cX1_has 2 (some .boolean), Cond.fieldLink RX1 9 "RagVats$Moulds" "number" "I", Cond.methodLink RX0 126 yX3_skillOf, Cond.instanceMethod yX3_skillOf, Cond.selects RX3 yX3_skillOf yX3_skillOf, Cond.code yX3_skillOf cX3_skillOf 2 (some .int), Cond.fieldLink RX3 15 "RagVats$Teams" "skill" "[I", Cond.methodLink RX0 97 yX0_freeFelts, Cond.instanceMethod yX0_freeFelts, Cond.selects RX0 yX0_freeFelts yX0_freeFelts, Cond.code yX0_freeFelts cX0_freeFelts 1 (some .int), Cond.fieldLink RX0 18 "RagVats$Mill" "felts" "I", Cond.methodLink RX0 147 yX4_pulpOf, Cond.instanceMethod yX4_pulpOf, Cond.selects RX4 yX4_pulpOf yX4_pulpOf, Cond.code yX4_pulpOf cX4_pulpOf 2 (some .int), Cond.fieldLink RX4 9 "RagVats$Vats" "pulp" "[I", Cond.methodLink RX0 167 yX0_gradeOf, Cond.instanceMethod yX0_gradeOf, Cond.selects RX0 yX0_gradeOf yX0_gradeOf, Cond.code yX0_gradeOf cX0_gradeOf 4 (some .int), Cond.methodLink RX0 184 yX4_sortOf, Cond.instanceMethod yX4_sortOf]
def wsX0_makeSheets_r4 : List Cond := [Cond.selects RX4 yX4_sortOf yX4_sortOf, Cond.code yX4_sortOf cX4_sortOf 2 (some .int), Cond.fieldLink RX4 18 "RagVats$Vats" "sort" "[I", Cond.methodLink RX0 187 yX0_pointsOf, Cond.static yX0_pointsOf, Cond.code yX0_pointsOf cX0_pointsOf 1 (some .int), Cond.methodLink RX0 120 yX1_wornOf, Cond.instanceMethod yX1_wornOf, Cond.selects RX1 yX1_wornOf yX1_wornOf, Cond.code yX1_wornOf cX1_wornOf 2 (some .int), Cond.fieldLink RX1 22 "RagVats$Moulds" "worn" "[I", Cond.methodLink RX0 114 yX1_markOf, Cond.instanceMethod yX1_markOf, Cond.selects RX1 yX1_markOf yX1_markOf, Cond.code yX1_markOf cX1_markOf 2 (some .int), Cond.fieldLink RX1 15 "RagVats$Moulds" "mark" "[I", Cond.methodLink RX0 170 yX2_add, Cond.instanceMethod yX2_add, Cond.selects RX2 yX2_add yX2_add, Cond.initialized RX2, Cond.code yX2_add cX2_add 4 none, Cond.fieldLink RX2 9 "RagVats$Posts" "number" "I", Cond.fieldLink RX2 18 "RagVats$Posts" "mark" "[I", Cond.fieldLink RX2 22 "RagVats$Posts" "grade" "[I"]
def wsX0_makeSheets_r5 : List Cond := [Cond.fieldLink RX2 25 "RagVats$Posts" "sheets" "[I", Cond.fieldLink RX2 15 "RagVats$Posts" "allSheets" "I", Cond.static yX5_worthOf, Cond.code yX5_worthOf cX5_worthOf 1 (some .int), Cond.fieldLink RX5 252 "RagVats" "SHEET_WORTH" "[I", Cond.methodLink RX5 19 yX5_isBelow, Cond.methodLink RX0 177 yX4_takeOut, Cond.instanceMethod yX4_takeOut, Cond.selects RX4 yX4_takeOut yX4_takeOut, Cond.code yX4_takeOut cX4_takeOut 3 none, Cond.methodLink RX4 47 yX4_charge, Cond.instanceMethod yX4_charge, Cond.selects RX4 yX4_charge yX4_charge, Cond.code yX4_charge cX4_charge 4 none, Cond.methodLink RX0 181 yX1_wearBySheets, Cond.instanceMethod yX1_wearBySheets, Cond.selects RX1 yX1_wearBySheets yX1_wearBySheets, Cond.code yX1_wearBySheets cX1_wearBySheets 3 none, Cond.methodLink RX1 35 Lib.Math.min.name]
def wsX0_makeSheets : List Cond := .code yX0_makeSheets cX0_makeSheets 6 none :: ((wsX0_makeSheets_r1 ++ (wsX0_makeSheets_r2 ++ (wsX0_makeSheets_r3 ++ (wsX0_makeSheets_r4 ++ wsX0_makeSheets_r5)))) ++ wsX00 ++ wsX30 ++ wsX40 ++ wsX10 ++ wsX20)
def wsX2_has : List Cond := .code yX2_has cX2_has 2 (some .boolean) :: ([.fieldLink RX2 9 "RagVats$Posts" "number" "I"] ++ wsX20)
def wsX2_sheetsOf : List Cond := .code yX2_sheetsOf cX2_sheetsOf 2 (some .int) :: ([.fieldLink RX2 25 "RagVats$Posts" "sheets" "[I", .methodLink RX2 44 yX2_has, .instanceMethod yX2_has, .selects RX2 yX2_has yX2_has, .initialized RX2, .code yX2_has cX2_has 2 (some .boolean), .fieldLink RX2 9 "RagVats$Posts" "number" "I"] ++ wsX20)
def wsX2_markOf : List Cond := .code yX2_markOf cX2_markOf 2 (some .int) :: ([.fieldLink RX2 18 "RagVats$Posts" "mark" "[I", .methodLink RX2 44 yX2_has, .instanceMethod yX2_has, .selects RX2 yX2_has yX2_has, .initialized RX2, .code yX2_has cX2_has 2 (some .boolean), .fieldLink RX2 9 "RagVats$Posts" "number" "I"] ++ wsX20)
def wsX2_gradeOf : List Cond := .code yX2_gradeOf cX2_gradeOf 2 (some .int) :: ([.fieldLink RX2 22 "RagVats$Posts" "grade" "[I", .methodLink RX2 44 yX2_has, .instanceMethod yX2_has, .selects RX2 yX2_has yX2_has, .initialized RX2, .code yX2_has cX2_has 2 (some .boolean), .fieldLink RX2 9 "RagVats$Posts" "number" "I"] ++ wsX20)
def wsX2_takeOff : List Cond := .code yX2_takeOff cX2_takeOff 3 none :: ([.fieldLink RX2 25 "RagVats$Posts" "sheets" "[I", .fieldLink RX2 15 "RagVats$Posts" "allSheets" "I", .methodLink RX2 44 yX2_has, .instanceMethod yX2_has, .selects RX2 yX2_has yX2_has, .initialized RX2, .code yX2_has cX2_has 2 (some .boolean), .fieldLink RX2 9 "RagVats$Posts" "number" "I"] ++ wsX20)
def wsX2_dropEmptyOnes : List Cond := .code yX2_dropEmptyOnes cX2_dropEmptyOnes 3 none :: ([.fieldLink RX2 9 "RagVats$Posts" "number" "I", .fieldLink RX2 25 "RagVats$Posts" "sheets" "[I", .fieldLink RX2 18 "RagVats$Posts" "mark" "[I", .fieldLink RX2 22 "RagVats$Posts" "grade" "[I"] ++ wsX20)
def wsX0_pressPosts_r1 : List Cond := [Cond.fieldLink RX0 58 "RagVats$Mill" "posts" "LRagVats$Posts;", Cond.methodLink RX0 141 Lib.Math.min.name, Cond.static Lib.Math.min.name, Cond.initialized "java/lang/Math", Cond.code Lib.Math.min.name Lib.Math.min.code 2 (some .int), Cond.methodLink RX0 193 yX2_sheetsOf, Cond.instanceMethod yX2_sheetsOf, Cond.selects RX2 yX2_sheetsOf yX2_sheetsOf, Cond.initialized RX2, Cond.code yX2_sheetsOf cX2_sheetsOf 2 (some .int), Cond.fieldLink RX2 25 "RagVats$Posts" "sheets" "[I", Cond.methodLink RX2 44 yX2_has, Cond.instanceMethod yX2_has, Cond.selects RX2 yX2_has yX2_has, Cond.code yX2_has cX2_has 2 (some .boolean), Cond.fieldLink RX2 9 "RagVats$Posts" "number" "I", Cond.methodLink RX0 194 yX2_markOf, Cond.instanceMethod yX2_markOf, Cond.selects RX2 yX2_markOf yX2_markOf, Cond.code yX2_markOf cX2_markOf 2 (some .int), Cond.fieldLink RX2 18 "RagVats$Posts" "mark" "[I", Cond.methodLink RX0 195 yX2_gradeOf, Cond.instanceMethod yX2_gradeOf, Cond.selects RX2 yX2_gradeOf yX2_gradeOf]
def wsX0_pressPosts_r2 : List Cond := [Cond.code yX2_gradeOf cX2_gradeOf 2 (some .int), Cond.fieldLink RX2 22 "RagVats$Posts" "grade" "[I", Cond.methodLink RX0 197 yX0_hang, Cond.instanceMethod yX0_hang, Cond.selects RX0 yX0_hang yX0_hang, Cond.initialized RX0, Cond.code yX0_hang cX0_hang 4 none, Cond.fieldLink RX0 62 "RagVats$Mill" "loft" "[I", Cond.static yX5_isBelow, Cond.initialized RX5, Cond.code yX5_isBelow cX5_isBelow 2 (some .boolean), Cond.methodLink RX0 200 yX2_takeOff, Cond.instanceMethod yX2_takeOff, Cond.selects RX2 yX2_takeOff yX2_takeOff, Cond.code yX2_takeOff cX2_takeOff 3 none, Cond.fieldLink RX2 15 "RagVats$Posts" "allSheets" "I", Cond.methodLink RX0 203 yX2_dropEmptyOnes, Cond.instanceMethod yX2_dropEmptyOnes, Cond.selects RX2 yX2_dropEmptyOnes yX2_dropEmptyOnes, Cond.code yX2_dropEmptyOnes cX2_dropEmptyOnes 3 none]
def wsX0_pressPosts : List Cond := .code yX0_pressPosts cX0_pressPosts 4 none :: ((wsX0_pressPosts_r1 ++ wsX0_pressPosts_r2) ++ wsX00 ++ wsX20)
def wsX0_liveDay_r1 : List Cond := [Cond.fieldLink RX0 37 "RagVats$Mill" "vats" "LRagVats$Vats;", Cond.fieldLink RX0 31 "RagVats$Mill" "water" "[I", Cond.fieldLink RX0 9 "RagVats$Mill" "day" "I", Cond.fieldLink RX0 51 "RagVats$Mill" "teams" "LRagVats$Teams;", Cond.methodLink RX0 153 yJ9_floorMod_7cf53, Cond.static yJ9_floorMod_7cf53, Cond.initialized RJ9, Cond.code yJ9_floorMod_7cf53 cJ9_floorMod_7cf53 3 (some .int), Cond.methodLink RX0 156 yX4_beatAll, Cond.instanceMethod yX4_beatAll, Cond.selects RX4 yX4_beatAll yX4_beatAll, Cond.initialized RX4, Cond.code yX4_beatAll cX4_beatAll 5 none, Cond.fieldLink RX4 9 "RagVats$Vats" "pulp" "[I", Cond.fieldLink RX4 15 "RagVats$Vats" "beat" "[I", Cond.methodLink RX4 55 Lib.Math.min.name, Cond.static Lib.Math.min.name, Cond.initialized "java/lang/Math", Cond.code Lib.Math.min.name Lib.Math.min.code 2 (some .int), Cond.methodLink RX4 51 yX4_numberWithPulp, Cond.instanceMethod yX4_numberWithPulp, Cond.selects RX4 yX4_numberWithPulp yX4_numberWithPulp, Cond.code yX4_numberWithPulp cX4_numberWithPulp 3 (some .int), Cond.methodLink RX0 161 yX0_makeSheets]
def wsX0_liveDay_r2 : List Cond := [Cond.instanceMethod yX0_makeSheets, Cond.selects RX0 yX0_makeSheets yX0_makeSheets, Cond.initialized RX0, Cond.code yX0_makeSheets cX0_makeSheets 6 none, Cond.fieldLink RX0 58 "RagVats$Mill" "posts" "LRagVats$Posts;", Cond.fieldLink RX0 44 "RagVats$Mill" "moulds" "LRagVats$Moulds;", Cond.fieldLink RX0 21 "RagVats$Mill" "made" "I", Cond.fieldLink RX0 24 "RagVats$Mill" "worth" "I", Cond.methodLink RX0 135 yX0_sheetsOf, Cond.instanceMethod yX0_sheetsOf, Cond.selects RX0 yX0_sheetsOf yX0_sheetsOf, Cond.code yX0_sheetsOf cX0_sheetsOf 6 (some .int), Cond.methodLink RX0 141 Lib.Math.min.name, Cond.methodLink RX0 129 yX3_vatOf, Cond.instanceMethod yX3_vatOf, Cond.selects RX3 yX3_vatOf yX3_vatOf, Cond.initialized RX3, Cond.code yX3_vatOf cX3_vatOf 2 (some .int), Cond.fieldLink RX3 19 "RagVats$Teams" "vat" "[I", Cond.methodLink RX3 31 yX3_has, Cond.instanceMethod yX3_has, Cond.selects RX3 yX3_has yX3_has, Cond.code yX3_has cX3_has 2 (some .boolean), Cond.fieldLink RX3 9 "RagVats$Teams" "number" "I"]
def wsX0_liveDay_r3 : List Cond := [Cond.methodLink RX0 132 yX3_pairOf, Cond.instanceMethod yX3_pairOf, Cond.selects RX3 yX3_pairOf yX3_pairOf, Cond.code yX3_pairOf cX3_pairOf 2 (some .int), Cond.fieldLink RX3 22 "RagVats$Teams" "pair" "[I", Cond.methodLink RX0 138 yX4_beatOf, Cond.instanceMethod yX4_beatOf, Cond.selects RX4 yX4_beatOf yX4_beatOf, Cond.code yX4_beatOf cX4_beatOf 2 (some .int), Cond.static yX5_isBelow, Cond.initialized RX5, Cond.code yX5_isBelow cX5_isBelow 2 (some .boolean), Cond.methodLink RX0 117 yX1_sizeOf, Cond.instanceMethod yX1_sizeOf, Cond.selects RX1 yX1_sizeOf yX1_sizeOf, Cond.initialized RX1, Cond.code yX1_sizeOf cX1_sizeOf 2 (some .int), Cond.fieldLink RX1 19 "RagVats$Moulds" "size" "[I", Cond.methodLink RX1 31 yX1_has, Cond.instanceMethod yX1_has, Cond.selects RX1 yX1_has yX1_has, Cond.code yX1_has cX1_has 2 (some .boolean), Cond.fieldLink RX1 9 "RagVats$Moulds" "number" "I", Cond.methodLink RX0 126 yX3_skillOf]
def wsX0_liveDay_r4 : List Cond := [Cond.instanceMethod yX3_skillOf, Cond.selects RX3 yX3_skillOf yX3_skillOf, Cond.code yX3_skillOf cX3_skillOf 2 (some .int), Cond.fieldLink RX3 15 "RagVats$Teams" "skill" "[I", Cond.methodLink RX0 97 yX0_freeFelts, Cond.instanceMethod yX0_freeFelts, Cond.selects RX0 yX0_freeFelts yX0_freeFelts, Cond.code yX0_freeFelts cX0_freeFelts 1 (some .int), Cond.fieldLink RX0 18 "RagVats$Mill" "felts" "I", Cond.methodLink RX0 147 yX4_pulpOf, Cond.instanceMethod yX4_pulpOf, Cond.selects RX4 yX4_pulpOf yX4_pulpOf, Cond.code yX4_pulpOf cX4_pulpOf 2 (some .int), Cond.methodLink RX0 167 yX0_gradeOf, Cond.instanceMethod yX0_gradeOf, Cond.selects RX0 yX0_gradeOf yX0_gradeOf, Cond.code yX0_gradeOf cX0_gradeOf 4 (some .int), Cond.methodLink RX0 184 yX4_sortOf, Cond.instanceMethod yX4_sortOf, Cond.selects RX4 yX4_sortOf yX4_sortOf, Cond.code yX4_sortOf cX4_sortOf 2 (some .int), Cond.fieldLink RX4 18 "RagVats$Vats" "sort" "[I", Cond.methodLink RX0 187 yX0_pointsOf, Cond.static yX0_pointsOf]
def wsX0_liveDay_r5 : List Cond := [Cond.code yX0_pointsOf cX0_pointsOf 1 (some .int), Cond.methodLink RX0 120 yX1_wornOf, Cond.instanceMethod yX1_wornOf, Cond.selects RX1 yX1_wornOf yX1_wornOf, Cond.code yX1_wornOf cX1_wornOf 2 (some .int), Cond.fieldLink RX1 22 "RagVats$Moulds" "worn" "[I", Cond.methodLink RX0 114 yX1_markOf, Cond.instanceMethod yX1_markOf, Cond.selects RX1 yX1_markOf yX1_markOf, Cond.code yX1_markOf cX1_markOf 2 (some .int), Cond.fieldLink RX1 15 "RagVats$Moulds" "mark" "[I", Cond.methodLink RX0 170 yX2_add, Cond.instanceMethod yX2_add, Cond.selects RX2 yX2_add yX2_add, Cond.initialized RX2, Cond.code yX2_add cX2_add 4 none, Cond.fieldLink RX2 9 "RagVats$Posts" "number" "I", Cond.fieldLink RX2 18 "RagVats$Posts" "mark" "[I", Cond.fieldLink RX2 22 "RagVats$Posts" "grade" "[I", Cond.fieldLink RX2 25 "RagVats$Posts" "sheets" "[I", Cond.fieldLink RX2 15 "RagVats$Posts" "allSheets" "I", Cond.static yX5_worthOf, Cond.code yX5_worthOf cX5_worthOf 1 (some .int), Cond.fieldLink RX5 252 "RagVats" "SHEET_WORTH" "[I"]
def wsX0_liveDay_r6 : List Cond := [Cond.methodLink RX5 19 yX5_isBelow, Cond.methodLink RX0 177 yX4_takeOut, Cond.instanceMethod yX4_takeOut, Cond.selects RX4 yX4_takeOut yX4_takeOut, Cond.code yX4_takeOut cX4_takeOut 3 none, Cond.methodLink RX4 47 yX4_charge, Cond.instanceMethod yX4_charge, Cond.selects RX4 yX4_charge yX4_charge, Cond.code yX4_charge cX4_charge 4 none, Cond.methodLink RX0 181 yX1_wearBySheets, Cond.instanceMethod yX1_wearBySheets, Cond.selects RX1 yX1_wearBySheets yX1_wearBySheets, Cond.code yX1_wearBySheets cX1_wearBySheets 3 none, Cond.methodLink RX1 35 Lib.Math.min.name, Cond.methodLink RX0 164 yX0_pressPosts, Cond.instanceMethod yX0_pressPosts, Cond.selects RX0 yX0_pressPosts yX0_pressPosts, Cond.code yX0_pressPosts cX0_pressPosts 4 none, Cond.methodLink RX0 193 yX2_sheetsOf, Cond.instanceMethod yX2_sheetsOf, Cond.selects RX2 yX2_sheetsOf yX2_sheetsOf, Cond.code yX2_sheetsOf cX2_sheetsOf 2 (some .int), Cond.methodLink RX2 44 yX2_has, Cond.instanceMethod yX2_has]
def wsX0_liveDay_r7 : List Cond := [Cond.selects RX2 yX2_has yX2_has, Cond.code yX2_has cX2_has 2 (some .boolean), Cond.methodLink RX0 194 yX2_markOf, Cond.instanceMethod yX2_markOf, Cond.selects RX2 yX2_markOf yX2_markOf, Cond.code yX2_markOf cX2_markOf 2 (some .int), Cond.methodLink RX0 195 yX2_gradeOf, Cond.instanceMethod yX2_gradeOf, Cond.selects RX2 yX2_gradeOf yX2_gradeOf, Cond.code yX2_gradeOf cX2_gradeOf 2 (some .int), Cond.methodLink RX0 197 yX0_hang, Cond.instanceMethod yX0_hang, Cond.selects RX0 yX0_hang yX0_hang, Cond.code yX0_hang cX0_hang 4 none, Cond.fieldLink RX0 62 "RagVats$Mill" "loft" "[I", Cond.methodLink RX0 200 yX2_takeOff, Cond.instanceMethod yX2_takeOff, Cond.selects RX2 yX2_takeOff yX2_takeOff, Cond.code yX2_takeOff cX2_takeOff 3 none, Cond.methodLink RX0 203 yX2_dropEmptyOnes, Cond.instanceMethod yX2_dropEmptyOnes, Cond.selects RX2 yX2_dropEmptyOnes yX2_dropEmptyOnes, Cond.code yX2_dropEmptyOnes cX2_dropEmptyOnes 3 none]
def wsX0_liveDay : List Cond := .code yX0_liveDay cX0_liveDay 2 none :: ((wsX0_liveDay_r1 ++ (wsX0_liveDay_r2 ++ (wsX0_liveDay_r3 ++ (wsX0_liveDay_r4 ++ (wsX0_liveDay_r5 ++ (wsX0_liveDay_r6 ++ wsX0_liveDay_r7)))))) ++ wsX00 ++ wsX30 ++ wsX40 ++ wsX10 ++ wsX20)
def wsX0_liveDays_r1 : List Cond := [Cond.methodLink RX0 150 yX0_liveDay, Cond.instanceMethod yX0_liveDay, Cond.selects RX0 yX0_liveDay yX0_liveDay, Cond.initialized RX0, Cond.code yX0_liveDay cX0_liveDay 2 none, Cond.fieldLink RX0 37 "RagVats$Mill" "vats" "LRagVats$Vats;", Cond.fieldLink RX0 31 "RagVats$Mill" "water" "[I", Cond.fieldLink RX0 9 "RagVats$Mill" "day" "I", Cond.fieldLink RX0 51 "RagVats$Mill" "teams" "LRagVats$Teams;", Cond.methodLink RX0 153 yJ9_floorMod_7cf53, Cond.static yJ9_floorMod_7cf53, Cond.initialized RJ9, Cond.code yJ9_floorMod_7cf53 cJ9_floorMod_7cf53 3 (some .int), Cond.methodLink RX0 156 yX4_beatAll, Cond.instanceMethod yX4_beatAll, Cond.selects RX4 yX4_beatAll yX4_beatAll, Cond.initialized RX4, Cond.code yX4_beatAll cX4_beatAll 5 none, Cond.fieldLink RX4 9 "RagVats$Vats" "pulp" "[I", Cond.fieldLink RX4 15 "RagVats$Vats" "beat" "[I", Cond.methodLink RX4 55 Lib.Math.min.name, Cond.static Lib.Math.min.name, Cond.initialized "java/lang/Math", Cond.code Lib.Math.min.name Lib.Math.min.code 2 (some .int)]
def wsX0_liveDays_r2 : List Cond := [Cond.methodLink RX4 51 yX4_numberWithPulp, Cond.instanceMethod yX4_numberWithPulp, Cond.selects RX4 yX4_numberWithPulp yX4_numberWithPulp, Cond.code yX4_numberWithPulp cX4_numberWithPulp 3 (some .int), Cond.methodLink RX0 161 yX0_makeSheets, Cond.instanceMethod yX0_makeSheets, Cond.selects RX0 yX0_makeSheets yX0_makeSheets, Cond.code yX0_makeSheets cX0_makeSheets 6 none, Cond.fieldLink RX0 58 "RagVats$Mill" "posts" "LRagVats$Posts;", Cond.fieldLink RX0 44 "RagVats$Mill" "moulds" "LRagVats$Moulds;", Cond.fieldLink RX0 21 "RagVats$Mill" "made" "I", Cond.fieldLink RX0 24 "RagVats$Mill" "worth" "I", Cond.methodLink RX0 135 yX0_sheetsOf, Cond.instanceMethod yX0_sheetsOf, Cond.selects RX0 yX0_sheetsOf yX0_sheetsOf, Cond.code yX0_sheetsOf cX0_sheetsOf 6 (some .int), Cond.methodLink RX0 141 Lib.Math.min.name, Cond.methodLink RX0 129 yX3_vatOf, Cond.instanceMethod yX3_vatOf, Cond.selects RX3 yX3_vatOf yX3_vatOf, Cond.initialized RX3, Cond.code yX3_vatOf cX3_vatOf 2 (some .int), Cond.fieldLink RX3 19 "RagVats$Teams" "vat" "[I", Cond.methodLink RX3 31 yX3_has]
def wsX0_liveDays_r3 : List Cond := [Cond.instanceMethod yX3_has, Cond.selects RX3 yX3_has yX3_has, Cond.code yX3_has cX3_has 2 (some .boolean), Cond.fieldLink RX3 9 "RagVats$Teams" "number" "I", Cond.methodLink RX0 132 yX3_pairOf, Cond.instanceMethod yX3_pairOf, Cond.selects RX3 yX3_pairOf yX3_pairOf, Cond.code yX3_pairOf cX3_pairOf 2 (some .int), Cond.fieldLink RX3 22 "RagVats$Teams" "pair" "[I", Cond.methodLink RX0 138 yX4_beatOf, Cond.instanceMethod yX4_beatOf, Cond.selects RX4 yX4_beatOf yX4_beatOf, Cond.code yX4_beatOf cX4_beatOf 2 (some .int), Cond.static yX5_isBelow, Cond.initialized RX5, Cond.code yX5_isBelow cX5_isBelow 2 (some .boolean), Cond.methodLink RX0 117 yX1_sizeOf, Cond.instanceMethod yX1_sizeOf, Cond.selects RX1 yX1_sizeOf yX1_sizeOf, Cond.initialized RX1, Cond.code yX1_sizeOf cX1_sizeOf 2 (some .int), Cond.fieldLink RX1 19 "RagVats$Moulds" "size" "[I", Cond.methodLink RX1 31 yX1_has, Cond.instanceMethod yX1_has]
def wsX0_liveDays_r4 : List Cond := [Cond.selects RX1 yX1_has yX1_has, Cond.code yX1_has cX1_has 2 (some .boolean), Cond.fieldLink RX1 9 "RagVats$Moulds" "number" "I", Cond.methodLink RX0 126 yX3_skillOf, Cond.instanceMethod yX3_skillOf, Cond.selects RX3 yX3_skillOf yX3_skillOf, Cond.code yX3_skillOf cX3_skillOf 2 (some .int), Cond.fieldLink RX3 15 "RagVats$Teams" "skill" "[I", Cond.methodLink RX0 97 yX0_freeFelts, Cond.instanceMethod yX0_freeFelts, Cond.selects RX0 yX0_freeFelts yX0_freeFelts, Cond.code yX0_freeFelts cX0_freeFelts 1 (some .int), Cond.fieldLink RX0 18 "RagVats$Mill" "felts" "I", Cond.methodLink RX0 147 yX4_pulpOf, Cond.instanceMethod yX4_pulpOf, Cond.selects RX4 yX4_pulpOf yX4_pulpOf, Cond.code yX4_pulpOf cX4_pulpOf 2 (some .int), Cond.methodLink RX0 167 yX0_gradeOf, Cond.instanceMethod yX0_gradeOf, Cond.selects RX0 yX0_gradeOf yX0_gradeOf, Cond.code yX0_gradeOf cX0_gradeOf 4 (some .int), Cond.methodLink RX0 184 yX4_sortOf, Cond.instanceMethod yX4_sortOf, Cond.selects RX4 yX4_sortOf yX4_sortOf]
def wsX0_liveDays_r5 : List Cond := [Cond.code yX4_sortOf cX4_sortOf 2 (some .int), Cond.fieldLink RX4 18 "RagVats$Vats" "sort" "[I", Cond.methodLink RX0 187 yX0_pointsOf, Cond.static yX0_pointsOf, Cond.code yX0_pointsOf cX0_pointsOf 1 (some .int), Cond.methodLink RX0 120 yX1_wornOf, Cond.instanceMethod yX1_wornOf, Cond.selects RX1 yX1_wornOf yX1_wornOf, Cond.code yX1_wornOf cX1_wornOf 2 (some .int), Cond.fieldLink RX1 22 "RagVats$Moulds" "worn" "[I", Cond.methodLink RX0 114 yX1_markOf, Cond.instanceMethod yX1_markOf, Cond.selects RX1 yX1_markOf yX1_markOf, Cond.code yX1_markOf cX1_markOf 2 (some .int), Cond.fieldLink RX1 15 "RagVats$Moulds" "mark" "[I", Cond.methodLink RX0 170 yX2_add, Cond.instanceMethod yX2_add, Cond.selects RX2 yX2_add yX2_add, Cond.initialized RX2, Cond.code yX2_add cX2_add 4 none, Cond.fieldLink RX2 9 "RagVats$Posts" "number" "I", Cond.fieldLink RX2 18 "RagVats$Posts" "mark" "[I", Cond.fieldLink RX2 22 "RagVats$Posts" "grade" "[I", Cond.fieldLink RX2 25 "RagVats$Posts" "sheets" "[I"]
def wsX0_liveDays_r6 : List Cond := [Cond.fieldLink RX2 15 "RagVats$Posts" "allSheets" "I", Cond.static yX5_worthOf, Cond.code yX5_worthOf cX5_worthOf 1 (some .int), Cond.fieldLink RX5 252 "RagVats" "SHEET_WORTH" "[I", Cond.methodLink RX5 19 yX5_isBelow, Cond.methodLink RX0 177 yX4_takeOut, Cond.instanceMethod yX4_takeOut, Cond.selects RX4 yX4_takeOut yX4_takeOut, Cond.code yX4_takeOut cX4_takeOut 3 none, Cond.methodLink RX4 47 yX4_charge, Cond.instanceMethod yX4_charge, Cond.selects RX4 yX4_charge yX4_charge, Cond.code yX4_charge cX4_charge 4 none, Cond.methodLink RX0 181 yX1_wearBySheets, Cond.instanceMethod yX1_wearBySheets, Cond.selects RX1 yX1_wearBySheets yX1_wearBySheets, Cond.code yX1_wearBySheets cX1_wearBySheets 3 none, Cond.methodLink RX1 35 Lib.Math.min.name, Cond.methodLink RX0 164 yX0_pressPosts, Cond.instanceMethod yX0_pressPosts, Cond.selects RX0 yX0_pressPosts yX0_pressPosts, Cond.code yX0_pressPosts cX0_pressPosts 4 none, Cond.methodLink RX0 193 yX2_sheetsOf, Cond.instanceMethod yX2_sheetsOf]
def wsX0_liveDays_r7 : List Cond := [Cond.selects RX2 yX2_sheetsOf yX2_sheetsOf, Cond.code yX2_sheetsOf cX2_sheetsOf 2 (some .int), Cond.methodLink RX2 44 yX2_has, Cond.instanceMethod yX2_has, Cond.selects RX2 yX2_has yX2_has, Cond.code yX2_has cX2_has 2 (some .boolean), Cond.methodLink RX0 194 yX2_markOf, Cond.instanceMethod yX2_markOf, Cond.selects RX2 yX2_markOf yX2_markOf, Cond.code yX2_markOf cX2_markOf 2 (some .int), Cond.methodLink RX0 195 yX2_gradeOf, Cond.instanceMethod yX2_gradeOf, Cond.selects RX2 yX2_gradeOf yX2_gradeOf, Cond.code yX2_gradeOf cX2_gradeOf 2 (some .int), Cond.methodLink RX0 197 yX0_hang, Cond.instanceMethod yX0_hang, Cond.selects RX0 yX0_hang yX0_hang, Cond.code yX0_hang cX0_hang 4 none, Cond.fieldLink RX0 62 "RagVats$Mill" "loft" "[I", Cond.methodLink RX0 200 yX2_takeOff, Cond.instanceMethod yX2_takeOff, Cond.selects RX2 yX2_takeOff yX2_takeOff, Cond.code yX2_takeOff cX2_takeOff 3 none, Cond.methodLink RX0 203 yX2_dropEmptyOnes]
def wsX0_liveDays_r8 : List Cond := [Cond.instanceMethod yX2_dropEmptyOnes, Cond.selects RX2 yX2_dropEmptyOnes yX2_dropEmptyOnes, Cond.code yX2_dropEmptyOnes cX2_dropEmptyOnes 3 none]
def wsX0_liveDays : List Cond := .code yX0_liveDays cX0_liveDays 3 none :: ((wsX0_liveDays_r1 ++ (wsX0_liveDays_r2 ++ (wsX0_liveDays_r3 ++ (wsX0_liveDays_r4 ++ (wsX0_liveDays_r5 ++ (wsX0_liveDays_r6 ++ (wsX0_liveDays_r7 ++ wsX0_liveDays_r8))))))) ++ wsX00 ++ wsX30 ++ wsX40 ++ wsX10 ++ wsX20)
def wsX1_add : List Cond := .code yX1_add cX1_add 3 (some .int) :: ([.fieldLink RX1 9 "RagVats$Moulds" "number" "I", .fieldLink RX1 15 "RagVats$Moulds" "mark" "[I", .fieldLink RX1 19 "RagVats$Moulds" "size" "[I", .fieldLink RX1 22 "RagVats$Moulds" "worn" "[I"] ++ wsX10)
def wsX1_makeNew : List Cond := .code yX1_makeNew cX1_makeNew 2 none :: ([.fieldLink RX1 22 "RagVats$Moulds" "worn" "[I", .methodLink RX1 31 yX1_has, .instanceMethod yX1_has, .selects RX1 yX1_has yX1_has, .initialized RX1, .code yX1_has cX1_has 2 (some .boolean), .fieldLink RX1 9 "RagVats$Moulds" "number" "I"] ++ wsX10)
def wsX2_tell : List Cond := .code yX2_tell cX2_tell 3 (some .int) :: ([.methodLink RX2 34 yX2_markOf, .instanceMethod yX2_markOf, .selects RX2 yX2_markOf yX2_markOf, .initialized RX2, .code yX2_markOf cX2_markOf 2 (some .int), .fieldLink RX2 18 "RagVats$Posts" "mark" "[I", .methodLink RX2 44 yX2_has, .instanceMethod yX2_has, .selects RX2 yX2_has yX2_has, .code yX2_has cX2_has 2 (some .boolean), .fieldLink RX2 9 "RagVats$Posts" "number" "I", .methodLink RX2 38 yX2_gradeOf, .instanceMethod yX2_gradeOf, .selects RX2 yX2_gradeOf yX2_gradeOf, .code yX2_gradeOf cX2_gradeOf 2 (some .int), .fieldLink RX2 22 "RagVats$Posts" "grade" "[I", .methodLink RX2 41 yX2_sheetsOf, .instanceMethod yX2_sheetsOf, .selects RX2 yX2_sheetsOf yX2_sheetsOf, .code yX2_sheetsOf cX2_sheetsOf 2 (some .int), .fieldLink RX2 25 "RagVats$Posts" "sheets" "[I"] ++ wsX20)
def wsX3_add : List Cond := .code yX3_add cX3_add 2 (some .int) :: ([.fieldLink RX3 9 "RagVats$Teams" "number" "I", .fieldLink RX3 15 "RagVats$Teams" "skill" "[I", .fieldLink RX3 19 "RagVats$Teams" "vat" "[I", .fieldLink RX3 22 "RagVats$Teams" "pair" "[I"] ++ wsX30)
def wsX3_send : List Cond := .code yX3_send cX3_send 4 none :: ([.fieldLink RX3 19 "RagVats$Teams" "vat" "[I", .fieldLink RX3 22 "RagVats$Teams" "pair" "[I", .methodLink RX3 31 yX3_has, .instanceMethod yX3_has, .selects RX3 yX3_has yX3_has, .initialized RX3, .code yX3_has cX3_has 2 (some .boolean), .fieldLink RX3 9 "RagVats$Teams" "number" "I"] ++ wsX30)
def wsX4_tell : List Cond := .code yX4_tell cX4_tell 3 (some .int) :: ([.methodLink RX4 37 yX4_pulpOf, .instanceMethod yX4_pulpOf, .selects RX4 yX4_pulpOf yX4_pulpOf, .initialized RX4, .code yX4_pulpOf cX4_pulpOf 2 (some .int), .fieldLink RX4 9 "RagVats$Vats" "pulp" "[I", .static yX5_isBelow, .initialized RX5, .code yX5_isBelow cX5_isBelow 2 (some .boolean), .methodLink RX4 41 yX4_beatOf, .instanceMethod yX4_beatOf, .selects RX4 yX4_beatOf yX4_beatOf, .code yX4_beatOf cX4_beatOf 2 (some .int), .fieldLink RX4 15 "RagVats$Vats" "beat" "[I", .methodLink RX4 44 yX4_sortOf, .instanceMethod yX4_sortOf, .selects RX4 yX4_sortOf yX4_sortOf, .code yX4_sortOf cX4_sortOf 2 (some .int), .fieldLink RX4 18 "RagVats$Vats" "sort" "[I"] ++ wsX40)
def wsX5_init_r1 : List Cond := [Cond.methodLink RX5 1 objectInit, Cond.instanceMethod objectInit, Cond.code objectInit ⟨#[0xb1]⟩ 1 none, Cond.classLink RX5 7 RX0, Cond.instantiable RX0 12, Cond.initialized RX0, Cond.fieldLink RX5 10 "RagVats" "mill" "LRagVats$Mill;", Cond.fieldLink RX5 16 "RagVats" "trial" "LRagVats$Mill;", Cond.methodLink RX5 9 yX0_init, Cond.instanceMethod yX0_init, Cond.code yX0_init cX0_init 1 none, Cond.methodLink RX0 3 objectInit, Cond.fieldLink RX0 9 "RagVats$Mill" "day" "I", Cond.fieldLink RX0 15 "RagVats$Mill" "coins" "I", Cond.fieldLink RX0 18 "RagVats$Mill" "felts" "I", Cond.fieldLink RX0 21 "RagVats$Mill" "made" "I", Cond.fieldLink RX0 24 "RagVats$Mill" "worth" "I", Cond.arrayClass .int, Cond.fieldLink RX0 27 "RagVats$Mill" "rags" "[I", Cond.fieldLink RX0 31 "RagVats$Mill" "water" "[I", Cond.classLink RX0 34 RX4, Cond.instantiable RX4 3, Cond.initialized RX4, Cond.fieldLink RX0 37 "RagVats$Mill" "vats" "LRagVats$Vats;"]
def wsX5_init_r2 : List Cond := [Cond.classLink RX0 41 RX1, Cond.instantiable RX1 4, Cond.initialized RX1, Cond.fieldLink RX0 44 "RagVats$Mill" "moulds" "LRagVats$Moulds;", Cond.classLink RX0 48 RX3, Cond.instantiable RX3 4, Cond.initialized RX3, Cond.fieldLink RX0 51 "RagVats$Mill" "teams" "LRagVats$Teams;", Cond.classLink RX0 55 RX2, Cond.instantiable RX2 5, Cond.initialized RX2, Cond.fieldLink RX0 58 "RagVats$Mill" "posts" "LRagVats$Posts;", Cond.fieldLink RX0 62 "RagVats$Mill" "loft" "[I", Cond.methodLink RX0 36 yX4_init, Cond.instanceMethod yX4_init, Cond.code yX4_init cX4_init 1 none, Cond.methodLink RX4 3 objectInit, Cond.fieldLink RX4 9 "RagVats$Vats" "pulp" "[I", Cond.fieldLink RX4 15 "RagVats$Vats" "beat" "[I", Cond.fieldLink RX4 18 "RagVats$Vats" "sort" "[I", Cond.methodLink RX4 21 yJ7_fill_53178, Cond.static yJ7_fill_53178, Cond.initialized RJ7, Cond.code yJ7_fill_53178 cJ7_fill_53178 4 none]
def wsX5_init_r3 : List Cond := [Cond.instanceMethod yX1_init, Cond.code yX1_init cX1_init 1 none, Cond.methodLink RX1 3 objectInit, Cond.fieldLink RX1 9 "RagVats$Moulds" "number" "I", Cond.fieldLink RX1 15 "RagVats$Moulds" "mark" "[I", Cond.fieldLink RX1 19 "RagVats$Moulds" "size" "[I", Cond.fieldLink RX1 22 "RagVats$Moulds" "worn" "[I", Cond.instanceMethod yX3_init, Cond.code yX3_init cX3_init 1 none, Cond.methodLink RX3 3 objectInit, Cond.fieldLink RX3 9 "RagVats$Teams" "number" "I", Cond.fieldLink RX3 15 "RagVats$Teams" "skill" "[I", Cond.fieldLink RX3 19 "RagVats$Teams" "vat" "[I", Cond.fieldLink RX3 22 "RagVats$Teams" "pair" "[I", Cond.instanceMethod yX2_init, Cond.code yX2_init cX2_init 1 none, Cond.methodLink RX2 3 objectInit, Cond.fieldLink RX2 9 "RagVats$Posts" "number" "I", Cond.fieldLink RX2 15 "RagVats$Posts" "allSheets" "I", Cond.fieldLink RX2 18 "RagVats$Posts" "mark" "[I", Cond.fieldLink RX2 22 "RagVats$Posts" "grade" "[I", Cond.fieldLink RX2 25 "RagVats$Posts" "sheets" "[I", Cond.methodLink RX0 65 yJ7_fill_53178]
def wsX5_init : List Cond := .code yX5_init cX5_init 1 none :: ((wsX5_init_r1 ++ (wsX5_init_r2 ++ wsX5_init_r3)) ++ wsX00 ++ wsX50 ++ wsX40 ++ wsX10 ++ wsX30 ++ wsX20)
def wsX5_isFrom1To : List Cond := .code yX5_isFrom1To cX5_isFrom1To 2 (some .boolean) :: ([])
def wsX5_buy : List Cond := .code yX5_buy cX5_buy 4 (some .int) :: ([.classLink RX5 23 "java/lang/IndexOutOfBoundsException", .initialized "java/lang/IndexOutOfBoundsException", .classLink RX5 33 "java/lang/IllegalArgumentException", .initialized "java/lang/IllegalArgumentException", .classLink RX5 46 "java/lang/IllegalStateException", .initialized "java/lang/IllegalStateException", .fieldLink RX5 38 "RagVats" "PRICES" "[I", .fieldLink RX5 10 "RagVats" "mill" "LRagVats$Mill;", .methodLink RX5 19 yX5_isBelow, .static yX5_isBelow, .initialized RX5, .code yX5_isBelow cX5_isBelow 2 (some .boolean), .methodLink RX5 30 yX5_isFrom1To, .static yX5_isFrom1To, .code yX5_isFrom1To cX5_isFrom1To 2 (some .boolean), .methodLink RX5 56 yX0_takeIn, .instanceMethod yX0_takeIn, .selects RX0 yX0_takeIn yX0_takeIn, .initialized RX0, .code yX0_takeIn cX0_takeIn 3 (some .int), .fieldLink RX0 18 "RagVats$Mill" "felts" "I", .fieldLink RX0 27 "RagVats$Mill" "rags" "[I"] ++ wsX50 ++ wsX00 ++ (vx_atS RX5 27 "java/lang/IndexOutOfBoundsException" ["java/lang/RuntimeException", "java/lang/Exception"]).filter goodWord ++ (vx_atS RX5 37 "java/lang/IllegalArgumentException" ["java/lang/RuntimeException", "java/lang/Exception"]).filter goodWord ++ (vx_atS RX5 50 "java/lang/IllegalStateException" ["java/lang/RuntimeException", "java/lang/Exception"]).filter goodWord)
def wsX5_sell_r1 : List Cond := [Cond.classLink RX5 23 "java/lang/IndexOutOfBoundsException", Cond.initialized "java/lang/IndexOutOfBoundsException", Cond.classLink RX5 33 "java/lang/IllegalArgumentException", Cond.initialized "java/lang/IllegalArgumentException", Cond.classLink RX5 46 "java/lang/IllegalStateException", Cond.initialized "java/lang/IllegalStateException", Cond.fieldLink RX5 10 "RagVats" "mill" "LRagVats$Mill;", Cond.methodLink RX5 19 yX5_isBelow, Cond.static yX5_isBelow, Cond.initialized RX5, Cond.code yX5_isBelow cX5_isBelow 2 (some .boolean), Cond.methodLink RX5 30 yX5_isFrom1To, Cond.static yX5_isFrom1To, Cond.code yX5_isFrom1To cX5_isFrom1To 2 (some .boolean), Cond.methodLink RX5 64 yX0_hanging, Cond.instanceMethod yX0_hanging, Cond.selects RX0 yX0_hanging yX0_hanging, Cond.initialized RX0, Cond.code yX0_hanging cX0_hanging 3 (some .int), Cond.fieldLink RX0 62 "RagVats$Mill" "loft" "[I", Cond.methodLink RX5 69 yX5_worthOf, Cond.static yX5_worthOf, Cond.code yX5_worthOf cX5_worthOf 1 (some .int), Cond.fieldLink RX5 252 "RagVats" "SHEET_WORTH" "[I"]
def wsX5_sell_r2 : List Cond := [Cond.methodLink RX5 73 yX0_hang, Cond.instanceMethod yX0_hang, Cond.selects RX0 yX0_hang yX0_hang, Cond.code yX0_hang cX0_hang 4 none]
def wsX5_sell : List Cond := .code yX5_sell cX5_sell 6 (some .int) :: ((wsX5_sell_r1 ++ wsX5_sell_r2) ++ wsX50 ++ wsX00 ++ (vx_atS RX5 27 "java/lang/IndexOutOfBoundsException" ["java/lang/RuntimeException", "java/lang/Exception"]).filter goodWord ++ (vx_atS RX5 37 "java/lang/IllegalArgumentException" ["java/lang/RuntimeException", "java/lang/Exception"]).filter goodWord ++ (vx_atS RX5 50 "java/lang/IllegalStateException" ["java/lang/RuntimeException", "java/lang/Exception"]).filter goodWord)
def wsX5_fill_r1 : List Cond := [Cond.classLink RX5 23 "java/lang/IndexOutOfBoundsException", Cond.initialized "java/lang/IndexOutOfBoundsException", Cond.classLink RX5 33 "java/lang/IllegalArgumentException", Cond.initialized "java/lang/IllegalArgumentException", Cond.classLink RX5 46 "java/lang/IllegalStateException", Cond.initialized "java/lang/IllegalStateException", Cond.fieldLink RX5 10 "RagVats" "mill" "LRagVats$Mill;", Cond.methodLink RX5 19 yX5_isBelow, Cond.static yX5_isBelow, Cond.initialized RX5, Cond.code yX5_isBelow cX5_isBelow 2 (some .boolean), Cond.methodLink RX5 30 yX5_isFrom1To, Cond.static yX5_isFrom1To, Cond.code yX5_isFrom1To cX5_isFrom1To 2 (some .boolean), Cond.methodLink RX5 85 yX4_pulpOf, Cond.instanceMethod yX4_pulpOf, Cond.selects RX4 yX4_pulpOf yX4_pulpOf, Cond.initialized RX4, Cond.code yX4_pulpOf cX4_pulpOf 2 (some .int), Cond.fieldLink RX4 9 "RagVats$Vats" "pulp" "[I", Cond.methodLink RX5 97 yX4_charge, Cond.instanceMethod yX4_charge, Cond.selects RX4 yX4_charge yX4_charge, Cond.code yX4_charge cX4_charge 4 none]
def wsX5_fill_r2 : List Cond := [Cond.fieldLink RX4 15 "RagVats$Vats" "beat" "[I", Cond.fieldLink RX4 18 "RagVats$Vats" "sort" "[I"]
def wsX5_fill : List Cond := .code yX5_fill cX5_fill 4 (some .int) :: ((wsX5_fill_r1 ++ wsX5_fill_r2) ++ wsX50 ++ wsX00 ++ wsX40 ++ (vx_atS RX5 27 "java/lang/IndexOutOfBoundsException" ["java/lang/RuntimeException", "java/lang/Exception"]).filter goodWord ++ (vx_atS RX5 37 "java/lang/IllegalArgumentException" ["java/lang/RuntimeException", "java/lang/Exception"]).filter goodWord ++ (vx_atS RX5 50 "java/lang/IllegalStateException" ["java/lang/RuntimeException", "java/lang/Exception"]).filter goodWord)
def wsX5_drain_r1 : List Cond := [Cond.classLink RX5 23 "java/lang/IndexOutOfBoundsException", Cond.initialized "java/lang/IndexOutOfBoundsException", Cond.classLink RX5 46 "java/lang/IllegalStateException", Cond.initialized "java/lang/IllegalStateException", Cond.fieldLink RX5 10 "RagVats" "mill" "LRagVats$Mill;", Cond.methodLink RX5 19 yX5_isBelow, Cond.static yX5_isBelow, Cond.initialized RX5, Cond.code yX5_isBelow cX5_isBelow 2 (some .boolean), Cond.methodLink RX5 85 yX4_pulpOf, Cond.instanceMethod yX4_pulpOf, Cond.selects RX4 yX4_pulpOf yX4_pulpOf, Cond.initialized RX4, Cond.code yX4_pulpOf cX4_pulpOf 2 (some .int), Cond.fieldLink RX4 9 "RagVats$Vats" "pulp" "[I", Cond.methodLink RX5 104 yX4_takeOut, Cond.instanceMethod yX4_takeOut, Cond.selects RX4 yX4_takeOut yX4_takeOut, Cond.code yX4_takeOut cX4_takeOut 3 none, Cond.methodLink RX4 47 yX4_charge, Cond.instanceMethod yX4_charge, Cond.selects RX4 yX4_charge yX4_charge, Cond.code yX4_charge cX4_charge 4 none, Cond.fieldLink RX4 15 "RagVats$Vats" "beat" "[I"]
def wsX5_drain_r2 : List Cond := [Cond.fieldLink RX4 18 "RagVats$Vats" "sort" "[I"]
def wsX5_drain : List Cond := .code yX5_drain cX5_drain 3 (some .int) :: ((wsX5_drain_r1 ++ wsX5_drain_r2) ++ wsX50 ++ wsX00 ++ wsX40 ++ (vx_atS RX5 27 "java/lang/IndexOutOfBoundsException" ["java/lang/RuntimeException", "java/lang/Exception"]).filter goodWord ++ (vx_atS RX5 50 "java/lang/IllegalStateException" ["java/lang/RuntimeException", "java/lang/Exception"]).filter goodWord)
def wsX5_pair : List Cond := .code yX5_pair cX5_pair 3 (some .int) :: ([.classLink RX5 23 "java/lang/IndexOutOfBoundsException", .initialized "java/lang/IndexOutOfBoundsException", .classLink RX5 33 "java/lang/IllegalArgumentException", .initialized "java/lang/IllegalArgumentException", .classLink RX5 46 "java/lang/IllegalStateException", .initialized "java/lang/IllegalStateException", .fieldLink RX5 10 "RagVats" "mill" "LRagVats$Mill;", .methodLink RX5 19 yX5_isBelow, .static yX5_isBelow, .initialized RX5, .code yX5_isBelow cX5_isBelow 2 (some .boolean), .methodLink RX5 30 yX5_isFrom1To, .static yX5_isFrom1To, .code yX5_isFrom1To cX5_isFrom1To 2 (some .boolean), .methodLink RX5 123 yX1_add, .instanceMethod yX1_add, .selects RX1 yX1_add yX1_add, .initialized RX1, .code yX1_add cX1_add 3 (some .int), .fieldLink RX1 9 "RagVats$Moulds" "number" "I", .fieldLink RX1 15 "RagVats$Moulds" "mark" "[I", .fieldLink RX1 19 "RagVats$Moulds" "size" "[I", .fieldLink RX1 22 "RagVats$Moulds" "worn" "[I"] ++ wsX50 ++ wsX00 ++ wsX10 ++ (vx_atS RX5 27 "java/lang/IndexOutOfBoundsException" ["java/lang/RuntimeException", "java/lang/Exception"]).filter goodWord ++ (vx_atS RX5 37 "java/lang/IllegalArgumentException" ["java/lang/RuntimeException", "java/lang/Exception"]).filter goodWord ++ (vx_atS RX5 50 "java/lang/IllegalStateException" ["java/lang/RuntimeException", "java/lang/Exception"]).filter goodWord)
def wsX5_wire : List Cond := .code yX5_wire cX5_wire 3 (some .int) :: ([.classLink RX5 23 "java/lang/IndexOutOfBoundsException", .initialized "java/lang/IndexOutOfBoundsException", .classLink RX5 46 "java/lang/IllegalStateException", .initialized "java/lang/IllegalStateException", .fieldLink RX5 10 "RagVats" "mill" "LRagVats$Mill;", .methodLink RX5 126 yX1_has, .instanceMethod yX1_has, .selects RX1 yX1_has yX1_has, .initialized RX1, .code yX1_has cX1_has 2 (some .boolean), .fieldLink RX1 9 "RagVats$Moulds" "number" "I", .methodLink RX5 132 yX1_wornOf, .instanceMethod yX1_wornOf, .selects RX1 yX1_wornOf yX1_wornOf, .code yX1_wornOf cX1_wornOf 2 (some .int), .fieldLink RX1 22 "RagVats$Moulds" "worn" "[I", .methodLink RX1 31 yX1_has, .methodLink RX5 137 yX1_makeNew, .instanceMethod yX1_makeNew, .selects RX1 yX1_makeNew yX1_makeNew, .code yX1_makeNew cX1_makeNew 2 none] ++ wsX50 ++ wsX00 ++ wsX10 ++ (vx_atS RX5 27 "java/lang/IndexOutOfBoundsException" ["java/lang/RuntimeException", "java/lang/Exception"]).filter goodWord ++ (vx_atS RX5 50 "java/lang/IllegalStateException" ["java/lang/RuntimeException", "java/lang/Exception"]).filter goodWord)
def wsX5_team : List Cond := .code yX5_team cX5_team 2 (some .int) :: ([.classLink RX5 33 "java/lang/IllegalArgumentException", .initialized "java/lang/IllegalArgumentException", .classLink RX5 46 "java/lang/IllegalStateException", .initialized "java/lang/IllegalStateException", .fieldLink RX5 10 "RagVats" "mill" "LRagVats$Mill;", .methodLink RX5 30 yX5_isFrom1To, .static yX5_isFrom1To, .initialized RX5, .code yX5_isFrom1To cX5_isFrom1To 2 (some .boolean), .methodLink RX5 152 yX3_add, .instanceMethod yX3_add, .selects RX3 yX3_add yX3_add, .initialized RX3, .code yX3_add cX3_add 2 (some .int), .fieldLink RX3 9 "RagVats$Teams" "number" "I", .fieldLink RX3 15 "RagVats$Teams" "skill" "[I", .fieldLink RX3 19 "RagVats$Teams" "vat" "[I", .fieldLink RX3 22 "RagVats$Teams" "pair" "[I"] ++ wsX50 ++ wsX00 ++ wsX30 ++ (vx_atS RX5 37 "java/lang/IllegalArgumentException" ["java/lang/RuntimeException", "java/lang/Exception"]).filter goodWord ++ (vx_atS RX5 50 "java/lang/IllegalStateException" ["java/lang/RuntimeException", "java/lang/Exception"]).filter goodWord)
def wsX5_place_r1 : List Cond := [Cond.classLink RX5 23 "java/lang/IndexOutOfBoundsException", Cond.initialized "java/lang/IndexOutOfBoundsException", Cond.classLink RX5 46 "java/lang/IllegalStateException", Cond.initialized "java/lang/IllegalStateException", Cond.fieldLink RX5 10 "RagVats" "mill" "LRagVats$Mill;", Cond.methodLink RX5 154 yX3_has, Cond.instanceMethod yX3_has, Cond.selects RX3 yX3_has yX3_has, Cond.initialized RX3, Cond.code yX3_has cX3_has 2 (some .boolean), Cond.fieldLink RX3 9 "RagVats$Teams" "number" "I", Cond.methodLink RX5 19 yX5_isBelow, Cond.static yX5_isBelow, Cond.initialized RX5, Cond.code yX5_isBelow cX5_isBelow 2 (some .boolean), Cond.methodLink RX5 126 yX1_has, Cond.instanceMethod yX1_has, Cond.selects RX1 yX1_has yX1_has, Cond.initialized RX1, Cond.code yX1_has cX1_has 2 (some .boolean), Cond.fieldLink RX1 9 "RagVats$Moulds" "number" "I", Cond.methodLink RX5 157 yX3_holderOf, Cond.instanceMethod yX3_holderOf, Cond.selects RX3 yX3_holderOf yX3_holderOf]
def wsX5_place_r2 : List Cond := [Cond.code yX3_holderOf cX3_holderOf 3 (some .int), Cond.methodLink RX3 35 yX3_pairOf, Cond.instanceMethod yX3_pairOf, Cond.selects RX3 yX3_pairOf yX3_pairOf, Cond.code yX3_pairOf cX3_pairOf 2 (some .int), Cond.fieldLink RX3 22 "RagVats$Teams" "pair" "[I", Cond.methodLink RX3 31 yX3_has, Cond.methodLink RX5 162 yX3_send, Cond.instanceMethod yX3_send, Cond.selects RX3 yX3_send yX3_send, Cond.code yX3_send cX3_send 4 none, Cond.fieldLink RX3 19 "RagVats$Teams" "vat" "[I", Cond.methodLink RX5 165 yX0_sheetsOf, Cond.instanceMethod yX0_sheetsOf, Cond.selects RX0 yX0_sheetsOf yX0_sheetsOf, Cond.initialized RX0, Cond.code yX0_sheetsOf cX0_sheetsOf 6 (some .int), Cond.fieldLink RX0 51 "RagVats$Mill" "teams" "LRagVats$Teams;", Cond.fieldLink RX0 37 "RagVats$Mill" "vats" "LRagVats$Vats;", Cond.fieldLink RX0 44 "RagVats$Mill" "moulds" "LRagVats$Moulds;", Cond.methodLink RX0 141 Lib.Math.min.name, Cond.static Lib.Math.min.name, Cond.initialized "java/lang/Math", Cond.code Lib.Math.min.name Lib.Math.min.code 2 (some .int)]
def wsX5_place_r3 : List Cond := [Cond.methodLink RX0 129 yX3_vatOf, Cond.instanceMethod yX3_vatOf, Cond.selects RX3 yX3_vatOf yX3_vatOf, Cond.code yX3_vatOf cX3_vatOf 2 (some .int), Cond.methodLink RX0 132 yX3_pairOf, Cond.methodLink RX0 138 yX4_beatOf, Cond.instanceMethod yX4_beatOf, Cond.selects RX4 yX4_beatOf yX4_beatOf, Cond.initialized RX4, Cond.code yX4_beatOf cX4_beatOf 2 (some .int), Cond.fieldLink RX4 15 "RagVats$Vats" "beat" "[I", Cond.methodLink RX0 117 yX1_sizeOf, Cond.instanceMethod yX1_sizeOf, Cond.selects RX1 yX1_sizeOf yX1_sizeOf, Cond.code yX1_sizeOf cX1_sizeOf 2 (some .int), Cond.fieldLink RX1 19 "RagVats$Moulds" "size" "[I", Cond.methodLink RX1 31 yX1_has, Cond.methodLink RX0 126 yX3_skillOf, Cond.instanceMethod yX3_skillOf, Cond.selects RX3 yX3_skillOf yX3_skillOf, Cond.code yX3_skillOf cX3_skillOf 2 (some .int), Cond.fieldLink RX3 15 "RagVats$Teams" "skill" "[I", Cond.methodLink RX0 97 yX0_freeFelts, Cond.instanceMethod yX0_freeFelts]
def wsX5_place_r4 : List Cond := [Cond.selects RX0 yX0_freeFelts yX0_freeFelts, Cond.code yX0_freeFelts cX0_freeFelts 1 (some .int), Cond.fieldLink RX0 18 "RagVats$Mill" "felts" "I", Cond.fieldLink RX0 58 "RagVats$Mill" "posts" "LRagVats$Posts;", Cond.methodLink RX0 147 yX4_pulpOf, Cond.instanceMethod yX4_pulpOf, Cond.selects RX4 yX4_pulpOf yX4_pulpOf, Cond.code yX4_pulpOf cX4_pulpOf 2 (some .int), Cond.fieldLink RX4 9 "RagVats$Vats" "pulp" "[I"]
def wsX5_place : List Cond := .code yX5_place cX5_place 5 (some .int) :: ((wsX5_place_r1 ++ (wsX5_place_r2 ++ (wsX5_place_r3 ++ wsX5_place_r4))) ++ wsX50 ++ wsX00 ++ wsX30 ++ wsX10 ++ wsX40 ++ wsX20 ++ (vx_atS RX5 27 "java/lang/IndexOutOfBoundsException" ["java/lang/RuntimeException", "java/lang/Exception"]).filter goodWord ++ (vx_atS RX5 50 "java/lang/IllegalStateException" ["java/lang/RuntimeException", "java/lang/Exception"]).filter goodWord)
def wsX5_setWater : List Cond := .code yX5_setWater cX5_setWater 4 (some .int) :: ([.classLink RX5 23 "java/lang/IndexOutOfBoundsException", .initialized "java/lang/IndexOutOfBoundsException", .classLink RX5 33 "java/lang/IllegalArgumentException", .initialized "java/lang/IllegalArgumentException", .fieldLink RX5 10 "RagVats" "mill" "LRagVats$Mill;", .methodLink RX5 19 yX5_isBelow, .static yX5_isBelow, .initialized RX5, .code yX5_isBelow cX5_isBelow 2 (some .boolean)] ++ wsX50 ++ wsX00 ++ (vx_atS RX5 27 "java/lang/IndexOutOfBoundsException" ["java/lang/RuntimeException", "java/lang/Exception"]).filter goodWord ++ (vx_atS RX5 37 "java/lang/IllegalArgumentException" ["java/lang/RuntimeException", "java/lang/Exception"]).filter goodWord)
def wsX5_about_r1 : List Cond := [Cond.classLink RX5 23 "java/lang/IndexOutOfBoundsException", Cond.initialized "java/lang/IndexOutOfBoundsException", Cond.fieldLink RX5 10 "RagVats" "mill" "LRagVats$Mill;", Cond.methodLink RX5 19 yX5_isBelow, Cond.static yX5_isBelow, Cond.initialized RX5, Cond.code yX5_isBelow cX5_isBelow 2 (some .boolean), Cond.methodLink RX5 177 yX4_tell, Cond.instanceMethod yX4_tell, Cond.selects RX4 yX4_tell yX4_tell, Cond.initialized RX4, Cond.code yX4_tell cX4_tell 3 (some .int), Cond.methodLink RX4 37 yX4_pulpOf, Cond.instanceMethod yX4_pulpOf, Cond.selects RX4 yX4_pulpOf yX4_pulpOf, Cond.code yX4_pulpOf cX4_pulpOf 2 (some .int), Cond.fieldLink RX4 9 "RagVats$Vats" "pulp" "[I", Cond.methodLink RX4 41 yX4_beatOf, Cond.instanceMethod yX4_beatOf, Cond.selects RX4 yX4_beatOf yX4_beatOf, Cond.code yX4_beatOf cX4_beatOf 2 (some .int), Cond.fieldLink RX4 15 "RagVats$Vats" "beat" "[I", Cond.methodLink RX4 44 yX4_sortOf, Cond.instanceMethod yX4_sortOf]
def wsX5_about_r2 : List Cond := [Cond.selects RX4 yX4_sortOf yX4_sortOf, Cond.code yX4_sortOf cX4_sortOf 2 (some .int), Cond.fieldLink RX4 18 "RagVats$Vats" "sort" "[I"]
def wsX5_about : List Cond := .code yX5_about cX5_about 3 (some .int) :: ((wsX5_about_r1 ++ wsX5_about_r2) ++ wsX50 ++ wsX00 ++ wsX40 ++ (vx_atS RX5 27 "java/lang/IndexOutOfBoundsException" ["java/lang/RuntimeException", "java/lang/Exception"]).filter goodWord)
def wsX5_mould_r1 : List Cond := [Cond.classLink RX5 23 "java/lang/IndexOutOfBoundsException", Cond.initialized "java/lang/IndexOutOfBoundsException", Cond.fieldLink RX5 10 "RagVats" "mill" "LRagVats$Mill;", Cond.methodLink RX5 126 yX1_has, Cond.instanceMethod yX1_has, Cond.selects RX1 yX1_has yX1_has, Cond.initialized RX1, Cond.code yX1_has cX1_has 2 (some .boolean), Cond.fieldLink RX1 9 "RagVats$Moulds" "number" "I", Cond.methodLink RX5 19 yX5_isBelow, Cond.static yX5_isBelow, Cond.initialized RX5, Cond.code yX5_isBelow cX5_isBelow 2 (some .boolean), Cond.methodLink RX5 182 yX0_tellPair, Cond.instanceMethod yX0_tellPair, Cond.selects RX0 yX0_tellPair yX0_tellPair, Cond.initialized RX0, Cond.code yX0_tellPair cX0_tellPair 3 (some .int), Cond.fieldLink RX0 44 "RagVats$Mill" "moulds" "LRagVats$Moulds;", Cond.fieldLink RX0 51 "RagVats$Mill" "teams" "LRagVats$Teams;", Cond.methodLink RX0 114 yX1_markOf, Cond.instanceMethod yX1_markOf, Cond.selects RX1 yX1_markOf yX1_markOf, Cond.code yX1_markOf cX1_markOf 2 (some .int)]
def wsX5_mould_r2 : List Cond := [Cond.fieldLink RX1 15 "RagVats$Moulds" "mark" "[I", Cond.methodLink RX1 31 yX1_has, Cond.methodLink RX0 117 yX1_sizeOf, Cond.instanceMethod yX1_sizeOf, Cond.selects RX1 yX1_sizeOf yX1_sizeOf, Cond.code yX1_sizeOf cX1_sizeOf 2 (some .int), Cond.fieldLink RX1 19 "RagVats$Moulds" "size" "[I", Cond.methodLink RX0 120 yX1_wornOf, Cond.instanceMethod yX1_wornOf, Cond.selects RX1 yX1_wornOf yX1_wornOf, Cond.code yX1_wornOf cX1_wornOf 2 (some .int), Cond.fieldLink RX1 22 "RagVats$Moulds" "worn" "[I", Cond.methodLink RX0 123 yX3_holderOf, Cond.instanceMethod yX3_holderOf, Cond.selects RX3 yX3_holderOf yX3_holderOf, Cond.initialized RX3, Cond.code yX3_holderOf cX3_holderOf 3 (some .int), Cond.fieldLink RX3 9 "RagVats$Teams" "number" "I", Cond.methodLink RX3 35 yX3_pairOf, Cond.instanceMethod yX3_pairOf, Cond.selects RX3 yX3_pairOf yX3_pairOf, Cond.code yX3_pairOf cX3_pairOf 2 (some .int), Cond.fieldLink RX3 22 "RagVats$Teams" "pair" "[I", Cond.methodLink RX3 31 yX3_has]
def wsX5_mould_r3 : List Cond := [Cond.instanceMethod yX3_has, Cond.selects RX3 yX3_has yX3_has, Cond.code yX3_has cX3_has 2 (some .boolean)]
def wsX5_mould : List Cond := .code yX5_mould cX5_mould 3 (some .int) :: ((wsX5_mould_r1 ++ (wsX5_mould_r2 ++ wsX5_mould_r3)) ++ wsX50 ++ wsX00 ++ wsX10 ++ wsX30 ++ (vx_atS RX5 27 "java/lang/IndexOutOfBoundsException" ["java/lang/RuntimeException", "java/lang/Exception"]).filter goodWord)
def wsX5_told_r1 : List Cond := [Cond.classLink RX5 23 "java/lang/IndexOutOfBoundsException", Cond.initialized "java/lang/IndexOutOfBoundsException", Cond.fieldLink RX5 10 "RagVats" "mill" "LRagVats$Mill;", Cond.methodLink RX5 154 yX3_has, Cond.instanceMethod yX3_has, Cond.selects RX3 yX3_has yX3_has, Cond.initialized RX3, Cond.code yX3_has cX3_has 2 (some .boolean), Cond.fieldLink RX3 9 "RagVats$Teams" "number" "I", Cond.methodLink RX5 19 yX5_isBelow, Cond.static yX5_isBelow, Cond.initialized RX5, Cond.code yX5_isBelow cX5_isBelow 2 (some .boolean), Cond.methodLink RX5 187 yX0_tellTeam, Cond.instanceMethod yX0_tellTeam, Cond.selects RX0 yX0_tellTeam yX0_tellTeam, Cond.initialized RX0, Cond.code yX0_tellTeam cX0_tellTeam 3 (some .int), Cond.fieldLink RX0 51 "RagVats$Mill" "teams" "LRagVats$Teams;", Cond.methodLink RX0 126 yX3_skillOf, Cond.instanceMethod yX3_skillOf, Cond.selects RX3 yX3_skillOf yX3_skillOf, Cond.code yX3_skillOf cX3_skillOf 2 (some .int), Cond.fieldLink RX3 15 "RagVats$Teams" "skill" "[I"]
def wsX5_told_r2 : List Cond := [Cond.methodLink RX3 31 yX3_has, Cond.methodLink RX0 129 yX3_vatOf, Cond.instanceMethod yX3_vatOf, Cond.selects RX3 yX3_vatOf yX3_vatOf, Cond.code yX3_vatOf cX3_vatOf 2 (some .int), Cond.fieldLink RX3 19 "RagVats$Teams" "vat" "[I", Cond.methodLink RX0 132 yX3_pairOf, Cond.instanceMethod yX3_pairOf, Cond.selects RX3 yX3_pairOf yX3_pairOf, Cond.code yX3_pairOf cX3_pairOf 2 (some .int), Cond.fieldLink RX3 22 "RagVats$Teams" "pair" "[I", Cond.methodLink RX0 135 yX0_sheetsOf, Cond.instanceMethod yX0_sheetsOf, Cond.selects RX0 yX0_sheetsOf yX0_sheetsOf, Cond.code yX0_sheetsOf cX0_sheetsOf 6 (some .int), Cond.fieldLink RX0 37 "RagVats$Mill" "vats" "LRagVats$Vats;", Cond.fieldLink RX0 44 "RagVats$Mill" "moulds" "LRagVats$Moulds;", Cond.methodLink RX0 141 Lib.Math.min.name, Cond.static Lib.Math.min.name, Cond.initialized "java/lang/Math", Cond.code Lib.Math.min.name Lib.Math.min.code 2 (some .int), Cond.methodLink RX0 138 yX4_beatOf, Cond.instanceMethod yX4_beatOf, Cond.selects RX4 yX4_beatOf yX4_beatOf]
def wsX5_told_r3 : List Cond := [Cond.initialized RX4, Cond.code yX4_beatOf cX4_beatOf 2 (some .int), Cond.fieldLink RX4 15 "RagVats$Vats" "beat" "[I", Cond.methodLink RX0 117 yX1_sizeOf, Cond.instanceMethod yX1_sizeOf, Cond.selects RX1 yX1_sizeOf yX1_sizeOf, Cond.initialized RX1, Cond.code yX1_sizeOf cX1_sizeOf 2 (some .int), Cond.fieldLink RX1 19 "RagVats$Moulds" "size" "[I", Cond.methodLink RX1 31 yX1_has, Cond.instanceMethod yX1_has, Cond.selects RX1 yX1_has yX1_has, Cond.code yX1_has cX1_has 2 (some .boolean), Cond.fieldLink RX1 9 "RagVats$Moulds" "number" "I", Cond.methodLink RX0 97 yX0_freeFelts, Cond.instanceMethod yX0_freeFelts, Cond.selects RX0 yX0_freeFelts yX0_freeFelts, Cond.code yX0_freeFelts cX0_freeFelts 1 (some .int), Cond.fieldLink RX0 18 "RagVats$Mill" "felts" "I", Cond.fieldLink RX0 58 "RagVats$Mill" "posts" "LRagVats$Posts;", Cond.methodLink RX0 147 yX4_pulpOf, Cond.instanceMethod yX4_pulpOf, Cond.selects RX4 yX4_pulpOf yX4_pulpOf, Cond.code yX4_pulpOf cX4_pulpOf 2 (some .int)]
def wsX5_told_r4 : List Cond := [Cond.fieldLink RX4 9 "RagVats$Vats" "pulp" "[I"]
def wsX5_told : List Cond := .code yX5_told cX5_told 3 (some .int) :: ((wsX5_told_r1 ++ (wsX5_told_r2 ++ (wsX5_told_r3 ++ wsX5_told_r4))) ++ wsX50 ++ wsX00 ++ wsX30 ++ wsX40 ++ wsX10 ++ wsX20 ++ (vx_atS RX5 27 "java/lang/IndexOutOfBoundsException" ["java/lang/RuntimeException", "java/lang/Exception"]).filter goodWord)
def wsX5_post_r1 : List Cond := [Cond.classLink RX5 23 "java/lang/IndexOutOfBoundsException", Cond.initialized "java/lang/IndexOutOfBoundsException", Cond.fieldLink RX5 10 "RagVats" "mill" "LRagVats$Mill;", Cond.methodLink RX5 194 yX2_has, Cond.instanceMethod yX2_has, Cond.selects RX2 yX2_has yX2_has, Cond.initialized RX2, Cond.code yX2_has cX2_has 2 (some .boolean), Cond.fieldLink RX2 9 "RagVats$Posts" "number" "I", Cond.methodLink RX5 19 yX5_isBelow, Cond.static yX5_isBelow, Cond.initialized RX5, Cond.code yX5_isBelow cX5_isBelow 2 (some .boolean), Cond.methodLink RX5 199 yX2_tell, Cond.instanceMethod yX2_tell, Cond.selects RX2 yX2_tell yX2_tell, Cond.code yX2_tell cX2_tell 3 (some .int), Cond.methodLink RX2 34 yX2_markOf, Cond.instanceMethod yX2_markOf, Cond.selects RX2 yX2_markOf yX2_markOf, Cond.code yX2_markOf cX2_markOf 2 (some .int), Cond.fieldLink RX2 18 "RagVats$Posts" "mark" "[I", Cond.methodLink RX2 44 yX2_has, Cond.methodLink RX2 38 yX2_gradeOf]
def wsX5_post_r2 : List Cond := [Cond.instanceMethod yX2_gradeOf, Cond.selects RX2 yX2_gradeOf yX2_gradeOf, Cond.code yX2_gradeOf cX2_gradeOf 2 (some .int), Cond.fieldLink RX2 22 "RagVats$Posts" "grade" "[I", Cond.methodLink RX2 41 yX2_sheetsOf, Cond.instanceMethod yX2_sheetsOf, Cond.selects RX2 yX2_sheetsOf yX2_sheetsOf, Cond.code yX2_sheetsOf cX2_sheetsOf 2 (some .int), Cond.fieldLink RX2 25 "RagVats$Posts" "sheets" "[I"]
def wsX5_post : List Cond := .code yX5_post cX5_post 3 (some .int) :: ((wsX5_post_r1 ++ wsX5_post_r2) ++ wsX50 ++ wsX00 ++ wsX20 ++ (vx_atS RX5 27 "java/lang/IndexOutOfBoundsException" ["java/lang/RuntimeException", "java/lang/Exception"]).filter goodWord)
def wsX5_loft : List Cond := .code yX5_loft cX5_loft 3 (some .int) :: ([.classLink RX5 23 "java/lang/IndexOutOfBoundsException", .initialized "java/lang/IndexOutOfBoundsException", .fieldLink RX5 10 "RagVats" "mill" "LRagVats$Mill;", .methodLink RX5 19 yX5_isBelow, .static yX5_isBelow, .initialized RX5, .code yX5_isBelow cX5_isBelow 2 (some .boolean), .methodLink RX5 64 yX0_hanging, .instanceMethod yX0_hanging, .selects RX0 yX0_hanging yX0_hanging, .initialized RX0, .code yX0_hanging cX0_hanging 3 (some .int), .fieldLink RX0 62 "RagVats$Mill" "loft" "[I"] ++ wsX50 ++ wsX00 ++ (vx_atS RX5 27 "java/lang/IndexOutOfBoundsException" ["java/lang/RuntimeException", "java/lang/Exception"]).filter goodWord)
def wsX5_count_r1 : List Cond := [Cond.classLink RX5 23 "java/lang/IndexOutOfBoundsException", Cond.initialized "java/lang/IndexOutOfBoundsException", Cond.fieldLink RX5 10 "RagVats" "mill" "LRagVats$Mill;", Cond.methodLink RX5 19 yX5_isBelow, Cond.static yX5_isBelow, Cond.initialized RX5, Cond.code yX5_isBelow cX5_isBelow 2 (some .boolean), Cond.methodLink RX5 202 yX0_tell, Cond.instanceMethod yX0_tell, Cond.selects RX0 yX0_tell yX0_tell, Cond.initialized RX0, Cond.code yX0_tell cX0_tell 2 (some .int), Cond.fieldLink RX0 9 "RagVats$Mill" "day" "I", Cond.fieldLink RX0 15 "RagVats$Mill" "coins" "I", Cond.fieldLink RX0 18 "RagVats$Mill" "felts" "I", Cond.fieldLink RX0 21 "RagVats$Mill" "made" "I", Cond.fieldLink RX0 24 "RagVats$Mill" "worth" "I", Cond.fieldLink RX0 58 "RagVats$Mill" "posts" "LRagVats$Posts;", Cond.fieldLink RX0 37 "RagVats$Mill" "vats" "LRagVats$Vats;", Cond.methodLink RX0 97 yX0_freeFelts, Cond.instanceMethod yX0_freeFelts, Cond.selects RX0 yX0_freeFelts yX0_freeFelts, Cond.code yX0_freeFelts cX0_freeFelts 1 (some .int), Cond.methodLink RX0 104 yX0_allHanging]
def wsX5_count_r2 : List Cond := [Cond.instanceMethod yX0_allHanging, Cond.selects RX0 yX0_allHanging yX0_allHanging, Cond.code yX0_allHanging cX0_allHanging 3 (some .int), Cond.fieldLink RX0 62 "RagVats$Mill" "loft" "[I", Cond.methodLink RX0 107 yX4_allPulp, Cond.instanceMethod yX4_allPulp, Cond.selects RX4 yX4_allPulp yX4_allPulp, Cond.initialized RX4, Cond.code yX4_allPulp cX4_allPulp 3 (some .int), Cond.fieldLink RX4 9 "RagVats$Vats" "pulp" "[I", Cond.methodLink RX0 110 yX0_poundsOf, Cond.instanceMethod yX0_poundsOf, Cond.selects RX0 yX0_poundsOf yX0_poundsOf, Cond.code yX0_poundsOf cX0_poundsOf 2 (some .int), Cond.fieldLink RX0 27 "RagVats$Mill" "rags" "[I"]
def wsX5_count : List Cond := .code yX5_count cX5_count 2 (some .int) :: ((wsX5_count_r1 ++ wsX5_count_r2) ++ wsX50 ++ wsX00 ++ wsX20 ++ wsX40 ++ (vx_atS RX5 27 "java/lang/IndexOutOfBoundsException" ["java/lang/RuntimeException", "java/lang/Exception"]).filter goodWord)
def wsX5_pass_r1 : List Cond := [Cond.classLink RX5 33 "java/lang/IllegalArgumentException", Cond.initialized "java/lang/IllegalArgumentException", Cond.fieldLink RX5 10 "RagVats" "mill" "LRagVats$Mill;", Cond.methodLink RX5 30 yX5_isFrom1To, Cond.static yX5_isFrom1To, Cond.initialized RX5, Cond.code yX5_isFrom1To cX5_isFrom1To 2 (some .boolean), Cond.methodLink RX5 209 yX0_liveDays, Cond.instanceMethod yX0_liveDays, Cond.selects RX0 yX0_liveDays yX0_liveDays, Cond.initialized RX0, Cond.code yX0_liveDays cX0_liveDays 3 none, Cond.methodLink RX0 150 yX0_liveDay, Cond.instanceMethod yX0_liveDay, Cond.selects RX0 yX0_liveDay yX0_liveDay, Cond.code yX0_liveDay cX0_liveDay 2 none, Cond.fieldLink RX0 37 "RagVats$Mill" "vats" "LRagVats$Vats;", Cond.fieldLink RX0 31 "RagVats$Mill" "water" "[I", Cond.fieldLink RX0 9 "RagVats$Mill" "day" "I", Cond.fieldLink RX0 51 "RagVats$Mill" "teams" "LRagVats$Teams;", Cond.methodLink RX0 153 yJ9_floorMod_7cf53, Cond.static yJ9_floorMod_7cf53, Cond.initialized RJ9, Cond.code yJ9_floorMod_7cf53 cJ9_floorMod_7cf53 3 (some .int)]
def wsX5_pass_r2 : List Cond := [Cond.methodLink RX0 156 yX4_beatAll, Cond.instanceMethod yX4_beatAll, Cond.selects RX4 yX4_beatAll yX4_beatAll, Cond.initialized RX4, Cond.code yX4_beatAll cX4_beatAll 5 none, Cond.fieldLink RX4 9 "RagVats$Vats" "pulp" "[I", Cond.fieldLink RX4 15 "RagVats$Vats" "beat" "[I", Cond.methodLink RX4 55 Lib.Math.min.name, Cond.static Lib.Math.min.name, Cond.initialized "java/lang/Math", Cond.code Lib.Math.min.name Lib.Math.min.code 2 (some .int), Cond.methodLink RX4 51 yX4_numberWithPulp, Cond.instanceMethod yX4_numberWithPulp, Cond.selects RX4 yX4_numberWithPulp yX4_numberWithPulp, Cond.code yX4_numberWithPulp cX4_numberWithPulp 3 (some .int), Cond.methodLink RX0 161 yX0_makeSheets, Cond.instanceMethod yX0_makeSheets, Cond.selects RX0 yX0_makeSheets yX0_makeSheets, Cond.code yX0_makeSheets cX0_makeSheets 6 none, Cond.fieldLink RX0 58 "RagVats$Mill" "posts" "LRagVats$Posts;", Cond.fieldLink RX0 44 "RagVats$Mill" "moulds" "LRagVats$Moulds;", Cond.fieldLink RX0 21 "RagVats$Mill" "made" "I", Cond.fieldLink RX0 24 "RagVats$Mill" "worth" "I", Cond.methodLink RX0 135 yX0_sheetsOf]
def wsX5_pass_r3 : List Cond := [Cond.instanceMethod yX0_sheetsOf, Cond.selects RX0 yX0_sheetsOf yX0_sheetsOf, Cond.code yX0_sheetsOf cX0_sheetsOf 6 (some .int), Cond.methodLink RX0 141 Lib.Math.min.name, Cond.methodLink RX0 129 yX3_vatOf, Cond.instanceMethod yX3_vatOf, Cond.selects RX3 yX3_vatOf yX3_vatOf, Cond.initialized RX3, Cond.code yX3_vatOf cX3_vatOf 2 (some .int), Cond.fieldLink RX3 19 "RagVats$Teams" "vat" "[I", Cond.methodLink RX3 31 yX3_has, Cond.instanceMethod yX3_has, Cond.selects RX3 yX3_has yX3_has, Cond.code yX3_has cX3_has 2 (some .boolean), Cond.fieldLink RX3 9 "RagVats$Teams" "number" "I", Cond.methodLink RX0 132 yX3_pairOf, Cond.instanceMethod yX3_pairOf, Cond.selects RX3 yX3_pairOf yX3_pairOf, Cond.code yX3_pairOf cX3_pairOf 2 (some .int), Cond.fieldLink RX3 22 "RagVats$Teams" "pair" "[I", Cond.methodLink RX0 138 yX4_beatOf, Cond.instanceMethod yX4_beatOf, Cond.selects RX4 yX4_beatOf yX4_beatOf, Cond.code yX4_beatOf cX4_beatOf 2 (some .int)]
def wsX5_pass_r4 : List Cond := [Cond.static yX5_isBelow, Cond.code yX5_isBelow cX5_isBelow 2 (some .boolean), Cond.methodLink RX0 117 yX1_sizeOf, Cond.instanceMethod yX1_sizeOf, Cond.selects RX1 yX1_sizeOf yX1_sizeOf, Cond.initialized RX1, Cond.code yX1_sizeOf cX1_sizeOf 2 (some .int), Cond.fieldLink RX1 19 "RagVats$Moulds" "size" "[I", Cond.methodLink RX1 31 yX1_has, Cond.instanceMethod yX1_has, Cond.selects RX1 yX1_has yX1_has, Cond.code yX1_has cX1_has 2 (some .boolean), Cond.fieldLink RX1 9 "RagVats$Moulds" "number" "I", Cond.methodLink RX0 126 yX3_skillOf, Cond.instanceMethod yX3_skillOf, Cond.selects RX3 yX3_skillOf yX3_skillOf, Cond.code yX3_skillOf cX3_skillOf 2 (some .int), Cond.fieldLink RX3 15 "RagVats$Teams" "skill" "[I", Cond.methodLink RX0 97 yX0_freeFelts, Cond.instanceMethod yX0_freeFelts, Cond.selects RX0 yX0_freeFelts yX0_freeFelts, Cond.code yX0_freeFelts cX0_freeFelts 1 (some .int), Cond.fieldLink RX0 18 "RagVats$Mill" "felts" "I", Cond.methodLink RX0 147 yX4_pulpOf]
def wsX5_pass_r5 : List Cond := [Cond.instanceMethod yX4_pulpOf, Cond.selects RX4 yX4_pulpOf yX4_pulpOf, Cond.code yX4_pulpOf cX4_pulpOf 2 (some .int), Cond.methodLink RX0 167 yX0_gradeOf, Cond.instanceMethod yX0_gradeOf, Cond.selects RX0 yX0_gradeOf yX0_gradeOf, Cond.code yX0_gradeOf cX0_gradeOf 4 (some .int), Cond.methodLink RX0 184 yX4_sortOf, Cond.instanceMethod yX4_sortOf, Cond.selects RX4 yX4_sortOf yX4_sortOf, Cond.code yX4_sortOf cX4_sortOf 2 (some .int), Cond.fieldLink RX4 18 "RagVats$Vats" "sort" "[I", Cond.methodLink RX0 187 yX0_pointsOf, Cond.static yX0_pointsOf, Cond.code yX0_pointsOf cX0_pointsOf 1 (some .int), Cond.methodLink RX0 120 yX1_wornOf, Cond.instanceMethod yX1_wornOf, Cond.selects RX1 yX1_wornOf yX1_wornOf, Cond.code yX1_wornOf cX1_wornOf 2 (some .int), Cond.fieldLink RX1 22 "RagVats$Moulds" "worn" "[I", Cond.methodLink RX0 114 yX1_markOf, Cond.instanceMethod yX1_markOf, Cond.selects RX1 yX1_markOf yX1_markOf, Cond.code yX1_markOf cX1_markOf 2 (some .int)]
def wsX5_pass_r6 : List Cond := [Cond.fieldLink RX1 15 "RagVats$Moulds" "mark" "[I", Cond.methodLink RX0 170 yX2_add, Cond.instanceMethod yX2_add, Cond.selects RX2 yX2_add yX2_add, Cond.initialized RX2, Cond.code yX2_add cX2_add 4 none, Cond.fieldLink RX2 9 "RagVats$Posts" "number" "I", Cond.fieldLink RX2 18 "RagVats$Posts" "mark" "[I", Cond.fieldLink RX2 22 "RagVats$Posts" "grade" "[I", Cond.fieldLink RX2 25 "RagVats$Posts" "sheets" "[I", Cond.fieldLink RX2 15 "RagVats$Posts" "allSheets" "I", Cond.static yX5_worthOf, Cond.code yX5_worthOf cX5_worthOf 1 (some .int), Cond.fieldLink RX5 252 "RagVats" "SHEET_WORTH" "[I", Cond.methodLink RX5 19 yX5_isBelow, Cond.methodLink RX0 177 yX4_takeOut, Cond.instanceMethod yX4_takeOut, Cond.selects RX4 yX4_takeOut yX4_takeOut, Cond.code yX4_takeOut cX4_takeOut 3 none, Cond.methodLink RX4 47 yX4_charge, Cond.instanceMethod yX4_charge, Cond.selects RX4 yX4_charge yX4_charge, Cond.code yX4_charge cX4_charge 4 none, Cond.methodLink RX0 181 yX1_wearBySheets]
def wsX5_pass_r7 : List Cond := [Cond.instanceMethod yX1_wearBySheets, Cond.selects RX1 yX1_wearBySheets yX1_wearBySheets, Cond.code yX1_wearBySheets cX1_wearBySheets 3 none, Cond.methodLink RX1 35 Lib.Math.min.name, Cond.methodLink RX0 164 yX0_pressPosts, Cond.instanceMethod yX0_pressPosts, Cond.selects RX0 yX0_pressPosts yX0_pressPosts, Cond.code yX0_pressPosts cX0_pressPosts 4 none, Cond.methodLink RX0 193 yX2_sheetsOf, Cond.instanceMethod yX2_sheetsOf, Cond.selects RX2 yX2_sheetsOf yX2_sheetsOf, Cond.code yX2_sheetsOf cX2_sheetsOf 2 (some .int), Cond.methodLink RX2 44 yX2_has, Cond.instanceMethod yX2_has, Cond.selects RX2 yX2_has yX2_has, Cond.code yX2_has cX2_has 2 (some .boolean), Cond.methodLink RX0 194 yX2_markOf, Cond.instanceMethod yX2_markOf, Cond.selects RX2 yX2_markOf yX2_markOf, Cond.code yX2_markOf cX2_markOf 2 (some .int), Cond.methodLink RX0 195 yX2_gradeOf, Cond.instanceMethod yX2_gradeOf, Cond.selects RX2 yX2_gradeOf yX2_gradeOf, Cond.code yX2_gradeOf cX2_gradeOf 2 (some .int)]
def wsX5_pass_r8 : List Cond := [Cond.methodLink RX0 197 yX0_hang, Cond.instanceMethod yX0_hang, Cond.selects RX0 yX0_hang yX0_hang, Cond.code yX0_hang cX0_hang 4 none, Cond.fieldLink RX0 62 "RagVats$Mill" "loft" "[I", Cond.methodLink RX0 200 yX2_takeOff, Cond.instanceMethod yX2_takeOff, Cond.selects RX2 yX2_takeOff yX2_takeOff, Cond.code yX2_takeOff cX2_takeOff 3 none, Cond.methodLink RX0 203 yX2_dropEmptyOnes, Cond.instanceMethod yX2_dropEmptyOnes, Cond.selects RX2 yX2_dropEmptyOnes yX2_dropEmptyOnes, Cond.code yX2_dropEmptyOnes cX2_dropEmptyOnes 3 none]
def wsX5_pass : List Cond := .code yX5_pass cX5_pass 3 (some .int) :: ((wsX5_pass_r1 ++ (wsX5_pass_r2 ++ (wsX5_pass_r3 ++ (wsX5_pass_r4 ++ (wsX5_pass_r5 ++ (wsX5_pass_r6 ++ (wsX5_pass_r7 ++ wsX5_pass_r8))))))) ++ wsX50 ++ wsX00 ++ wsX30 ++ wsX40 ++ wsX10 ++ wsX20 ++ (vx_atS RX5 37 "java/lang/IllegalArgumentException" ["java/lang/RuntimeException", "java/lang/Exception"]).filter goodWord)
def wsX5_ripe_r1 : List Cond := [Cond.classLink RX5 23 "java/lang/IndexOutOfBoundsException", Cond.initialized "java/lang/IndexOutOfBoundsException", Cond.classLink RX5 33 "java/lang/IllegalArgumentException", Cond.initialized "java/lang/IllegalArgumentException", Cond.fieldLink RX5 16 "RagVats" "trial" "LRagVats$Mill;", Cond.fieldLink RX5 10 "RagVats" "mill" "LRagVats$Mill;", Cond.methodLink RX5 19 yX5_isBelow, Cond.static yX5_isBelow, Cond.initialized RX5, Cond.code yX5_isBelow cX5_isBelow 2 (some .boolean), Cond.methodLink RX5 30 yX5_isFrom1To, Cond.static yX5_isFrom1To, Cond.code yX5_isFrom1To cX5_isFrom1To 2 (some .boolean), Cond.methodLink RX5 214 yX0_becomeLike, Cond.instanceMethod yX0_becomeLike, Cond.selects RX0 yX0_becomeLike yX0_becomeLike, Cond.initialized RX0, Cond.code yX0_becomeLike cX0_becomeLike 2 none, Cond.fieldLink RX0 9 "RagVats$Mill" "day" "I", Cond.fieldLink RX0 15 "RagVats$Mill" "coins" "I", Cond.fieldLink RX0 18 "RagVats$Mill" "felts" "I", Cond.fieldLink RX0 21 "RagVats$Mill" "made" "I", Cond.fieldLink RX0 24 "RagVats$Mill" "worth" "I", Cond.fieldLink RX0 27 "RagVats$Mill" "rags" "[I"]
def wsX5_ripe_r2 : List Cond := [Cond.methodLink RX0 71 arraycopyName, Cond.native arraycopyName, Cond.static arraycopyName, Cond.initialized "java/lang/System", Cond.fieldLink RX0 31 "RagVats$Mill" "water" "[I", Cond.fieldLink RX0 37 "RagVats$Mill" "vats" "LRagVats$Vats;", Cond.fieldLink RX0 44 "RagVats$Mill" "moulds" "LRagVats$Moulds;", Cond.fieldLink RX0 51 "RagVats$Mill" "teams" "LRagVats$Teams;", Cond.fieldLink RX0 58 "RagVats$Mill" "posts" "LRagVats$Posts;", Cond.fieldLink RX0 62 "RagVats$Mill" "loft" "[I", Cond.methodLink RX0 77 yX4_becomeLike, Cond.instanceMethod yX4_becomeLike, Cond.selects RX4 yX4_becomeLike yX4_becomeLike, Cond.initialized RX4, Cond.code yX4_becomeLike cX4_becomeLike 2 none, Cond.fieldLink RX4 9 "RagVats$Vats" "pulp" "[I", Cond.methodLink RX4 27 arraycopyName, Cond.fieldLink RX4 15 "RagVats$Vats" "beat" "[I", Cond.fieldLink RX4 18 "RagVats$Vats" "sort" "[I", Cond.methodLink RX0 81 yX1_becomeLike, Cond.instanceMethod yX1_becomeLike, Cond.selects RX1 yX1_becomeLike yX1_becomeLike, Cond.initialized RX1, Cond.code yX1_becomeLike cX1_becomeLike 2 none]
def wsX5_ripe_r3 : List Cond := [Cond.fieldLink RX1 9 "RagVats$Moulds" "number" "I", Cond.fieldLink RX1 15 "RagVats$Moulds" "mark" "[I", Cond.methodLink RX1 25 arraycopyName, Cond.fieldLink RX1 19 "RagVats$Moulds" "size" "[I", Cond.fieldLink RX1 22 "RagVats$Moulds" "worn" "[I", Cond.methodLink RX0 84 yX3_becomeLike, Cond.instanceMethod yX3_becomeLike, Cond.selects RX3 yX3_becomeLike yX3_becomeLike, Cond.initialized RX3, Cond.code yX3_becomeLike cX3_becomeLike 2 none, Cond.fieldLink RX3 9 "RagVats$Teams" "number" "I", Cond.fieldLink RX3 15 "RagVats$Teams" "skill" "[I", Cond.methodLink RX3 25 arraycopyName, Cond.fieldLink RX3 19 "RagVats$Teams" "vat" "[I", Cond.fieldLink RX3 22 "RagVats$Teams" "pair" "[I", Cond.methodLink RX0 87 yX2_becomeLike, Cond.instanceMethod yX2_becomeLike, Cond.selects RX2 yX2_becomeLike yX2_becomeLike, Cond.initialized RX2, Cond.code yX2_becomeLike cX2_becomeLike 2 none, Cond.fieldLink RX2 9 "RagVats$Posts" "number" "I", Cond.fieldLink RX2 15 "RagVats$Posts" "allSheets" "I", Cond.fieldLink RX2 18 "RagVats$Posts" "mark" "[I", Cond.methodLink RX2 28 arraycopyName]
def wsX5_ripe_r4 : List Cond := [Cond.fieldLink RX2 22 "RagVats$Posts" "grade" "[I", Cond.fieldLink RX2 25 "RagVats$Posts" "sheets" "[I", Cond.methodLink RX5 218 yX4_beatOf, Cond.instanceMethod yX4_beatOf, Cond.selects RX4 yX4_beatOf yX4_beatOf, Cond.code yX4_beatOf cX4_beatOf 2 (some .int), Cond.methodLink RX5 221 yX0_liveDay, Cond.instanceMethod yX0_liveDay, Cond.selects RX0 yX0_liveDay yX0_liveDay, Cond.code yX0_liveDay cX0_liveDay 2 none, Cond.methodLink RX0 153 yJ9_floorMod_7cf53, Cond.static yJ9_floorMod_7cf53, Cond.initialized RJ9, Cond.code yJ9_floorMod_7cf53 cJ9_floorMod_7cf53 3 (some .int), Cond.methodLink RX0 156 yX4_beatAll, Cond.instanceMethod yX4_beatAll, Cond.selects RX4 yX4_beatAll yX4_beatAll, Cond.code yX4_beatAll cX4_beatAll 5 none, Cond.methodLink RX4 55 Lib.Math.min.name, Cond.static Lib.Math.min.name, Cond.initialized "java/lang/Math", Cond.code Lib.Math.min.name Lib.Math.min.code 2 (some .int), Cond.methodLink RX4 51 yX4_numberWithPulp, Cond.instanceMethod yX4_numberWithPulp]
def wsX5_ripe_r5 : List Cond := [Cond.selects RX4 yX4_numberWithPulp yX4_numberWithPulp, Cond.code yX4_numberWithPulp cX4_numberWithPulp 3 (some .int), Cond.methodLink RX0 161 yX0_makeSheets, Cond.instanceMethod yX0_makeSheets, Cond.selects RX0 yX0_makeSheets yX0_makeSheets, Cond.code yX0_makeSheets cX0_makeSheets 6 none, Cond.methodLink RX0 135 yX0_sheetsOf, Cond.instanceMethod yX0_sheetsOf, Cond.selects RX0 yX0_sheetsOf yX0_sheetsOf, Cond.code yX0_sheetsOf cX0_sheetsOf 6 (some .int), Cond.methodLink RX0 141 Lib.Math.min.name, Cond.methodLink RX0 129 yX3_vatOf, Cond.instanceMethod yX3_vatOf, Cond.selects RX3 yX3_vatOf yX3_vatOf, Cond.code yX3_vatOf cX3_vatOf 2 (some .int), Cond.methodLink RX3 31 yX3_has, Cond.instanceMethod yX3_has, Cond.selects RX3 yX3_has yX3_has, Cond.code yX3_has cX3_has 2 (some .boolean), Cond.methodLink RX0 132 yX3_pairOf, Cond.instanceMethod yX3_pairOf, Cond.selects RX3 yX3_pairOf yX3_pairOf, Cond.code yX3_pairOf cX3_pairOf 2 (some .int), Cond.methodLink RX0 138 yX4_beatOf]
def wsX5_ripe_r6 : List Cond := [Cond.methodLink RX0 117 yX1_sizeOf, Cond.instanceMethod yX1_sizeOf, Cond.selects RX1 yX1_sizeOf yX1_sizeOf, Cond.code yX1_sizeOf cX1_sizeOf 2 (some .int), Cond.methodLink RX1 31 yX1_has, Cond.instanceMethod yX1_has, Cond.selects RX1 yX1_has yX1_has, Cond.code yX1_has cX1_has 2 (some .boolean), Cond.methodLink RX0 126 yX3_skillOf, Cond.instanceMethod yX3_skillOf, Cond.selects RX3 yX3_skillOf yX3_skillOf, Cond.code yX3_skillOf cX3_skillOf 2 (some .int), Cond.methodLink RX0 97 yX0_freeFelts, Cond.instanceMethod yX0_freeFelts, Cond.selects RX0 yX0_freeFelts yX0_freeFelts, Cond.code yX0_freeFelts cX0_freeFelts 1 (some .int), Cond.methodLink RX0 147 yX4_pulpOf, Cond.instanceMethod yX4_pulpOf, Cond.selects RX4 yX4_pulpOf yX4_pulpOf, Cond.code yX4_pulpOf cX4_pulpOf 2 (some .int), Cond.methodLink RX0 167 yX0_gradeOf, Cond.instanceMethod yX0_gradeOf, Cond.selects RX0 yX0_gradeOf yX0_gradeOf, Cond.code yX0_gradeOf cX0_gradeOf 4 (some .int)]
def wsX5_ripe_r7 : List Cond := [Cond.methodLink RX0 184 yX4_sortOf, Cond.instanceMethod yX4_sortOf, Cond.selects RX4 yX4_sortOf yX4_sortOf, Cond.code yX4_sortOf cX4_sortOf 2 (some .int), Cond.methodLink RX0 187 yX0_pointsOf, Cond.static yX0_pointsOf, Cond.code yX0_pointsOf cX0_pointsOf 1 (some .int), Cond.methodLink RX0 120 yX1_wornOf, Cond.instanceMethod yX1_wornOf, Cond.selects RX1 yX1_wornOf yX1_wornOf, Cond.code yX1_wornOf cX1_wornOf 2 (some .int), Cond.methodLink RX0 114 yX1_markOf, Cond.instanceMethod yX1_markOf, Cond.selects RX1 yX1_markOf yX1_markOf, Cond.code yX1_markOf cX1_markOf 2 (some .int), Cond.methodLink RX0 170 yX2_add, Cond.instanceMethod yX2_add, Cond.selects RX2 yX2_add yX2_add, Cond.code yX2_add cX2_add 4 none, Cond.static yX5_worthOf, Cond.code yX5_worthOf cX5_worthOf 1 (some .int), Cond.fieldLink RX5 252 "RagVats" "SHEET_WORTH" "[I", Cond.methodLink RX0 177 yX4_takeOut, Cond.instanceMethod yX4_takeOut]
def wsX5_ripe_r8 : List Cond := [Cond.selects RX4 yX4_takeOut yX4_takeOut, Cond.code yX4_takeOut cX4_takeOut 3 none, Cond.methodLink RX4 47 yX4_charge, Cond.instanceMethod yX4_charge, Cond.selects RX4 yX4_charge yX4_charge, Cond.code yX4_charge cX4_charge 4 none, Cond.methodLink RX0 181 yX1_wearBySheets, Cond.instanceMethod yX1_wearBySheets, Cond.selects RX1 yX1_wearBySheets yX1_wearBySheets, Cond.code yX1_wearBySheets cX1_wearBySheets 3 none, Cond.methodLink RX1 35 Lib.Math.min.name, Cond.methodLink RX0 164 yX0_pressPosts, Cond.instanceMethod yX0_pressPosts, Cond.selects RX0 yX0_pressPosts yX0_pressPosts, Cond.code yX0_pressPosts cX0_pressPosts 4 none, Cond.methodLink RX0 193 yX2_sheetsOf, Cond.instanceMethod yX2_sheetsOf, Cond.selects RX2 yX2_sheetsOf yX2_sheetsOf, Cond.code yX2_sheetsOf cX2_sheetsOf 2 (some .int), Cond.methodLink RX2 44 yX2_has, Cond.instanceMethod yX2_has, Cond.selects RX2 yX2_has yX2_has, Cond.code yX2_has cX2_has 2 (some .boolean), Cond.methodLink RX0 194 yX2_markOf]
def wsX5_ripe_r9 : List Cond := [Cond.instanceMethod yX2_markOf, Cond.selects RX2 yX2_markOf yX2_markOf, Cond.code yX2_markOf cX2_markOf 2 (some .int), Cond.methodLink RX0 195 yX2_gradeOf, Cond.instanceMethod yX2_gradeOf, Cond.selects RX2 yX2_gradeOf yX2_gradeOf, Cond.code yX2_gradeOf cX2_gradeOf 2 (some .int), Cond.methodLink RX0 197 yX0_hang, Cond.instanceMethod yX0_hang, Cond.selects RX0 yX0_hang yX0_hang, Cond.code yX0_hang cX0_hang 4 none, Cond.methodLink RX0 200 yX2_takeOff, Cond.instanceMethod yX2_takeOff, Cond.selects RX2 yX2_takeOff yX2_takeOff, Cond.code yX2_takeOff cX2_takeOff 3 none, Cond.methodLink RX0 203 yX2_dropEmptyOnes, Cond.instanceMethod yX2_dropEmptyOnes, Cond.selects RX2 yX2_dropEmptyOnes yX2_dropEmptyOnes, Cond.code yX2_dropEmptyOnes cX2_dropEmptyOnes 3 none]
def wsX5_ripe : List Cond := .code yX5_ripe cX5_ripe 4 (some .int) :: ((wsX5_ripe_r1 ++ (wsX5_ripe_r2 ++ (wsX5_ripe_r3 ++ (wsX5_ripe_r4 ++ (wsX5_ripe_r5 ++ (wsX5_ripe_r6 ++ (wsX5_ripe_r7 ++ (wsX5_ripe_r8 ++ wsX5_ripe_r9)))))))) ++ wsX50 ++ wsX00 ++ wsX40 ++ wsX10 ++ wsX30 ++ wsX20 ++ (vx_atS RX5 27 "java/lang/IndexOutOfBoundsException" ["java/lang/RuntimeException", "java/lang/Exception"]).filter goodWord ++ (vx_atS RX5 37 "java/lang/IllegalArgumentException" ["java/lang/RuntimeException", "java/lang/Exception"]).filter goodWord)
def wsX5_foresee_r1 : List Cond := [Cond.classLink RX5 33 "java/lang/IllegalArgumentException", Cond.initialized "java/lang/IllegalArgumentException", Cond.classLink RX5 23 "java/lang/IndexOutOfBoundsException", Cond.initialized "java/lang/IndexOutOfBoundsException", Cond.fieldLink RX5 16 "RagVats" "trial" "LRagVats$Mill;", Cond.fieldLink RX5 10 "RagVats" "mill" "LRagVats$Mill;", Cond.methodLink RX5 30 yX5_isFrom1To, Cond.static yX5_isFrom1To, Cond.initialized RX5, Cond.code yX5_isFrom1To cX5_isFrom1To 2 (some .boolean), Cond.methodLink RX5 19 yX5_isBelow, Cond.static yX5_isBelow, Cond.code yX5_isBelow cX5_isBelow 2 (some .boolean), Cond.methodLink RX5 214 yX0_becomeLike, Cond.instanceMethod yX0_becomeLike, Cond.selects RX0 yX0_becomeLike yX0_becomeLike, Cond.initialized RX0, Cond.code yX0_becomeLike cX0_becomeLike 2 none, Cond.fieldLink RX0 9 "RagVats$Mill" "day" "I", Cond.fieldLink RX0 15 "RagVats$Mill" "coins" "I", Cond.fieldLink RX0 18 "RagVats$Mill" "felts" "I", Cond.fieldLink RX0 21 "RagVats$Mill" "made" "I", Cond.fieldLink RX0 24 "RagVats$Mill" "worth" "I", Cond.fieldLink RX0 27 "RagVats$Mill" "rags" "[I"]
def wsX5_foresee_r2 : List Cond := [Cond.methodLink RX0 71 arraycopyName, Cond.native arraycopyName, Cond.static arraycopyName, Cond.initialized "java/lang/System", Cond.fieldLink RX0 31 "RagVats$Mill" "water" "[I", Cond.fieldLink RX0 37 "RagVats$Mill" "vats" "LRagVats$Vats;", Cond.fieldLink RX0 44 "RagVats$Mill" "moulds" "LRagVats$Moulds;", Cond.fieldLink RX0 51 "RagVats$Mill" "teams" "LRagVats$Teams;", Cond.fieldLink RX0 58 "RagVats$Mill" "posts" "LRagVats$Posts;", Cond.fieldLink RX0 62 "RagVats$Mill" "loft" "[I", Cond.methodLink RX0 77 yX4_becomeLike, Cond.instanceMethod yX4_becomeLike, Cond.selects RX4 yX4_becomeLike yX4_becomeLike, Cond.initialized RX4, Cond.code yX4_becomeLike cX4_becomeLike 2 none, Cond.fieldLink RX4 9 "RagVats$Vats" "pulp" "[I", Cond.methodLink RX4 27 arraycopyName, Cond.fieldLink RX4 15 "RagVats$Vats" "beat" "[I", Cond.fieldLink RX4 18 "RagVats$Vats" "sort" "[I", Cond.methodLink RX0 81 yX1_becomeLike, Cond.instanceMethod yX1_becomeLike, Cond.selects RX1 yX1_becomeLike yX1_becomeLike, Cond.initialized RX1, Cond.code yX1_becomeLike cX1_becomeLike 2 none]
def wsX5_foresee_r3 : List Cond := [Cond.fieldLink RX1 9 "RagVats$Moulds" "number" "I", Cond.fieldLink RX1 15 "RagVats$Moulds" "mark" "[I", Cond.methodLink RX1 25 arraycopyName, Cond.fieldLink RX1 19 "RagVats$Moulds" "size" "[I", Cond.fieldLink RX1 22 "RagVats$Moulds" "worn" "[I", Cond.methodLink RX0 84 yX3_becomeLike, Cond.instanceMethod yX3_becomeLike, Cond.selects RX3 yX3_becomeLike yX3_becomeLike, Cond.initialized RX3, Cond.code yX3_becomeLike cX3_becomeLike 2 none, Cond.fieldLink RX3 9 "RagVats$Teams" "number" "I", Cond.fieldLink RX3 15 "RagVats$Teams" "skill" "[I", Cond.methodLink RX3 25 arraycopyName, Cond.fieldLink RX3 19 "RagVats$Teams" "vat" "[I", Cond.fieldLink RX3 22 "RagVats$Teams" "pair" "[I", Cond.methodLink RX0 87 yX2_becomeLike, Cond.instanceMethod yX2_becomeLike, Cond.selects RX2 yX2_becomeLike yX2_becomeLike, Cond.initialized RX2, Cond.code yX2_becomeLike cX2_becomeLike 2 none, Cond.fieldLink RX2 9 "RagVats$Posts" "number" "I", Cond.fieldLink RX2 15 "RagVats$Posts" "allSheets" "I", Cond.fieldLink RX2 18 "RagVats$Posts" "mark" "[I", Cond.methodLink RX2 28 arraycopyName]
def wsX5_foresee_r4 : List Cond := [Cond.fieldLink RX2 22 "RagVats$Posts" "grade" "[I", Cond.fieldLink RX2 25 "RagVats$Posts" "sheets" "[I", Cond.methodLink RX5 209 yX0_liveDays, Cond.instanceMethod yX0_liveDays, Cond.selects RX0 yX0_liveDays yX0_liveDays, Cond.code yX0_liveDays cX0_liveDays 3 none, Cond.methodLink RX0 150 yX0_liveDay, Cond.instanceMethod yX0_liveDay, Cond.selects RX0 yX0_liveDay yX0_liveDay, Cond.code yX0_liveDay cX0_liveDay 2 none, Cond.methodLink RX0 153 yJ9_floorMod_7cf53, Cond.static yJ9_floorMod_7cf53, Cond.initialized RJ9, Cond.code yJ9_floorMod_7cf53 cJ9_floorMod_7cf53 3 (some .int), Cond.methodLink RX0 156 yX4_beatAll, Cond.instanceMethod yX4_beatAll, Cond.selects RX4 yX4_beatAll yX4_beatAll, Cond.code yX4_beatAll cX4_beatAll 5 none, Cond.methodLink RX4 55 Lib.Math.min.name, Cond.static Lib.Math.min.name, Cond.initialized "java/lang/Math", Cond.code Lib.Math.min.name Lib.Math.min.code 2 (some .int), Cond.methodLink RX4 51 yX4_numberWithPulp, Cond.instanceMethod yX4_numberWithPulp]
def wsX5_foresee_r5 : List Cond := [Cond.selects RX4 yX4_numberWithPulp yX4_numberWithPulp, Cond.code yX4_numberWithPulp cX4_numberWithPulp 3 (some .int), Cond.methodLink RX0 161 yX0_makeSheets, Cond.instanceMethod yX0_makeSheets, Cond.selects RX0 yX0_makeSheets yX0_makeSheets, Cond.code yX0_makeSheets cX0_makeSheets 6 none, Cond.methodLink RX0 135 yX0_sheetsOf, Cond.instanceMethod yX0_sheetsOf, Cond.selects RX0 yX0_sheetsOf yX0_sheetsOf, Cond.code yX0_sheetsOf cX0_sheetsOf 6 (some .int), Cond.methodLink RX0 141 Lib.Math.min.name, Cond.methodLink RX0 129 yX3_vatOf, Cond.instanceMethod yX3_vatOf, Cond.selects RX3 yX3_vatOf yX3_vatOf, Cond.code yX3_vatOf cX3_vatOf 2 (some .int), Cond.methodLink RX3 31 yX3_has, Cond.instanceMethod yX3_has, Cond.selects RX3 yX3_has yX3_has, Cond.code yX3_has cX3_has 2 (some .boolean), Cond.methodLink RX0 132 yX3_pairOf, Cond.instanceMethod yX3_pairOf, Cond.selects RX3 yX3_pairOf yX3_pairOf, Cond.code yX3_pairOf cX3_pairOf 2 (some .int), Cond.methodLink RX0 138 yX4_beatOf]
def wsX5_foresee_r6 : List Cond := [Cond.instanceMethod yX4_beatOf, Cond.selects RX4 yX4_beatOf yX4_beatOf, Cond.code yX4_beatOf cX4_beatOf 2 (some .int), Cond.methodLink RX0 117 yX1_sizeOf, Cond.instanceMethod yX1_sizeOf, Cond.selects RX1 yX1_sizeOf yX1_sizeOf, Cond.code yX1_sizeOf cX1_sizeOf 2 (some .int), Cond.methodLink RX1 31 yX1_has, Cond.instanceMethod yX1_has, Cond.selects RX1 yX1_has yX1_has, Cond.code yX1_has cX1_has 2 (some .boolean), Cond.methodLink RX0 126 yX3_skillOf, Cond.instanceMethod yX3_skillOf, Cond.selects RX3 yX3_skillOf yX3_skillOf, Cond.code yX3_skillOf cX3_skillOf 2 (some .int), Cond.methodLink RX0 97 yX0_freeFelts, Cond.instanceMethod yX0_freeFelts, Cond.selects RX0 yX0_freeFelts yX0_freeFelts, Cond.code yX0_freeFelts cX0_freeFelts 1 (some .int), Cond.methodLink RX0 147 yX4_pulpOf, Cond.instanceMethod yX4_pulpOf, Cond.selects RX4 yX4_pulpOf yX4_pulpOf, Cond.code yX4_pulpOf cX4_pulpOf 2 (some .int), Cond.methodLink RX0 167 yX0_gradeOf]
def wsX5_foresee_r7 : List Cond := [Cond.instanceMethod yX0_gradeOf, Cond.selects RX0 yX0_gradeOf yX0_gradeOf, Cond.code yX0_gradeOf cX0_gradeOf 4 (some .int), Cond.methodLink RX0 184 yX4_sortOf, Cond.instanceMethod yX4_sortOf, Cond.selects RX4 yX4_sortOf yX4_sortOf, Cond.code yX4_sortOf cX4_sortOf 2 (some .int), Cond.methodLink RX0 187 yX0_pointsOf, Cond.static yX0_pointsOf, Cond.code yX0_pointsOf cX0_pointsOf 1 (some .int), Cond.methodLink RX0 120 yX1_wornOf, Cond.instanceMethod yX1_wornOf, Cond.selects RX1 yX1_wornOf yX1_wornOf, Cond.code yX1_wornOf cX1_wornOf 2 (some .int), Cond.methodLink RX0 114 yX1_markOf, Cond.instanceMethod yX1_markOf, Cond.selects RX1 yX1_markOf yX1_markOf, Cond.code yX1_markOf cX1_markOf 2 (some .int), Cond.methodLink RX0 170 yX2_add, Cond.instanceMethod yX2_add, Cond.selects RX2 yX2_add yX2_add, Cond.code yX2_add cX2_add 4 none, Cond.static yX5_worthOf, Cond.code yX5_worthOf cX5_worthOf 1 (some .int)]
def wsX5_foresee_r8 : List Cond := [Cond.fieldLink RX5 252 "RagVats" "SHEET_WORTH" "[I", Cond.methodLink RX0 177 yX4_takeOut, Cond.instanceMethod yX4_takeOut, Cond.selects RX4 yX4_takeOut yX4_takeOut, Cond.code yX4_takeOut cX4_takeOut 3 none, Cond.methodLink RX4 47 yX4_charge, Cond.instanceMethod yX4_charge, Cond.selects RX4 yX4_charge yX4_charge, Cond.code yX4_charge cX4_charge 4 none, Cond.methodLink RX0 181 yX1_wearBySheets, Cond.instanceMethod yX1_wearBySheets, Cond.selects RX1 yX1_wearBySheets yX1_wearBySheets, Cond.code yX1_wearBySheets cX1_wearBySheets 3 none, Cond.methodLink RX1 35 Lib.Math.min.name, Cond.methodLink RX0 164 yX0_pressPosts, Cond.instanceMethod yX0_pressPosts, Cond.selects RX0 yX0_pressPosts yX0_pressPosts, Cond.code yX0_pressPosts cX0_pressPosts 4 none, Cond.methodLink RX0 193 yX2_sheetsOf, Cond.instanceMethod yX2_sheetsOf, Cond.selects RX2 yX2_sheetsOf yX2_sheetsOf, Cond.code yX2_sheetsOf cX2_sheetsOf 2 (some .int), Cond.methodLink RX2 44 yX2_has, Cond.instanceMethod yX2_has]
def wsX5_foresee_r9 : List Cond := [Cond.selects RX2 yX2_has yX2_has, Cond.code yX2_has cX2_has 2 (some .boolean), Cond.methodLink RX0 194 yX2_markOf, Cond.instanceMethod yX2_markOf, Cond.selects RX2 yX2_markOf yX2_markOf, Cond.code yX2_markOf cX2_markOf 2 (some .int), Cond.methodLink RX0 195 yX2_gradeOf, Cond.instanceMethod yX2_gradeOf, Cond.selects RX2 yX2_gradeOf yX2_gradeOf, Cond.code yX2_gradeOf cX2_gradeOf 2 (some .int), Cond.methodLink RX0 197 yX0_hang, Cond.instanceMethod yX0_hang, Cond.selects RX0 yX0_hang yX0_hang, Cond.code yX0_hang cX0_hang 4 none, Cond.methodLink RX0 200 yX2_takeOff, Cond.instanceMethod yX2_takeOff, Cond.selects RX2 yX2_takeOff yX2_takeOff, Cond.code yX2_takeOff cX2_takeOff 3 none, Cond.methodLink RX0 203 yX2_dropEmptyOnes, Cond.instanceMethod yX2_dropEmptyOnes, Cond.selects RX2 yX2_dropEmptyOnes yX2_dropEmptyOnes, Cond.code yX2_dropEmptyOnes cX2_dropEmptyOnes 3 none, Cond.methodLink RX5 202 yX0_tell, Cond.instanceMethod yX0_tell]
def wsX5_foresee_r10 : List Cond := [Cond.selects RX0 yX0_tell yX0_tell, Cond.code yX0_tell cX0_tell 2 (some .int), Cond.methodLink RX0 104 yX0_allHanging, Cond.instanceMethod yX0_allHanging, Cond.selects RX0 yX0_allHanging yX0_allHanging, Cond.code yX0_allHanging cX0_allHanging 3 (some .int), Cond.methodLink RX0 107 yX4_allPulp, Cond.instanceMethod yX4_allPulp, Cond.selects RX4 yX4_allPulp yX4_allPulp, Cond.code yX4_allPulp cX4_allPulp 3 (some .int), Cond.methodLink RX0 110 yX0_poundsOf, Cond.instanceMethod yX0_poundsOf, Cond.selects RX0 yX0_poundsOf yX0_poundsOf, Cond.code yX0_poundsOf cX0_poundsOf 2 (some .int)]
def wsX5_foresee : List Cond := .code yX5_foresee cX5_foresee 3 (some .int) :: ((wsX5_foresee_r1 ++ (wsX5_foresee_r2 ++ (wsX5_foresee_r3 ++ (wsX5_foresee_r4 ++ (wsX5_foresee_r5 ++ (wsX5_foresee_r6 ++ (wsX5_foresee_r7 ++ (wsX5_foresee_r8 ++ (wsX5_foresee_r9 ++ wsX5_foresee_r10))))))))) ++ wsX50 ++ wsX00 ++ wsX40 ++ wsX10 ++ wsX30 ++ wsX20 ++ (vx_atS RX5 37 "java/lang/IllegalArgumentException" ["java/lang/RuntimeException", "java/lang/Exception"]).filter goodWord ++ (vx_atS RX5 27 "java/lang/IndexOutOfBoundsException" ["java/lang/RuntimeException", "java/lang/Exception"]).filter goodWord)
def wsX5_mean : List Cond := .code yX5_mean cX5_mean 4 (some .double) :: ([.fieldLink RX5 10 "RagVats" "mill" "LRagVats$Mill;", .methodLink RX5 132 yX1_wornOf, .instanceMethod yX1_wornOf, .selects RX1 yX1_wornOf yX1_wornOf, .initialized RX1, .code yX1_wornOf cX1_wornOf 2 (some .int), .fieldLink RX1 22 "RagVats$Moulds" "worn" "[I", .methodLink RX1 31 yX1_has, .instanceMethod yX1_has, .selects RX1 yX1_has yX1_has, .code yX1_has cX1_has 2 (some .boolean), .fieldLink RX1 9 "RagVats$Moulds" "number" "I"] ++ wsX50 ++ wsX00 ++ wsX10)
def wsX6_init : List Cond := .code yX6_init cX6_init 1 none :: ([.methodLink RX6 1 objectInit, .instanceMethod objectInit, .code objectInit ⟨#[0xb1]⟩ 1 none, .fieldLink RX6 7 "RagVatsLaw$Sim" "coins" "I", .fieldLink RX6 13 "RagVatsLaw$Sim" "felts" "I", .arrayClass .int, .fieldLink RX6 16 "RagVatsLaw$Sim" "water" "[I", .fieldLink RX6 20 "RagVatsLaw$Sim" "rags" "[I", .classLink RX6 23 "[I", .fieldLink RX6 24 "RagVatsLaw$Sim" "vats" "[[I", .fieldLink RX6 28 "RagVatsLaw$Sim" "pairs" "[[I", .fieldLink RX6 31 "RagVatsLaw$Sim" "teams" "[[I", .fieldLink RX6 34 "RagVatsLaw$Sim" "posts" "[[I", .classLink RX6 37 "[[I", .fieldLink RX6 38 "RagVatsLaw$Sim" "loft" "[[I"] ++ wsX60)
def wsX6_more : List Cond := .code yX6_more cX6_more 4 (some (.array (.array .int))) :: ([.classLink RX6 23 "[I"])
def wsX6_free : List Cond := .code yX6_free cX6_free 6 (some .int) :: ([.fieldLink RX6 13 "RagVatsLaw$Sim" "felts" "I", .fieldLink RX6 34 "RagVatsLaw$Sim" "posts" "[[I"] ++ wsX60)
def wsX6_makes : List Cond := .code yX6_makes cX6_makes 3 (some .int) :: ([.fieldLink RX6 24 "RagVatsLaw$Sim" "vats" "[[I", .fieldLink RX6 28 "RagVatsLaw$Sim" "pairs" "[[I", .methodLink RX6 59 yX6_free, .instanceMethod yX6_free, .selects RX6 yX6_free yX6_free, .initialized RX6, .code yX6_free cX6_free 6 (some .int), .fieldLink RX6 13 "RagVatsLaw$Sim" "felts" "I", .fieldLink RX6 34 "RagVatsLaw$Sim" "posts" "[[I"] ++ wsX60)
def wsX6_worth : List Cond := .code yX6_worth cX6_worth 1 (some .int) :: ([])
def wsX6_pass_r1 : List Cond := [Cond.fieldLink RX6 24 "RagVatsLaw$Sim" "vats" "[[I", Cond.fieldLink RX6 16 "RagVatsLaw$Sim" "water" "[I", Cond.fieldLink RX6 46 "RagVatsLaw$Sim" "day" "I", Cond.methodLink RX6 63 Lib.Math.min.name, Cond.static Lib.Math.min.name, Cond.initialized "java/lang/Math", Cond.code Lib.Math.min.name Lib.Math.min.code 2 (some .int), Cond.fieldLink RX6 31 "RagVatsLaw$Sim" "teams" "[[I", Cond.fieldLink RX6 28 "RagVatsLaw$Sim" "pairs" "[[I", Cond.fieldLink RX6 34 "RagVatsLaw$Sim" "posts" "[[I", Cond.arrayClass .int, Cond.fieldLink RX6 52 "RagVatsLaw$Sim" "worth" "I", Cond.fieldLink RX6 49 "RagVatsLaw$Sim" "made" "I", Cond.fieldLink RX6 38 "RagVatsLaw$Sim" "loft" "[[I", Cond.classLink RX6 23 "[I", Cond.methodLink RX6 69 yX6_makes, Cond.instanceMethod yX6_makes, Cond.selects RX6 yX6_makes yX6_makes, Cond.initialized RX6, Cond.code yX6_makes cX6_makes 3 (some .int), Cond.methodLink RX6 59 yX6_free, Cond.instanceMethod yX6_free, Cond.selects RX6 yX6_free yX6_free, Cond.code yX6_free cX6_free 6 (some .int)]
def wsX6_pass_r2 : List Cond := [Cond.fieldLink RX6 13 "RagVatsLaw$Sim" "felts" "I", Cond.methodLink RX6 73 yX6_more, Cond.static yX6_more, Cond.code yX6_more cX6_more 4 (some (.array (.array .int))), Cond.methodLink RX6 77 yX6_worth, Cond.static yX6_worth, Cond.code yX6_worth cX6_worth 1 (some .int)]
def wsX6_pass : List Cond := .code yX6_pass cX6_pass 12 (some .int) :: ((wsX6_pass_r1 ++ wsX6_pass_r2) ++ wsX60)
def wsX6_told : List Cond := .code yX6_told cX6_told 8 (some .int) :: ([.fieldLink RX6 38 "RagVatsLaw$Sim" "loft" "[[I", .fieldLink RX6 24 "RagVatsLaw$Sim" "vats" "[[I", .arrayClass .int, .fieldLink RX6 46 "RagVatsLaw$Sim" "day" "I", .fieldLink RX6 7 "RagVatsLaw$Sim" "coins" "I", .fieldLink RX6 13 "RagVatsLaw$Sim" "felts" "I", .fieldLink RX6 49 "RagVatsLaw$Sim" "made" "I", .fieldLink RX6 52 "RagVatsLaw$Sim" "worth" "I", .fieldLink RX6 34 "RagVatsLaw$Sim" "posts" "[[I", .fieldLink RX6 20 "RagVatsLaw$Sim" "rags" "[I", .methodLink RX6 59 yX6_free, .instanceMethod yX6_free, .selects RX6 yX6_free yX6_free, .initialized RX6, .code yX6_free cX6_free 6 (some .int)] ++ wsX60)
def wsX6_isSame_r1 : List Cond := [Cond.fieldLink RX6 24 "RagVatsLaw$Sim" "vats" "[[I", Cond.fieldLink RX6 28 "RagVatsLaw$Sim" "pairs" "[[I", Cond.fieldLink RX6 31 "RagVatsLaw$Sim" "teams" "[[I", Cond.fieldLink RX6 34 "RagVatsLaw$Sim" "posts" "[[I", Cond.fieldLink RX6 38 "RagVatsLaw$Sim" "loft" "[[I", Cond.methodLink RX6 80 yX5_about, Cond.instanceMethod yX5_about, Cond.selects RX5 yX5_about yX5_about, Cond.initialized RX5, Cond.code yX5_about cX5_about 3 (some .int), Cond.classLink RX5 23 "java/lang/IndexOutOfBoundsException", Cond.initialized "java/lang/IndexOutOfBoundsException", Cond.fieldLink RX5 10 "RagVats" "mill" "LRagVats$Mill;", Cond.methodLink RX5 19 yX5_isBelow, Cond.static yX5_isBelow, Cond.code yX5_isBelow cX5_isBelow 2 (some .boolean), Cond.methodLink RX5 177 yX4_tell, Cond.instanceMethod yX4_tell, Cond.selects RX4 yX4_tell yX4_tell, Cond.initialized RX4, Cond.code yX4_tell cX4_tell 3 (some .int), Cond.methodLink RX4 37 yX4_pulpOf, Cond.instanceMethod yX4_pulpOf, Cond.selects RX4 yX4_pulpOf yX4_pulpOf]
def wsX6_isSame_r2 : List Cond := [Cond.code yX4_pulpOf cX4_pulpOf 2 (some .int), Cond.fieldLink RX4 9 "RagVats$Vats" "pulp" "[I", Cond.methodLink RX4 41 yX4_beatOf, Cond.instanceMethod yX4_beatOf, Cond.selects RX4 yX4_beatOf yX4_beatOf, Cond.code yX4_beatOf cX4_beatOf 2 (some .int), Cond.fieldLink RX4 15 "RagVats$Vats" "beat" "[I", Cond.methodLink RX4 44 yX4_sortOf, Cond.instanceMethod yX4_sortOf, Cond.selects RX4 yX4_sortOf yX4_sortOf, Cond.code yX4_sortOf cX4_sortOf 2 (some .int), Cond.fieldLink RX4 18 "RagVats$Vats" "sort" "[I", Cond.methodLink RX6 85 yX5_mould, Cond.instanceMethod yX5_mould, Cond.selects RX5 yX5_mould yX5_mould, Cond.code yX5_mould cX5_mould 3 (some .int), Cond.methodLink RX5 126 yX1_has, Cond.instanceMethod yX1_has, Cond.selects RX1 yX1_has yX1_has, Cond.initialized RX1, Cond.code yX1_has cX1_has 2 (some .boolean), Cond.fieldLink RX1 9 "RagVats$Moulds" "number" "I", Cond.methodLink RX5 182 yX0_tellPair, Cond.instanceMethod yX0_tellPair]
def wsX6_isSame_r3 : List Cond := [Cond.selects RX0 yX0_tellPair yX0_tellPair, Cond.initialized RX0, Cond.code yX0_tellPair cX0_tellPair 3 (some .int), Cond.fieldLink RX0 44 "RagVats$Mill" "moulds" "LRagVats$Moulds;", Cond.fieldLink RX0 51 "RagVats$Mill" "teams" "LRagVats$Teams;", Cond.methodLink RX0 114 yX1_markOf, Cond.instanceMethod yX1_markOf, Cond.selects RX1 yX1_markOf yX1_markOf, Cond.code yX1_markOf cX1_markOf 2 (some .int), Cond.fieldLink RX1 15 "RagVats$Moulds" "mark" "[I", Cond.methodLink RX1 31 yX1_has, Cond.methodLink RX0 117 yX1_sizeOf, Cond.instanceMethod yX1_sizeOf, Cond.selects RX1 yX1_sizeOf yX1_sizeOf, Cond.code yX1_sizeOf cX1_sizeOf 2 (some .int), Cond.fieldLink RX1 19 "RagVats$Moulds" "size" "[I", Cond.methodLink RX0 120 yX1_wornOf, Cond.instanceMethod yX1_wornOf, Cond.selects RX1 yX1_wornOf yX1_wornOf, Cond.code yX1_wornOf cX1_wornOf 2 (some .int), Cond.fieldLink RX1 22 "RagVats$Moulds" "worn" "[I", Cond.methodLink RX0 123 yX3_holderOf, Cond.instanceMethod yX3_holderOf, Cond.selects RX3 yX3_holderOf yX3_holderOf]
def wsX6_isSame_r4 : List Cond := [Cond.initialized RX3, Cond.code yX3_holderOf cX3_holderOf 3 (some .int), Cond.fieldLink RX3 9 "RagVats$Teams" "number" "I", Cond.methodLink RX3 35 yX3_pairOf, Cond.instanceMethod yX3_pairOf, Cond.selects RX3 yX3_pairOf yX3_pairOf, Cond.code yX3_pairOf cX3_pairOf 2 (some .int), Cond.fieldLink RX3 22 "RagVats$Teams" "pair" "[I", Cond.methodLink RX3 31 yX3_has, Cond.instanceMethod yX3_has, Cond.selects RX3 yX3_has yX3_has, Cond.code yX3_has cX3_has 2 (some .boolean), Cond.methodLink RX6 88 yX5_told, Cond.instanceMethod yX5_told, Cond.selects RX5 yX5_told yX5_told, Cond.code yX5_told cX5_told 3 (some .int), Cond.methodLink RX5 154 yX3_has, Cond.methodLink RX5 187 yX0_tellTeam, Cond.instanceMethod yX0_tellTeam, Cond.selects RX0 yX0_tellTeam yX0_tellTeam, Cond.code yX0_tellTeam cX0_tellTeam 3 (some .int), Cond.methodLink RX0 126 yX3_skillOf, Cond.instanceMethod yX3_skillOf, Cond.selects RX3 yX3_skillOf yX3_skillOf]
def wsX6_isSame_r5 : List Cond := [Cond.code yX3_skillOf cX3_skillOf 2 (some .int), Cond.fieldLink RX3 15 "RagVats$Teams" "skill" "[I", Cond.methodLink RX0 129 yX3_vatOf, Cond.instanceMethod yX3_vatOf, Cond.selects RX3 yX3_vatOf yX3_vatOf, Cond.code yX3_vatOf cX3_vatOf 2 (some .int), Cond.fieldLink RX3 19 "RagVats$Teams" "vat" "[I", Cond.methodLink RX0 132 yX3_pairOf, Cond.methodLink RX0 135 yX0_sheetsOf, Cond.instanceMethod yX0_sheetsOf, Cond.selects RX0 yX0_sheetsOf yX0_sheetsOf, Cond.code yX0_sheetsOf cX0_sheetsOf 6 (some .int), Cond.fieldLink RX0 37 "RagVats$Mill" "vats" "LRagVats$Vats;", Cond.methodLink RX0 141 Lib.Math.min.name, Cond.static Lib.Math.min.name, Cond.initialized "java/lang/Math", Cond.code Lib.Math.min.name Lib.Math.min.code 2 (some .int), Cond.methodLink RX0 138 yX4_beatOf, Cond.methodLink RX0 97 yX0_freeFelts, Cond.instanceMethod yX0_freeFelts, Cond.selects RX0 yX0_freeFelts yX0_freeFelts, Cond.code yX0_freeFelts cX0_freeFelts 1 (some .int), Cond.fieldLink RX0 18 "RagVats$Mill" "felts" "I", Cond.fieldLink RX0 58 "RagVats$Mill" "posts" "LRagVats$Posts;"]
def wsX6_isSame_r6 : List Cond := [Cond.methodLink RX0 147 yX4_pulpOf, Cond.methodLink RX6 69 yX6_makes, Cond.instanceMethod yX6_makes, Cond.selects RX6 yX6_makes yX6_makes, Cond.initialized RX6, Cond.code yX6_makes cX6_makes 3 (some .int), Cond.methodLink RX6 59 yX6_free, Cond.instanceMethod yX6_free, Cond.selects RX6 yX6_free yX6_free, Cond.code yX6_free cX6_free 6 (some .int), Cond.fieldLink RX6 13 "RagVatsLaw$Sim" "felts" "I", Cond.methodLink RX6 91 yX5_post, Cond.instanceMethod yX5_post, Cond.selects RX5 yX5_post yX5_post, Cond.code yX5_post cX5_post 3 (some .int), Cond.methodLink RX5 194 yX2_has, Cond.instanceMethod yX2_has, Cond.selects RX2 yX2_has yX2_has, Cond.initialized RX2, Cond.code yX2_has cX2_has 2 (some .boolean), Cond.fieldLink RX2 9 "RagVats$Posts" "number" "I", Cond.methodLink RX5 199 yX2_tell, Cond.instanceMethod yX2_tell, Cond.selects RX2 yX2_tell yX2_tell]
def wsX6_isSame_r7 : List Cond := [Cond.code yX2_tell cX2_tell 3 (some .int), Cond.methodLink RX2 34 yX2_markOf, Cond.instanceMethod yX2_markOf, Cond.selects RX2 yX2_markOf yX2_markOf, Cond.code yX2_markOf cX2_markOf 2 (some .int), Cond.fieldLink RX2 18 "RagVats$Posts" "mark" "[I", Cond.methodLink RX2 44 yX2_has, Cond.methodLink RX2 38 yX2_gradeOf, Cond.instanceMethod yX2_gradeOf, Cond.selects RX2 yX2_gradeOf yX2_gradeOf, Cond.code yX2_gradeOf cX2_gradeOf 2 (some .int), Cond.fieldLink RX2 22 "RagVats$Posts" "grade" "[I", Cond.methodLink RX2 41 yX2_sheetsOf, Cond.instanceMethod yX2_sheetsOf, Cond.selects RX2 yX2_sheetsOf yX2_sheetsOf, Cond.code yX2_sheetsOf cX2_sheetsOf 2 (some .int), Cond.fieldLink RX2 25 "RagVats$Posts" "sheets" "[I", Cond.methodLink RX6 94 yX5_loft, Cond.instanceMethod yX5_loft, Cond.selects RX5 yX5_loft yX5_loft, Cond.code yX5_loft cX5_loft 3 (some .int), Cond.methodLink RX5 64 yX0_hanging, Cond.instanceMethod yX0_hanging, Cond.selects RX0 yX0_hanging yX0_hanging]
def wsX6_isSame_r8 : List Cond := [Cond.code yX0_hanging cX0_hanging 3 (some .int), Cond.fieldLink RX0 62 "RagVats$Mill" "loft" "[I", Cond.methodLink RX6 96 yX5_count, Cond.instanceMethod yX5_count, Cond.selects RX5 yX5_count yX5_count, Cond.code yX5_count cX5_count 2 (some .int), Cond.methodLink RX5 202 yX0_tell, Cond.instanceMethod yX0_tell, Cond.selects RX0 yX0_tell yX0_tell, Cond.code yX0_tell cX0_tell 2 (some .int), Cond.fieldLink RX0 9 "RagVats$Mill" "day" "I", Cond.fieldLink RX0 15 "RagVats$Mill" "coins" "I", Cond.fieldLink RX0 21 "RagVats$Mill" "made" "I", Cond.fieldLink RX0 24 "RagVats$Mill" "worth" "I", Cond.methodLink RX0 104 yX0_allHanging, Cond.instanceMethod yX0_allHanging, Cond.selects RX0 yX0_allHanging yX0_allHanging, Cond.code yX0_allHanging cX0_allHanging 3 (some .int), Cond.methodLink RX0 107 yX4_allPulp, Cond.instanceMethod yX4_allPulp, Cond.selects RX4 yX4_allPulp yX4_allPulp, Cond.code yX4_allPulp cX4_allPulp 3 (some .int), Cond.methodLink RX0 110 yX0_poundsOf, Cond.instanceMethod yX0_poundsOf]
def wsX6_isSame_r9 : List Cond := [Cond.selects RX0 yX0_poundsOf yX0_poundsOf, Cond.code yX0_poundsOf cX0_poundsOf 2 (some .int), Cond.fieldLink RX0 27 "RagVats$Mill" "rags" "[I", Cond.methodLink RX6 99 yX6_told, Cond.instanceMethod yX6_told, Cond.selects RX6 yX6_told yX6_told, Cond.code yX6_told cX6_told 8 (some .int), Cond.arrayClass .int, Cond.fieldLink RX6 46 "RagVatsLaw$Sim" "day" "I", Cond.fieldLink RX6 7 "RagVatsLaw$Sim" "coins" "I", Cond.fieldLink RX6 49 "RagVatsLaw$Sim" "made" "I", Cond.fieldLink RX6 52 "RagVatsLaw$Sim" "worth" "I", Cond.fieldLink RX6 20 "RagVatsLaw$Sim" "rags" "[I", Cond.methodLink RX6 101 yX5_mean, Cond.instanceMethod yX5_mean, Cond.selects RX5 yX5_mean yX5_mean, Cond.code yX5_mean cX5_mean 4 (some .double), Cond.methodLink RX5 132 yX1_wornOf]
def wsX6_isSame : List Cond := .code yX6_isSame cX6_isSame 6 (some .boolean) :: ((wsX6_isSame_r1 ++ (wsX6_isSame_r2 ++ (wsX6_isSame_r3 ++ (wsX6_isSame_r4 ++ (wsX6_isSame_r5 ++ (wsX6_isSame_r6 ++ (wsX6_isSame_r7 ++ (wsX6_isSame_r8 ++ wsX6_isSame_r9)))))))) ++ wsX60 ++ wsX50 ++ wsX00 ++ wsX40 ++ wsX10 ++ wsX30 ++ wsX20 ++ (vx_atS RX5 27 "java/lang/IndexOutOfBoundsException" ["java/lang/RuntimeException", "java/lang/Exception"]).filter goodWord)
def wsJ9_min_7cf53 : List Cond := .code yJ9_min_7cf53 cJ9_min_7cf53 2 (some .int) :: ([])
def wsL_below : List Cond := .code yL_below cL_below 2 (some .int) :: ([.constant RL 7 (2147483647)])
def wsL_cell : List Cond := .code yL_cell cL_cell 2 (some .int) :: ([.constant RL 8 (790386105)])
def wsL_act_r1 : List Cond := [Cond.fieldLink RL 9 "RagVatsLaw$Sim" "pairs" "[[I", Cond.fieldLink RL 15 "RagVatsLaw$Sim" "teams" "[[I", Cond.fieldLink RL 24 "RagVatsLaw$Sim" "coins" "I", Cond.fieldLink RL 28 "RagVatsLaw$Sim" "felts" "I", Cond.fieldLink RL 31 "RagVatsLaw$Sim" "rags" "[I", Cond.fieldLink RL 40 "RagVatsLaw$Sim" "loft" "[[I", Cond.fieldLink RL 51 "RagVatsLaw$Sim" "vats" "[[I", Cond.arrayClass .int, Cond.fieldLink RL 73 "RagVatsLaw$Sim" "water" "[I", Cond.methodLink RL 76 ⟨"[I", "clone", "()Ljava/lang/Object;"⟩, Cond.sameMethod "[I" "java/lang/Object" "clone" "()Ljava/lang/Object;", Cond.native ⟨"java/lang/Object", "clone", "()Ljava/lang/Object;"⟩, Cond.instanceMethod ⟨"java/lang/Object", "clone", "()Ljava/lang/Object;"⟩, Cond.selects "[I" ⟨"[I", "clone", "()Ljava/lang/Object;"⟩ ⟨"java/lang/Object", "clone", "()Ljava/lang/Object;"⟩, Cond.classLink RL 77 "[I", Cond.methodLink RL 18 yL_below, Cond.static yL_below, Cond.initialized RL, Cond.code yL_below cL_below 2 (some .int), Cond.constant RL 7 (2147483647), Cond.methodLink RL 35 yX5_buy, Cond.instanceMethod yX5_buy, Cond.selects RX5 yX5_buy yX5_buy, Cond.initialized RX5]
def wsL_act_r2 : List Cond := [Cond.code yX5_buy cX5_buy 4 (some .int), Cond.classLink RX5 23 "java/lang/IndexOutOfBoundsException", Cond.initialized "java/lang/IndexOutOfBoundsException", Cond.classLink RX5 33 "java/lang/IllegalArgumentException", Cond.initialized "java/lang/IllegalArgumentException", Cond.classLink RX5 46 "java/lang/IllegalStateException", Cond.initialized "java/lang/IllegalStateException", Cond.fieldLink RX5 38 "RagVats" "PRICES" "[I", Cond.fieldLink RX5 10 "RagVats" "mill" "LRagVats$Mill;", Cond.methodLink RX5 19 yX5_isBelow, Cond.static yX5_isBelow, Cond.code yX5_isBelow cX5_isBelow 2 (some .boolean), Cond.methodLink RX5 30 yX5_isFrom1To, Cond.static yX5_isFrom1To, Cond.code yX5_isFrom1To cX5_isFrom1To 2 (some .boolean), Cond.methodLink RX5 56 yX0_takeIn, Cond.instanceMethod yX0_takeIn, Cond.selects RX0 yX0_takeIn yX0_takeIn, Cond.initialized RX0, Cond.code yX0_takeIn cX0_takeIn 3 (some .int), Cond.fieldLink RX0 18 "RagVats$Mill" "felts" "I", Cond.fieldLink RX0 27 "RagVats$Mill" "rags" "[I", Cond.methodLink RL 43 yX6_worth, Cond.static yX6_worth]
def wsL_act_r3 : List Cond := [Cond.initialized RX6, Cond.code yX6_worth cX6_worth 1 (some .int), Cond.methodLink RL 47 yX5_sell, Cond.instanceMethod yX5_sell, Cond.selects RX5 yX5_sell yX5_sell, Cond.code yX5_sell cX5_sell 6 (some .int), Cond.methodLink RX5 64 yX0_hanging, Cond.instanceMethod yX0_hanging, Cond.selects RX0 yX0_hanging yX0_hanging, Cond.code yX0_hanging cX0_hanging 3 (some .int), Cond.fieldLink RX0 62 "RagVats$Mill" "loft" "[I", Cond.methodLink RX5 69 yX5_worthOf, Cond.static yX5_worthOf, Cond.code yX5_worthOf cX5_worthOf 1 (some .int), Cond.fieldLink RX5 252 "RagVats" "SHEET_WORTH" "[I", Cond.methodLink RX5 73 yX0_hang, Cond.instanceMethod yX0_hang, Cond.selects RX0 yX0_hang yX0_hang, Cond.code yX0_hang cX0_hang 4 none, Cond.methodLink RL 54 yX5_fill, Cond.instanceMethod yX5_fill, Cond.selects RX5 yX5_fill yX5_fill, Cond.code yX5_fill cX5_fill 4 (some .int), Cond.methodLink RX5 85 yX4_pulpOf]
def wsL_act_r4 : List Cond := [Cond.instanceMethod yX4_pulpOf, Cond.selects RX4 yX4_pulpOf yX4_pulpOf, Cond.initialized RX4, Cond.code yX4_pulpOf cX4_pulpOf 2 (some .int), Cond.fieldLink RX4 9 "RagVats$Vats" "pulp" "[I", Cond.methodLink RX5 97 yX4_charge, Cond.instanceMethod yX4_charge, Cond.selects RX4 yX4_charge yX4_charge, Cond.code yX4_charge cX4_charge 4 none, Cond.fieldLink RX4 15 "RagVats$Vats" "beat" "[I", Cond.fieldLink RX4 18 "RagVats$Vats" "sort" "[I", Cond.methodLink RL 57 yX5_drain, Cond.instanceMethod yX5_drain, Cond.selects RX5 yX5_drain yX5_drain, Cond.code yX5_drain cX5_drain 3 (some .int), Cond.methodLink RX5 104 yX4_takeOut, Cond.instanceMethod yX4_takeOut, Cond.selects RX4 yX4_takeOut yX4_takeOut, Cond.code yX4_takeOut cX4_takeOut 3 none, Cond.methodLink RX4 47 yX4_charge, Cond.methodLink RL 60 yX6_more, Cond.static yX6_more, Cond.code yX6_more cX6_more 4 (some (.array (.array .int))), Cond.classLink RX6 23 "[I"]
def wsL_act_r5 : List Cond := [Cond.methodLink RL 64 yX5_pair, Cond.instanceMethod yX5_pair, Cond.selects RX5 yX5_pair yX5_pair, Cond.code yX5_pair cX5_pair 3 (some .int), Cond.methodLink RX5 123 yX1_add, Cond.instanceMethod yX1_add, Cond.selects RX1 yX1_add yX1_add, Cond.initialized RX1, Cond.code yX1_add cX1_add 3 (some .int), Cond.fieldLink RX1 9 "RagVats$Moulds" "number" "I", Cond.fieldLink RX1 15 "RagVats$Moulds" "mark" "[I", Cond.fieldLink RX1 19 "RagVats$Moulds" "size" "[I", Cond.fieldLink RX1 22 "RagVats$Moulds" "worn" "[I", Cond.methodLink RL 67 yX5_wire, Cond.instanceMethod yX5_wire, Cond.selects RX5 yX5_wire yX5_wire, Cond.code yX5_wire cX5_wire 3 (some .int), Cond.methodLink RX5 126 yX1_has, Cond.instanceMethod yX1_has, Cond.selects RX1 yX1_has yX1_has, Cond.code yX1_has cX1_has 2 (some .boolean), Cond.methodLink RX5 132 yX1_wornOf, Cond.instanceMethod yX1_wornOf, Cond.selects RX1 yX1_wornOf yX1_wornOf]
def wsL_act_r6 : List Cond := [Cond.code yX1_wornOf cX1_wornOf 2 (some .int), Cond.methodLink RX1 31 yX1_has, Cond.methodLink RX5 137 yX1_makeNew, Cond.instanceMethod yX1_makeNew, Cond.selects RX1 yX1_makeNew yX1_makeNew, Cond.code yX1_makeNew cX1_makeNew 2 none, Cond.methodLink RL 70 yX5_team, Cond.instanceMethod yX5_team, Cond.selects RX5 yX5_team yX5_team, Cond.code yX5_team cX5_team 2 (some .int), Cond.methodLink RX5 152 yX3_add, Cond.instanceMethod yX3_add, Cond.selects RX3 yX3_add yX3_add, Cond.initialized RX3, Cond.code yX3_add cX3_add 2 (some .int), Cond.fieldLink RX3 9 "RagVats$Teams" "number" "I", Cond.fieldLink RX3 15 "RagVats$Teams" "skill" "[I", Cond.fieldLink RX3 19 "RagVats$Teams" "vat" "[I", Cond.fieldLink RX3 22 "RagVats$Teams" "pair" "[I", Cond.methodLink RL 81 yX5_setWater, Cond.instanceMethod yX5_setWater, Cond.selects RX5 yX5_setWater yX5_setWater, Cond.code yX5_setWater cX5_setWater 4 (some .int), Cond.methodLink RL 84 yX5_place]
def wsL_act_r7 : List Cond := [Cond.instanceMethod yX5_place, Cond.selects RX5 yX5_place yX5_place, Cond.code yX5_place cX5_place 5 (some .int), Cond.methodLink RX5 154 yX3_has, Cond.instanceMethod yX3_has, Cond.selects RX3 yX3_has yX3_has, Cond.code yX3_has cX3_has 2 (some .boolean), Cond.methodLink RX5 157 yX3_holderOf, Cond.instanceMethod yX3_holderOf, Cond.selects RX3 yX3_holderOf yX3_holderOf, Cond.code yX3_holderOf cX3_holderOf 3 (some .int), Cond.methodLink RX3 35 yX3_pairOf, Cond.instanceMethod yX3_pairOf, Cond.selects RX3 yX3_pairOf yX3_pairOf, Cond.code yX3_pairOf cX3_pairOf 2 (some .int), Cond.methodLink RX3 31 yX3_has, Cond.methodLink RX5 162 yX3_send, Cond.instanceMethod yX3_send, Cond.selects RX3 yX3_send yX3_send, Cond.code yX3_send cX3_send 4 none, Cond.methodLink RX5 165 yX0_sheetsOf, Cond.instanceMethod yX0_sheetsOf, Cond.selects RX0 yX0_sheetsOf yX0_sheetsOf, Cond.code yX0_sheetsOf cX0_sheetsOf 6 (some .int)]
def wsL_act_r8 : List Cond := [Cond.fieldLink RX0 51 "RagVats$Mill" "teams" "LRagVats$Teams;", Cond.fieldLink RX0 37 "RagVats$Mill" "vats" "LRagVats$Vats;", Cond.fieldLink RX0 44 "RagVats$Mill" "moulds" "LRagVats$Moulds;", Cond.methodLink RX0 141 Lib.Math.min.name, Cond.static Lib.Math.min.name, Cond.initialized "java/lang/Math", Cond.code Lib.Math.min.name Lib.Math.min.code 2 (some .int), Cond.methodLink RX0 129 yX3_vatOf, Cond.instanceMethod yX3_vatOf, Cond.selects RX3 yX3_vatOf yX3_vatOf, Cond.code yX3_vatOf cX3_vatOf 2 (some .int), Cond.methodLink RX0 132 yX3_pairOf, Cond.methodLink RX0 138 yX4_beatOf, Cond.instanceMethod yX4_beatOf, Cond.selects RX4 yX4_beatOf yX4_beatOf, Cond.code yX4_beatOf cX4_beatOf 2 (some .int), Cond.methodLink RX0 117 yX1_sizeOf, Cond.instanceMethod yX1_sizeOf, Cond.selects RX1 yX1_sizeOf yX1_sizeOf, Cond.code yX1_sizeOf cX1_sizeOf 2 (some .int), Cond.methodLink RX0 126 yX3_skillOf, Cond.instanceMethod yX3_skillOf, Cond.selects RX3 yX3_skillOf yX3_skillOf, Cond.code yX3_skillOf cX3_skillOf 2 (some .int)]
def wsL_act_r9 : List Cond := [Cond.methodLink RX0 97 yX0_freeFelts, Cond.instanceMethod yX0_freeFelts, Cond.selects RX0 yX0_freeFelts yX0_freeFelts, Cond.code yX0_freeFelts cX0_freeFelts 1 (some .int), Cond.fieldLink RX0 58 "RagVats$Mill" "posts" "LRagVats$Posts;", Cond.methodLink RX0 147 yX4_pulpOf, Cond.methodLink RL 87 yX6_makes, Cond.instanceMethod yX6_makes, Cond.selects RX6 yX6_makes yX6_makes, Cond.code yX6_makes cX6_makes 3 (some .int), Cond.fieldLink RX6 24 "RagVatsLaw$Sim" "vats" "[[I", Cond.fieldLink RX6 28 "RagVatsLaw$Sim" "pairs" "[[I", Cond.methodLink RX6 59 yX6_free, Cond.instanceMethod yX6_free, Cond.selects RX6 yX6_free yX6_free, Cond.code yX6_free cX6_free 6 (some .int), Cond.fieldLink RX6 13 "RagVatsLaw$Sim" "felts" "I", Cond.fieldLink RX6 34 "RagVatsLaw$Sim" "posts" "[[I"]
def wsL_act : List Cond := .code yL_act cL_act 22 (some .boolean) :: ((wsL_act_r1 ++ (wsL_act_r2 ++ (wsL_act_r3 ++ (wsL_act_r4 ++ (wsL_act_r5 ++ (wsL_act_r6 ++ (wsL_act_r7 ++ (wsL_act_r8 ++ wsL_act_r9)))))))) ++ wsX60 ++ wsX50 ++ wsX00 ++ wsX40 ++ wsX10 ++ wsX30 ++ wsX20 ++ (vx_atS RX5 27 "java/lang/IndexOutOfBoundsException" ["java/lang/RuntimeException", "java/lang/Exception"]).filter goodWord ++ (vx_atS RX5 37 "java/lang/IllegalArgumentException" ["java/lang/RuntimeException", "java/lang/Exception"]).filter goodWord ++ (vx_atS RX5 50 "java/lang/IllegalStateException" ["java/lang/RuntimeException", "java/lang/Exception"]).filter goodWord)
def wsL_build_r1 : List Cond := [Cond.classLink RL 10 RX6, Cond.instantiable RX6 12, Cond.initialized RX6, Cond.instanceMethod yX6_init, Cond.code yX6_init cX6_init 1 none, Cond.methodLink RX6 1 objectInit, Cond.instanceMethod objectInit, Cond.code objectInit ⟨#[0xb1]⟩ 1 none, Cond.fieldLink RX6 7 "RagVatsLaw$Sim" "coins" "I", Cond.fieldLink RX6 13 "RagVatsLaw$Sim" "felts" "I", Cond.arrayClass .int, Cond.fieldLink RX6 16 "RagVatsLaw$Sim" "water" "[I", Cond.fieldLink RX6 20 "RagVatsLaw$Sim" "rags" "[I", Cond.classLink RX6 23 "[I", Cond.fieldLink RX6 24 "RagVatsLaw$Sim" "vats" "[[I", Cond.fieldLink RX6 28 "RagVatsLaw$Sim" "pairs" "[[I", Cond.fieldLink RX6 31 "RagVatsLaw$Sim" "teams" "[[I", Cond.fieldLink RX6 34 "RagVatsLaw$Sim" "posts" "[[I", Cond.classLink RX6 37 "[[I", Cond.fieldLink RX6 38 "RagVatsLaw$Sim" "loft" "[[I", Cond.methodLink RL 92 yL_cell, Cond.static yL_cell, Cond.initialized RL, Cond.code yL_cell cL_cell 2 (some .int)]
def wsL_build_r2 : List Cond := [Cond.constant RL 8 (790386105), Cond.methodLink RL 96 yL_act, Cond.static yL_act, Cond.code yL_act cL_act 22 (some .boolean), Cond.fieldLink RL 9 "RagVatsLaw$Sim" "pairs" "[[I", Cond.fieldLink RL 15 "RagVatsLaw$Sim" "teams" "[[I", Cond.fieldLink RL 24 "RagVatsLaw$Sim" "coins" "I", Cond.fieldLink RL 28 "RagVatsLaw$Sim" "felts" "I", Cond.fieldLink RL 31 "RagVatsLaw$Sim" "rags" "[I", Cond.fieldLink RL 40 "RagVatsLaw$Sim" "loft" "[[I", Cond.fieldLink RL 51 "RagVatsLaw$Sim" "vats" "[[I", Cond.fieldLink RL 73 "RagVatsLaw$Sim" "water" "[I", Cond.methodLink RL 76 ⟨"[I", "clone", "()Ljava/lang/Object;"⟩, Cond.sameMethod "[I" "java/lang/Object" "clone" "()Ljava/lang/Object;", Cond.native ⟨"java/lang/Object", "clone", "()Ljava/lang/Object;"⟩, Cond.instanceMethod ⟨"java/lang/Object", "clone", "()Ljava/lang/Object;"⟩, Cond.selects "[I" ⟨"[I", "clone", "()Ljava/lang/Object;"⟩ ⟨"java/lang/Object", "clone", "()Ljava/lang/Object;"⟩, Cond.classLink RL 77 "[I", Cond.methodLink RL 18 yL_below, Cond.static yL_below, Cond.code yL_below cL_below 2 (some .int), Cond.constant RL 7 (2147483647), Cond.methodLink RL 35 yX5_buy, Cond.instanceMethod yX5_buy]
def wsL_build_r3 : List Cond := [Cond.selects RX5 yX5_buy yX5_buy, Cond.initialized RX5, Cond.code yX5_buy cX5_buy 4 (some .int), Cond.classLink RX5 23 "java/lang/IndexOutOfBoundsException", Cond.initialized "java/lang/IndexOutOfBoundsException", Cond.classLink RX5 33 "java/lang/IllegalArgumentException", Cond.initialized "java/lang/IllegalArgumentException", Cond.classLink RX5 46 "java/lang/IllegalStateException", Cond.initialized "java/lang/IllegalStateException", Cond.fieldLink RX5 38 "RagVats" "PRICES" "[I", Cond.fieldLink RX5 10 "RagVats" "mill" "LRagVats$Mill;", Cond.methodLink RX5 19 yX5_isBelow, Cond.static yX5_isBelow, Cond.code yX5_isBelow cX5_isBelow 2 (some .boolean), Cond.methodLink RX5 30 yX5_isFrom1To, Cond.static yX5_isFrom1To, Cond.code yX5_isFrom1To cX5_isFrom1To 2 (some .boolean), Cond.methodLink RX5 56 yX0_takeIn, Cond.instanceMethod yX0_takeIn, Cond.selects RX0 yX0_takeIn yX0_takeIn, Cond.initialized RX0, Cond.code yX0_takeIn cX0_takeIn 3 (some .int), Cond.fieldLink RX0 18 "RagVats$Mill" "felts" "I", Cond.fieldLink RX0 27 "RagVats$Mill" "rags" "[I"]
def wsL_build_r4 : List Cond := [Cond.methodLink RL 43 yX6_worth, Cond.static yX6_worth, Cond.code yX6_worth cX6_worth 1 (some .int), Cond.methodLink RL 47 yX5_sell, Cond.instanceMethod yX5_sell, Cond.selects RX5 yX5_sell yX5_sell, Cond.code yX5_sell cX5_sell 6 (some .int), Cond.methodLink RX5 64 yX0_hanging, Cond.instanceMethod yX0_hanging, Cond.selects RX0 yX0_hanging yX0_hanging, Cond.code yX0_hanging cX0_hanging 3 (some .int), Cond.fieldLink RX0 62 "RagVats$Mill" "loft" "[I", Cond.methodLink RX5 69 yX5_worthOf, Cond.static yX5_worthOf, Cond.code yX5_worthOf cX5_worthOf 1 (some .int), Cond.fieldLink RX5 252 "RagVats" "SHEET_WORTH" "[I", Cond.methodLink RX5 73 yX0_hang, Cond.instanceMethod yX0_hang, Cond.selects RX0 yX0_hang yX0_hang, Cond.code yX0_hang cX0_hang 4 none, Cond.methodLink RL 54 yX5_fill, Cond.instanceMethod yX5_fill, Cond.selects RX5 yX5_fill yX5_fill, Cond.code yX5_fill cX5_fill 4 (some .int)]
def wsL_build_r5 : List Cond := [Cond.methodLink RX5 85 yX4_pulpOf, Cond.instanceMethod yX4_pulpOf, Cond.selects RX4 yX4_pulpOf yX4_pulpOf, Cond.initialized RX4, Cond.code yX4_pulpOf cX4_pulpOf 2 (some .int), Cond.fieldLink RX4 9 "RagVats$Vats" "pulp" "[I", Cond.methodLink RX5 97 yX4_charge, Cond.instanceMethod yX4_charge, Cond.selects RX4 yX4_charge yX4_charge, Cond.code yX4_charge cX4_charge 4 none, Cond.fieldLink RX4 15 "RagVats$Vats" "beat" "[I", Cond.fieldLink RX4 18 "RagVats$Vats" "sort" "[I", Cond.methodLink RL 57 yX5_drain, Cond.instanceMethod yX5_drain, Cond.selects RX5 yX5_drain yX5_drain, Cond.code yX5_drain cX5_drain 3 (some .int), Cond.methodLink RX5 104 yX4_takeOut, Cond.instanceMethod yX4_takeOut, Cond.selects RX4 yX4_takeOut yX4_takeOut, Cond.code yX4_takeOut cX4_takeOut 3 none, Cond.methodLink RX4 47 yX4_charge, Cond.methodLink RL 60 yX6_more, Cond.static yX6_more, Cond.code yX6_more cX6_more 4 (some (.array (.array .int)))]
def wsL_build_r6 : List Cond := [Cond.methodLink RL 64 yX5_pair, Cond.instanceMethod yX5_pair, Cond.selects RX5 yX5_pair yX5_pair, Cond.code yX5_pair cX5_pair 3 (some .int), Cond.methodLink RX5 123 yX1_add, Cond.instanceMethod yX1_add, Cond.selects RX1 yX1_add yX1_add, Cond.initialized RX1, Cond.code yX1_add cX1_add 3 (some .int), Cond.fieldLink RX1 9 "RagVats$Moulds" "number" "I", Cond.fieldLink RX1 15 "RagVats$Moulds" "mark" "[I", Cond.fieldLink RX1 19 "RagVats$Moulds" "size" "[I", Cond.fieldLink RX1 22 "RagVats$Moulds" "worn" "[I", Cond.methodLink RL 67 yX5_wire, Cond.instanceMethod yX5_wire, Cond.selects RX5 yX5_wire yX5_wire, Cond.code yX5_wire cX5_wire 3 (some .int), Cond.methodLink RX5 126 yX1_has, Cond.instanceMethod yX1_has, Cond.selects RX1 yX1_has yX1_has, Cond.code yX1_has cX1_has 2 (some .boolean), Cond.methodLink RX5 132 yX1_wornOf, Cond.instanceMethod yX1_wornOf, Cond.selects RX1 yX1_wornOf yX1_wornOf]
def wsL_build_r7 : List Cond := [Cond.code yX1_wornOf cX1_wornOf 2 (some .int), Cond.methodLink RX1 31 yX1_has, Cond.methodLink RX5 137 yX1_makeNew, Cond.instanceMethod yX1_makeNew, Cond.selects RX1 yX1_makeNew yX1_makeNew, Cond.code yX1_makeNew cX1_makeNew 2 none, Cond.methodLink RL 70 yX5_team, Cond.instanceMethod yX5_team, Cond.selects RX5 yX5_team yX5_team, Cond.code yX5_team cX5_team 2 (some .int), Cond.methodLink RX5 152 yX3_add, Cond.instanceMethod yX3_add, Cond.selects RX3 yX3_add yX3_add, Cond.initialized RX3, Cond.code yX3_add cX3_add 2 (some .int), Cond.fieldLink RX3 9 "RagVats$Teams" "number" "I", Cond.fieldLink RX3 15 "RagVats$Teams" "skill" "[I", Cond.fieldLink RX3 19 "RagVats$Teams" "vat" "[I", Cond.fieldLink RX3 22 "RagVats$Teams" "pair" "[I", Cond.methodLink RL 81 yX5_setWater, Cond.instanceMethod yX5_setWater, Cond.selects RX5 yX5_setWater yX5_setWater, Cond.code yX5_setWater cX5_setWater 4 (some .int), Cond.methodLink RL 84 yX5_place]
def wsL_build_r8 : List Cond := [Cond.instanceMethod yX5_place, Cond.selects RX5 yX5_place yX5_place, Cond.code yX5_place cX5_place 5 (some .int), Cond.methodLink RX5 154 yX3_has, Cond.instanceMethod yX3_has, Cond.selects RX3 yX3_has yX3_has, Cond.code yX3_has cX3_has 2 (some .boolean), Cond.methodLink RX5 157 yX3_holderOf, Cond.instanceMethod yX3_holderOf, Cond.selects RX3 yX3_holderOf yX3_holderOf, Cond.code yX3_holderOf cX3_holderOf 3 (some .int), Cond.methodLink RX3 35 yX3_pairOf, Cond.instanceMethod yX3_pairOf, Cond.selects RX3 yX3_pairOf yX3_pairOf, Cond.code yX3_pairOf cX3_pairOf 2 (some .int), Cond.methodLink RX3 31 yX3_has, Cond.methodLink RX5 162 yX3_send, Cond.instanceMethod yX3_send, Cond.selects RX3 yX3_send yX3_send, Cond.code yX3_send cX3_send 4 none, Cond.methodLink RX5 165 yX0_sheetsOf, Cond.instanceMethod yX0_sheetsOf, Cond.selects RX0 yX0_sheetsOf yX0_sheetsOf, Cond.code yX0_sheetsOf cX0_sheetsOf 6 (some .int)]
def wsL_build_r9 : List Cond := [Cond.fieldLink RX0 51 "RagVats$Mill" "teams" "LRagVats$Teams;", Cond.fieldLink RX0 37 "RagVats$Mill" "vats" "LRagVats$Vats;", Cond.fieldLink RX0 44 "RagVats$Mill" "moulds" "LRagVats$Moulds;", Cond.methodLink RX0 141 Lib.Math.min.name, Cond.static Lib.Math.min.name, Cond.initialized "java/lang/Math", Cond.code Lib.Math.min.name Lib.Math.min.code 2 (some .int), Cond.methodLink RX0 129 yX3_vatOf, Cond.instanceMethod yX3_vatOf, Cond.selects RX3 yX3_vatOf yX3_vatOf, Cond.code yX3_vatOf cX3_vatOf 2 (some .int), Cond.methodLink RX0 132 yX3_pairOf, Cond.methodLink RX0 138 yX4_beatOf, Cond.instanceMethod yX4_beatOf, Cond.selects RX4 yX4_beatOf yX4_beatOf, Cond.code yX4_beatOf cX4_beatOf 2 (some .int), Cond.methodLink RX0 117 yX1_sizeOf, Cond.instanceMethod yX1_sizeOf, Cond.selects RX1 yX1_sizeOf yX1_sizeOf, Cond.code yX1_sizeOf cX1_sizeOf 2 (some .int), Cond.methodLink RX0 126 yX3_skillOf, Cond.instanceMethod yX3_skillOf, Cond.selects RX3 yX3_skillOf yX3_skillOf, Cond.code yX3_skillOf cX3_skillOf 2 (some .int)]
def wsL_build_r10 : List Cond := [Cond.methodLink RX0 97 yX0_freeFelts, Cond.instanceMethod yX0_freeFelts, Cond.selects RX0 yX0_freeFelts yX0_freeFelts, Cond.code yX0_freeFelts cX0_freeFelts 1 (some .int), Cond.fieldLink RX0 58 "RagVats$Mill" "posts" "LRagVats$Posts;", Cond.methodLink RX0 147 yX4_pulpOf, Cond.methodLink RL 87 yX6_makes, Cond.instanceMethod yX6_makes, Cond.selects RX6 yX6_makes yX6_makes, Cond.code yX6_makes cX6_makes 3 (some .int), Cond.methodLink RX6 59 yX6_free, Cond.instanceMethod yX6_free, Cond.selects RX6 yX6_free yX6_free, Cond.code yX6_free cX6_free 6 (some .int), Cond.methodLink RL 100 yX5_pass, Cond.instanceMethod yX5_pass, Cond.selects RX5 yX5_pass yX5_pass, Cond.code yX5_pass cX5_pass 3 (some .int), Cond.methodLink RX5 209 yX0_liveDays, Cond.instanceMethod yX0_liveDays, Cond.selects RX0 yX0_liveDays yX0_liveDays, Cond.code yX0_liveDays cX0_liveDays 3 none, Cond.methodLink RX0 150 yX0_liveDay, Cond.instanceMethod yX0_liveDay]
def wsL_build_r11 : List Cond := [Cond.selects RX0 yX0_liveDay yX0_liveDay, Cond.code yX0_liveDay cX0_liveDay 2 none, Cond.fieldLink RX0 31 "RagVats$Mill" "water" "[I", Cond.fieldLink RX0 9 "RagVats$Mill" "day" "I", Cond.methodLink RX0 153 yJ9_floorMod_7cf53, Cond.static yJ9_floorMod_7cf53, Cond.initialized RJ9, Cond.code yJ9_floorMod_7cf53 cJ9_floorMod_7cf53 3 (some .int), Cond.methodLink RX0 156 yX4_beatAll, Cond.instanceMethod yX4_beatAll, Cond.selects RX4 yX4_beatAll yX4_beatAll, Cond.code yX4_beatAll cX4_beatAll 5 none, Cond.methodLink RX4 55 Lib.Math.min.name, Cond.methodLink RX4 51 yX4_numberWithPulp, Cond.instanceMethod yX4_numberWithPulp, Cond.selects RX4 yX4_numberWithPulp yX4_numberWithPulp, Cond.code yX4_numberWithPulp cX4_numberWithPulp 3 (some .int), Cond.methodLink RX0 161 yX0_makeSheets, Cond.instanceMethod yX0_makeSheets, Cond.selects RX0 yX0_makeSheets yX0_makeSheets, Cond.code yX0_makeSheets cX0_makeSheets 6 none, Cond.fieldLink RX0 21 "RagVats$Mill" "made" "I", Cond.fieldLink RX0 24 "RagVats$Mill" "worth" "I", Cond.methodLink RX0 135 yX0_sheetsOf]
def wsL_build_r12 : List Cond := [Cond.methodLink RX0 167 yX0_gradeOf, Cond.instanceMethod yX0_gradeOf, Cond.selects RX0 yX0_gradeOf yX0_gradeOf, Cond.code yX0_gradeOf cX0_gradeOf 4 (some .int), Cond.methodLink RX0 184 yX4_sortOf, Cond.instanceMethod yX4_sortOf, Cond.selects RX4 yX4_sortOf yX4_sortOf, Cond.code yX4_sortOf cX4_sortOf 2 (some .int), Cond.methodLink RX0 187 yX0_pointsOf, Cond.static yX0_pointsOf, Cond.code yX0_pointsOf cX0_pointsOf 1 (some .int), Cond.methodLink RX0 120 yX1_wornOf, Cond.methodLink RX0 114 yX1_markOf, Cond.instanceMethod yX1_markOf, Cond.selects RX1 yX1_markOf yX1_markOf, Cond.code yX1_markOf cX1_markOf 2 (some .int), Cond.methodLink RX0 170 yX2_add, Cond.instanceMethod yX2_add, Cond.selects RX2 yX2_add yX2_add, Cond.initialized RX2, Cond.code yX2_add cX2_add 4 none, Cond.fieldLink RX2 9 "RagVats$Posts" "number" "I", Cond.fieldLink RX2 18 "RagVats$Posts" "mark" "[I", Cond.fieldLink RX2 22 "RagVats$Posts" "grade" "[I"]
def wsL_build_r13 : List Cond := [Cond.fieldLink RX2 25 "RagVats$Posts" "sheets" "[I", Cond.fieldLink RX2 15 "RagVats$Posts" "allSheets" "I", Cond.methodLink RX0 177 yX4_takeOut, Cond.methodLink RX0 181 yX1_wearBySheets, Cond.instanceMethod yX1_wearBySheets, Cond.selects RX1 yX1_wearBySheets yX1_wearBySheets, Cond.code yX1_wearBySheets cX1_wearBySheets 3 none, Cond.methodLink RX1 35 Lib.Math.min.name, Cond.methodLink RX0 164 yX0_pressPosts, Cond.instanceMethod yX0_pressPosts, Cond.selects RX0 yX0_pressPosts yX0_pressPosts, Cond.code yX0_pressPosts cX0_pressPosts 4 none, Cond.methodLink RX0 193 yX2_sheetsOf, Cond.instanceMethod yX2_sheetsOf, Cond.selects RX2 yX2_sheetsOf yX2_sheetsOf, Cond.code yX2_sheetsOf cX2_sheetsOf 2 (some .int), Cond.methodLink RX2 44 yX2_has, Cond.instanceMethod yX2_has, Cond.selects RX2 yX2_has yX2_has, Cond.code yX2_has cX2_has 2 (some .boolean), Cond.methodLink RX0 194 yX2_markOf, Cond.instanceMethod yX2_markOf, Cond.selects RX2 yX2_markOf yX2_markOf, Cond.code yX2_markOf cX2_markOf 2 (some .int)]
def wsL_build_r14 : List Cond := [Cond.methodLink RX0 195 yX2_gradeOf, Cond.instanceMethod yX2_gradeOf, Cond.selects RX2 yX2_gradeOf yX2_gradeOf, Cond.code yX2_gradeOf cX2_gradeOf 2 (some .int), Cond.methodLink RX0 197 yX0_hang, Cond.methodLink RX0 200 yX2_takeOff, Cond.instanceMethod yX2_takeOff, Cond.selects RX2 yX2_takeOff yX2_takeOff, Cond.code yX2_takeOff cX2_takeOff 3 none, Cond.methodLink RX0 203 yX2_dropEmptyOnes, Cond.instanceMethod yX2_dropEmptyOnes, Cond.selects RX2 yX2_dropEmptyOnes yX2_dropEmptyOnes, Cond.code yX2_dropEmptyOnes cX2_dropEmptyOnes 3 none, Cond.methodLink RL 103 yX6_pass, Cond.instanceMethod yX6_pass, Cond.selects RX6 yX6_pass yX6_pass, Cond.code yX6_pass cX6_pass 12 (some .int), Cond.fieldLink RX6 46 "RagVatsLaw$Sim" "day" "I", Cond.methodLink RX6 63 Lib.Math.min.name, Cond.fieldLink RX6 52 "RagVatsLaw$Sim" "worth" "I", Cond.fieldLink RX6 49 "RagVatsLaw$Sim" "made" "I", Cond.methodLink RX6 69 yX6_makes, Cond.methodLink RX6 73 yX6_more, Cond.methodLink RX6 77 yX6_worth]
def wsL_build : List Cond := .code yL_build cL_build 4 (some (.object "RagVatsLaw$Sim")) :: ((wsL_build_r1 ++ (wsL_build_r2 ++ (wsL_build_r3 ++ (wsL_build_r4 ++ (wsL_build_r5 ++ (wsL_build_r6 ++ (wsL_build_r7 ++ (wsL_build_r8 ++ (wsL_build_r9 ++ (wsL_build_r10 ++ (wsL_build_r11 ++ (wsL_build_r12 ++ (wsL_build_r13 ++ wsL_build_r14))))))))))))) ++ wsX60 ++ wsX50 ++ wsX00 ++ wsX40 ++ wsX10 ++ wsX30 ++ wsX20 ++ (vx_atS RX5 27 "java/lang/IndexOutOfBoundsException" ["java/lang/RuntimeException", "java/lang/Exception"]).filter goodWord ++ (vx_atS RX5 37 "java/lang/IllegalArgumentException" ["java/lang/RuntimeException", "java/lang/Exception"]).filter goodWord ++ (vx_atS RX5 50 "java/lang/IllegalStateException" ["java/lang/RuntimeException", "java/lang/Exception"]).filter goodWord)
def wsL_law0_r1 : List Cond := [Cond.classLink RL 36 RX5, Cond.instantiable RX5 2, Cond.initialized RX5, Cond.classLink RL 114 "[[I", Cond.arrayClass .int, Cond.fieldLink RL 73 "RagVatsLaw$Sim" "water" "[I", Cond.methodLink RL 124 Lib.Math.min.name, Cond.static Lib.Math.min.name, Cond.initialized "java/lang/Math", Cond.code Lib.Math.min.name Lib.Math.min.code 2 (some .int), Cond.fieldLink RL 9 "RagVatsLaw$Sim" "pairs" "[[I", Cond.fieldLink RL 15 "RagVatsLaw$Sim" "teams" "[[I", Cond.methodLink RL 106 yX5_init, Cond.instanceMethod yX5_init, Cond.code yX5_init cX5_init 1 none, Cond.methodLink RX5 1 objectInit, Cond.instanceMethod objectInit, Cond.code objectInit ⟨#[0xb1]⟩ 1 none, Cond.classLink RX5 7 RX0, Cond.instantiable RX0 12, Cond.initialized RX0, Cond.fieldLink RX5 10 "RagVats" "mill" "LRagVats$Mill;", Cond.fieldLink RX5 16 "RagVats" "trial" "LRagVats$Mill;", Cond.methodLink RX5 9 yX0_init]
def wsL_law0_r2 : List Cond := [Cond.instanceMethod yX0_init, Cond.code yX0_init cX0_init 1 none, Cond.methodLink RX0 3 objectInit, Cond.fieldLink RX0 9 "RagVats$Mill" "day" "I", Cond.fieldLink RX0 15 "RagVats$Mill" "coins" "I", Cond.fieldLink RX0 18 "RagVats$Mill" "felts" "I", Cond.fieldLink RX0 21 "RagVats$Mill" "made" "I", Cond.fieldLink RX0 24 "RagVats$Mill" "worth" "I", Cond.fieldLink RX0 27 "RagVats$Mill" "rags" "[I", Cond.fieldLink RX0 31 "RagVats$Mill" "water" "[I", Cond.classLink RX0 34 RX4, Cond.instantiable RX4 3, Cond.initialized RX4, Cond.fieldLink RX0 37 "RagVats$Mill" "vats" "LRagVats$Vats;", Cond.classLink RX0 41 RX1, Cond.instantiable RX1 4, Cond.initialized RX1, Cond.fieldLink RX0 44 "RagVats$Mill" "moulds" "LRagVats$Moulds;", Cond.classLink RX0 48 RX3, Cond.instantiable RX3 4, Cond.initialized RX3, Cond.fieldLink RX0 51 "RagVats$Mill" "teams" "LRagVats$Teams;", Cond.classLink RX0 55 RX2, Cond.instantiable RX2 5]
def wsL_law0_r3 : List Cond := [Cond.initialized RX2, Cond.fieldLink RX0 58 "RagVats$Mill" "posts" "LRagVats$Posts;", Cond.fieldLink RX0 62 "RagVats$Mill" "loft" "[I", Cond.methodLink RX0 36 yX4_init, Cond.instanceMethod yX4_init, Cond.code yX4_init cX4_init 1 none, Cond.methodLink RX4 3 objectInit, Cond.fieldLink RX4 9 "RagVats$Vats" "pulp" "[I", Cond.fieldLink RX4 15 "RagVats$Vats" "beat" "[I", Cond.fieldLink RX4 18 "RagVats$Vats" "sort" "[I", Cond.methodLink RX4 21 yJ7_fill_53178, Cond.static yJ7_fill_53178, Cond.initialized RJ7, Cond.code yJ7_fill_53178 cJ7_fill_53178 4 none, Cond.instanceMethod yX1_init, Cond.code yX1_init cX1_init 1 none, Cond.methodLink RX1 3 objectInit, Cond.fieldLink RX1 9 "RagVats$Moulds" "number" "I", Cond.fieldLink RX1 15 "RagVats$Moulds" "mark" "[I", Cond.fieldLink RX1 19 "RagVats$Moulds" "size" "[I", Cond.fieldLink RX1 22 "RagVats$Moulds" "worn" "[I", Cond.instanceMethod yX3_init, Cond.code yX3_init cX3_init 1 none, Cond.methodLink RX3 3 objectInit]
def wsL_law0_r4 : List Cond := [Cond.fieldLink RX3 9 "RagVats$Teams" "number" "I", Cond.fieldLink RX3 15 "RagVats$Teams" "skill" "[I", Cond.fieldLink RX3 19 "RagVats$Teams" "vat" "[I", Cond.fieldLink RX3 22 "RagVats$Teams" "pair" "[I", Cond.instanceMethod yX2_init, Cond.code yX2_init cX2_init 1 none, Cond.methodLink RX2 3 objectInit, Cond.fieldLink RX2 9 "RagVats$Posts" "number" "I", Cond.fieldLink RX2 15 "RagVats$Posts" "allSheets" "I", Cond.fieldLink RX2 18 "RagVats$Posts" "mark" "[I", Cond.fieldLink RX2 22 "RagVats$Posts" "grade" "[I", Cond.fieldLink RX2 25 "RagVats$Posts" "sheets" "[I", Cond.methodLink RX0 65 yJ7_fill_53178, Cond.methodLink RL 107 yL_build, Cond.static yL_build, Cond.initialized RL, Cond.code yL_build cL_build 4 (some (.object "RagVatsLaw$Sim")), Cond.classLink RL 10 RX6, Cond.instantiable RX6 12, Cond.initialized RX6, Cond.instanceMethod yX6_init, Cond.code yX6_init cX6_init 1 none, Cond.methodLink RX6 1 objectInit, Cond.fieldLink RX6 7 "RagVatsLaw$Sim" "coins" "I"]
def wsL_law0_r5 : List Cond := [Cond.fieldLink RX6 13 "RagVatsLaw$Sim" "felts" "I", Cond.fieldLink RX6 16 "RagVatsLaw$Sim" "water" "[I", Cond.fieldLink RX6 20 "RagVatsLaw$Sim" "rags" "[I", Cond.classLink RX6 23 "[I", Cond.fieldLink RX6 24 "RagVatsLaw$Sim" "vats" "[[I", Cond.fieldLink RX6 28 "RagVatsLaw$Sim" "pairs" "[[I", Cond.fieldLink RX6 31 "RagVatsLaw$Sim" "teams" "[[I", Cond.fieldLink RX6 34 "RagVatsLaw$Sim" "posts" "[[I", Cond.classLink RX6 37 "[[I", Cond.fieldLink RX6 38 "RagVatsLaw$Sim" "loft" "[[I", Cond.methodLink RL 92 yL_cell, Cond.static yL_cell, Cond.code yL_cell cL_cell 2 (some .int), Cond.constant RL 8 (790386105), Cond.methodLink RL 96 yL_act, Cond.static yL_act, Cond.code yL_act cL_act 22 (some .boolean), Cond.fieldLink RL 24 "RagVatsLaw$Sim" "coins" "I", Cond.fieldLink RL 28 "RagVatsLaw$Sim" "felts" "I", Cond.fieldLink RL 31 "RagVatsLaw$Sim" "rags" "[I", Cond.fieldLink RL 40 "RagVatsLaw$Sim" "loft" "[[I", Cond.fieldLink RL 51 "RagVatsLaw$Sim" "vats" "[[I", Cond.methodLink RL 76 ⟨"[I", "clone", "()Ljava/lang/Object;"⟩, Cond.sameMethod "[I" "java/lang/Object" "clone" "()Ljava/lang/Object;"]
def wsL_law0_r6 : List Cond := [Cond.native ⟨"java/lang/Object", "clone", "()Ljava/lang/Object;"⟩, Cond.instanceMethod ⟨"java/lang/Object", "clone", "()Ljava/lang/Object;"⟩, Cond.selects "[I" ⟨"[I", "clone", "()Ljava/lang/Object;"⟩ ⟨"java/lang/Object", "clone", "()Ljava/lang/Object;"⟩, Cond.classLink RL 77 "[I", Cond.methodLink RL 18 yL_below, Cond.static yL_below, Cond.code yL_below cL_below 2 (some .int), Cond.constant RL 7 (2147483647), Cond.methodLink RL 35 yX5_buy, Cond.instanceMethod yX5_buy, Cond.selects RX5 yX5_buy yX5_buy, Cond.code yX5_buy cX5_buy 4 (some .int), Cond.classLink RX5 23 "java/lang/IndexOutOfBoundsException", Cond.initialized "java/lang/IndexOutOfBoundsException", Cond.classLink RX5 33 "java/lang/IllegalArgumentException", Cond.initialized "java/lang/IllegalArgumentException", Cond.classLink RX5 46 "java/lang/IllegalStateException", Cond.initialized "java/lang/IllegalStateException", Cond.fieldLink RX5 38 "RagVats" "PRICES" "[I", Cond.methodLink RX5 19 yX5_isBelow, Cond.static yX5_isBelow, Cond.code yX5_isBelow cX5_isBelow 2 (some .boolean), Cond.methodLink RX5 30 yX5_isFrom1To, Cond.static yX5_isFrom1To]
def wsL_law0_r7 : List Cond := [Cond.code yX5_isFrom1To cX5_isFrom1To 2 (some .boolean), Cond.methodLink RX5 56 yX0_takeIn, Cond.instanceMethod yX0_takeIn, Cond.selects RX0 yX0_takeIn yX0_takeIn, Cond.code yX0_takeIn cX0_takeIn 3 (some .int), Cond.methodLink RL 43 yX6_worth, Cond.static yX6_worth, Cond.code yX6_worth cX6_worth 1 (some .int), Cond.methodLink RL 47 yX5_sell, Cond.instanceMethod yX5_sell, Cond.selects RX5 yX5_sell yX5_sell, Cond.code yX5_sell cX5_sell 6 (some .int), Cond.methodLink RX5 64 yX0_hanging, Cond.instanceMethod yX0_hanging, Cond.selects RX0 yX0_hanging yX0_hanging, Cond.code yX0_hanging cX0_hanging 3 (some .int), Cond.methodLink RX5 69 yX5_worthOf, Cond.static yX5_worthOf, Cond.code yX5_worthOf cX5_worthOf 1 (some .int), Cond.fieldLink RX5 252 "RagVats" "SHEET_WORTH" "[I", Cond.methodLink RX5 73 yX0_hang, Cond.instanceMethod yX0_hang, Cond.selects RX0 yX0_hang yX0_hang, Cond.code yX0_hang cX0_hang 4 none]
def wsL_law0_r8 : List Cond := [Cond.methodLink RL 54 yX5_fill, Cond.instanceMethod yX5_fill, Cond.selects RX5 yX5_fill yX5_fill, Cond.code yX5_fill cX5_fill 4 (some .int), Cond.methodLink RX5 85 yX4_pulpOf, Cond.instanceMethod yX4_pulpOf, Cond.selects RX4 yX4_pulpOf yX4_pulpOf, Cond.code yX4_pulpOf cX4_pulpOf 2 (some .int), Cond.methodLink RX5 97 yX4_charge, Cond.instanceMethod yX4_charge, Cond.selects RX4 yX4_charge yX4_charge, Cond.code yX4_charge cX4_charge 4 none, Cond.methodLink RL 57 yX5_drain, Cond.instanceMethod yX5_drain, Cond.selects RX5 yX5_drain yX5_drain, Cond.code yX5_drain cX5_drain 3 (some .int), Cond.methodLink RX5 104 yX4_takeOut, Cond.instanceMethod yX4_takeOut, Cond.selects RX4 yX4_takeOut yX4_takeOut, Cond.code yX4_takeOut cX4_takeOut 3 none, Cond.methodLink RX4 47 yX4_charge, Cond.methodLink RL 60 yX6_more, Cond.static yX6_more, Cond.code yX6_more cX6_more 4 (some (.array (.array .int)))]
def wsL_law0_r9 : List Cond := [Cond.methodLink RL 64 yX5_pair, Cond.instanceMethod yX5_pair, Cond.selects RX5 yX5_pair yX5_pair, Cond.code yX5_pair cX5_pair 3 (some .int), Cond.methodLink RX5 123 yX1_add, Cond.instanceMethod yX1_add, Cond.selects RX1 yX1_add yX1_add, Cond.code yX1_add cX1_add 3 (some .int), Cond.methodLink RL 67 yX5_wire, Cond.instanceMethod yX5_wire, Cond.selects RX5 yX5_wire yX5_wire, Cond.code yX5_wire cX5_wire 3 (some .int), Cond.methodLink RX5 126 yX1_has, Cond.instanceMethod yX1_has, Cond.selects RX1 yX1_has yX1_has, Cond.code yX1_has cX1_has 2 (some .boolean), Cond.methodLink RX5 132 yX1_wornOf, Cond.instanceMethod yX1_wornOf, Cond.selects RX1 yX1_wornOf yX1_wornOf, Cond.code yX1_wornOf cX1_wornOf 2 (some .int), Cond.methodLink RX1 31 yX1_has, Cond.methodLink RX5 137 yX1_makeNew, Cond.instanceMethod yX1_makeNew, Cond.selects RX1 yX1_makeNew yX1_makeNew]
def wsL_law0_r10 : List Cond := [Cond.code yX1_makeNew cX1_makeNew 2 none, Cond.methodLink RL 70 yX5_team, Cond.instanceMethod yX5_team, Cond.selects RX5 yX5_team yX5_team, Cond.code yX5_team cX5_team 2 (some .int), Cond.methodLink RX5 152 yX3_add, Cond.instanceMethod yX3_add, Cond.selects RX3 yX3_add yX3_add, Cond.code yX3_add cX3_add 2 (some .int), Cond.methodLink RL 81 yX5_setWater, Cond.instanceMethod yX5_setWater, Cond.selects RX5 yX5_setWater yX5_setWater, Cond.code yX5_setWater cX5_setWater 4 (some .int), Cond.methodLink RL 84 yX5_place, Cond.instanceMethod yX5_place, Cond.selects RX5 yX5_place yX5_place, Cond.code yX5_place cX5_place 5 (some .int), Cond.methodLink RX5 154 yX3_has, Cond.instanceMethod yX3_has, Cond.selects RX3 yX3_has yX3_has, Cond.code yX3_has cX3_has 2 (some .boolean), Cond.methodLink RX5 157 yX3_holderOf, Cond.instanceMethod yX3_holderOf, Cond.selects RX3 yX3_holderOf yX3_holderOf]
def wsL_law0_r11 : List Cond := [Cond.code yX3_holderOf cX3_holderOf 3 (some .int), Cond.methodLink RX3 35 yX3_pairOf, Cond.instanceMethod yX3_pairOf, Cond.selects RX3 yX3_pairOf yX3_pairOf, Cond.code yX3_pairOf cX3_pairOf 2 (some .int), Cond.methodLink RX3 31 yX3_has, Cond.methodLink RX5 162 yX3_send, Cond.instanceMethod yX3_send, Cond.selects RX3 yX3_send yX3_send, Cond.code yX3_send cX3_send 4 none, Cond.methodLink RX5 165 yX0_sheetsOf, Cond.instanceMethod yX0_sheetsOf, Cond.selects RX0 yX0_sheetsOf yX0_sheetsOf, Cond.code yX0_sheetsOf cX0_sheetsOf 6 (some .int), Cond.methodLink RX0 141 Lib.Math.min.name, Cond.methodLink RX0 129 yX3_vatOf, Cond.instanceMethod yX3_vatOf, Cond.selects RX3 yX3_vatOf yX3_vatOf, Cond.code yX3_vatOf cX3_vatOf 2 (some .int), Cond.methodLink RX0 132 yX3_pairOf, Cond.methodLink RX0 138 yX4_beatOf, Cond.instanceMethod yX4_beatOf, Cond.selects RX4 yX4_beatOf yX4_beatOf, Cond.code yX4_beatOf cX4_beatOf 2 (some .int)]
def wsL_law0_r12 : List Cond := [Cond.methodLink RX0 117 yX1_sizeOf, Cond.instanceMethod yX1_sizeOf, Cond.selects RX1 yX1_sizeOf yX1_sizeOf, Cond.code yX1_sizeOf cX1_sizeOf 2 (some .int), Cond.methodLink RX0 126 yX3_skillOf, Cond.instanceMethod yX3_skillOf, Cond.selects RX3 yX3_skillOf yX3_skillOf, Cond.code yX3_skillOf cX3_skillOf 2 (some .int), Cond.methodLink RX0 97 yX0_freeFelts, Cond.instanceMethod yX0_freeFelts, Cond.selects RX0 yX0_freeFelts yX0_freeFelts, Cond.code yX0_freeFelts cX0_freeFelts 1 (some .int), Cond.methodLink RX0 147 yX4_pulpOf, Cond.methodLink RL 87 yX6_makes, Cond.instanceMethod yX6_makes, Cond.selects RX6 yX6_makes yX6_makes, Cond.code yX6_makes cX6_makes 3 (some .int), Cond.methodLink RX6 59 yX6_free, Cond.instanceMethod yX6_free, Cond.selects RX6 yX6_free yX6_free, Cond.code yX6_free cX6_free 6 (some .int), Cond.methodLink RL 100 yX5_pass, Cond.instanceMethod yX5_pass, Cond.selects RX5 yX5_pass yX5_pass]
def wsL_law0_r13 : List Cond := [Cond.code yX5_pass cX5_pass 3 (some .int), Cond.methodLink RX5 209 yX0_liveDays, Cond.instanceMethod yX0_liveDays, Cond.selects RX0 yX0_liveDays yX0_liveDays, Cond.code yX0_liveDays cX0_liveDays 3 none, Cond.methodLink RX0 150 yX0_liveDay, Cond.instanceMethod yX0_liveDay, Cond.selects RX0 yX0_liveDay yX0_liveDay, Cond.code yX0_liveDay cX0_liveDay 2 none, Cond.methodLink RX0 153 yJ9_floorMod_7cf53, Cond.static yJ9_floorMod_7cf53, Cond.initialized RJ9, Cond.code yJ9_floorMod_7cf53 cJ9_floorMod_7cf53 3 (some .int), Cond.methodLink RX0 156 yX4_beatAll, Cond.instanceMethod yX4_beatAll, Cond.selects RX4 yX4_beatAll yX4_beatAll, Cond.code yX4_beatAll cX4_beatAll 5 none, Cond.methodLink RX4 55 Lib.Math.min.name, Cond.methodLink RX4 51 yX4_numberWithPulp, Cond.instanceMethod yX4_numberWithPulp, Cond.selects RX4 yX4_numberWithPulp yX4_numberWithPulp, Cond.code yX4_numberWithPulp cX4_numberWithPulp 3 (some .int), Cond.methodLink RX0 161 yX0_makeSheets, Cond.instanceMethod yX0_makeSheets]
def wsL_law0_r14 : List Cond := [Cond.selects RX0 yX0_makeSheets yX0_makeSheets, Cond.code yX0_makeSheets cX0_makeSheets 6 none, Cond.methodLink RX0 135 yX0_sheetsOf, Cond.methodLink RX0 167 yX0_gradeOf, Cond.instanceMethod yX0_gradeOf, Cond.selects RX0 yX0_gradeOf yX0_gradeOf, Cond.code yX0_gradeOf cX0_gradeOf 4 (some .int), Cond.methodLink RX0 184 yX4_sortOf, Cond.instanceMethod yX4_sortOf, Cond.selects RX4 yX4_sortOf yX4_sortOf, Cond.code yX4_sortOf cX4_sortOf 2 (some .int), Cond.methodLink RX0 187 yX0_pointsOf, Cond.static yX0_pointsOf, Cond.code yX0_pointsOf cX0_pointsOf 1 (some .int), Cond.methodLink RX0 120 yX1_wornOf, Cond.methodLink RX0 114 yX1_markOf, Cond.instanceMethod yX1_markOf, Cond.selects RX1 yX1_markOf yX1_markOf, Cond.code yX1_markOf cX1_markOf 2 (some .int), Cond.methodLink RX0 170 yX2_add, Cond.instanceMethod yX2_add, Cond.selects RX2 yX2_add yX2_add, Cond.code yX2_add cX2_add 4 none, Cond.methodLink RX0 177 yX4_takeOut]
def wsL_law0_r15 : List Cond := [Cond.methodLink RX0 181 yX1_wearBySheets, Cond.instanceMethod yX1_wearBySheets, Cond.selects RX1 yX1_wearBySheets yX1_wearBySheets, Cond.code yX1_wearBySheets cX1_wearBySheets 3 none, Cond.methodLink RX1 35 Lib.Math.min.name, Cond.methodLink RX0 164 yX0_pressPosts, Cond.instanceMethod yX0_pressPosts, Cond.selects RX0 yX0_pressPosts yX0_pressPosts, Cond.code yX0_pressPosts cX0_pressPosts 4 none, Cond.methodLink RX0 193 yX2_sheetsOf, Cond.instanceMethod yX2_sheetsOf, Cond.selects RX2 yX2_sheetsOf yX2_sheetsOf, Cond.code yX2_sheetsOf cX2_sheetsOf 2 (some .int), Cond.methodLink RX2 44 yX2_has, Cond.instanceMethod yX2_has, Cond.selects RX2 yX2_has yX2_has, Cond.code yX2_has cX2_has 2 (some .boolean), Cond.methodLink RX0 194 yX2_markOf, Cond.instanceMethod yX2_markOf, Cond.selects RX2 yX2_markOf yX2_markOf, Cond.code yX2_markOf cX2_markOf 2 (some .int), Cond.methodLink RX0 195 yX2_gradeOf, Cond.instanceMethod yX2_gradeOf, Cond.selects RX2 yX2_gradeOf yX2_gradeOf]
def wsL_law0_r16 : List Cond := [Cond.code yX2_gradeOf cX2_gradeOf 2 (some .int), Cond.methodLink RX0 197 yX0_hang, Cond.methodLink RX0 200 yX2_takeOff, Cond.instanceMethod yX2_takeOff, Cond.selects RX2 yX2_takeOff yX2_takeOff, Cond.code yX2_takeOff cX2_takeOff 3 none, Cond.methodLink RX0 203 yX2_dropEmptyOnes, Cond.instanceMethod yX2_dropEmptyOnes, Cond.selects RX2 yX2_dropEmptyOnes yX2_dropEmptyOnes, Cond.code yX2_dropEmptyOnes cX2_dropEmptyOnes 3 none, Cond.methodLink RL 103 yX6_pass, Cond.instanceMethod yX6_pass, Cond.selects RX6 yX6_pass yX6_pass, Cond.code yX6_pass cX6_pass 12 (some .int), Cond.fieldLink RX6 46 "RagVatsLaw$Sim" "day" "I", Cond.methodLink RX6 63 Lib.Math.min.name, Cond.fieldLink RX6 52 "RagVatsLaw$Sim" "worth" "I", Cond.fieldLink RX6 49 "RagVatsLaw$Sim" "made" "I", Cond.methodLink RX6 69 yX6_makes, Cond.methodLink RX6 73 yX6_more, Cond.methodLink RX6 77 yX6_worth, Cond.methodLink RL 111 yX5_ripe, Cond.instanceMethod yX5_ripe, Cond.selects RX5 yX5_ripe yX5_ripe]
def wsL_law0_r17 : List Cond := [Cond.code yX5_ripe cX5_ripe 4 (some .int), Cond.methodLink RX5 214 yX0_becomeLike, Cond.instanceMethod yX0_becomeLike, Cond.selects RX0 yX0_becomeLike yX0_becomeLike, Cond.code yX0_becomeLike cX0_becomeLike 2 none, Cond.methodLink RX0 71 arraycopyName, Cond.native arraycopyName, Cond.static arraycopyName, Cond.initialized "java/lang/System", Cond.methodLink RX0 77 yX4_becomeLike, Cond.instanceMethod yX4_becomeLike, Cond.selects RX4 yX4_becomeLike yX4_becomeLike, Cond.code yX4_becomeLike cX4_becomeLike 2 none, Cond.methodLink RX4 27 arraycopyName, Cond.methodLink RX0 81 yX1_becomeLike, Cond.instanceMethod yX1_becomeLike, Cond.selects RX1 yX1_becomeLike yX1_becomeLike, Cond.code yX1_becomeLike cX1_becomeLike 2 none, Cond.methodLink RX1 25 arraycopyName, Cond.methodLink RX0 84 yX3_becomeLike, Cond.instanceMethod yX3_becomeLike, Cond.selects RX3 yX3_becomeLike yX3_becomeLike, Cond.code yX3_becomeLike cX3_becomeLike 2 none, Cond.methodLink RX3 25 arraycopyName]
def wsL_law0_r18 : List Cond := [Cond.methodLink RX0 87 yX2_becomeLike, Cond.instanceMethod yX2_becomeLike, Cond.selects RX2 yX2_becomeLike yX2_becomeLike, Cond.code yX2_becomeLike cX2_becomeLike 2 none, Cond.methodLink RX2 28 arraycopyName, Cond.methodLink RX5 218 yX4_beatOf, Cond.methodLink RX5 221 yX0_liveDay, Cond.methodLink RL 115 yX5_about, Cond.instanceMethod yX5_about, Cond.selects RX5 yX5_about yX5_about, Cond.code yX5_about cX5_about 3 (some .int), Cond.methodLink RX5 177 yX4_tell, Cond.instanceMethod yX4_tell, Cond.selects RX4 yX4_tell yX4_tell, Cond.code yX4_tell cX4_tell 3 (some .int), Cond.methodLink RX4 37 yX4_pulpOf, Cond.methodLink RX4 41 yX4_beatOf, Cond.methodLink RX4 44 yX4_sortOf, Cond.methodLink RL 118 yX5_count, Cond.instanceMethod yX5_count, Cond.selects RX5 yX5_count yX5_count, Cond.code yX5_count cX5_count 2 (some .int), Cond.methodLink RX5 202 yX0_tell, Cond.instanceMethod yX0_tell]
def wsL_law0_r19 : List Cond := [Cond.selects RX0 yX0_tell yX0_tell, Cond.code yX0_tell cX0_tell 2 (some .int), Cond.methodLink RX0 104 yX0_allHanging, Cond.instanceMethod yX0_allHanging, Cond.selects RX0 yX0_allHanging yX0_allHanging, Cond.code yX0_allHanging cX0_allHanging 3 (some .int), Cond.methodLink RX0 107 yX4_allPulp, Cond.instanceMethod yX4_allPulp, Cond.selects RX4 yX4_allPulp yX4_allPulp, Cond.code yX4_allPulp cX4_allPulp 3 (some .int), Cond.methodLink RX0 110 yX0_poundsOf, Cond.instanceMethod yX0_poundsOf, Cond.selects RX0 yX0_poundsOf yX0_poundsOf, Cond.code yX0_poundsOf cX0_poundsOf 2 (some .int), Cond.methodLink RL 121 yX5_foresee, Cond.instanceMethod yX5_foresee, Cond.selects RX5 yX5_foresee yX5_foresee, Cond.code yX5_foresee cX5_foresee 3 (some .int), Cond.methodLink RL 129 yX5_mould, Cond.instanceMethod yX5_mould, Cond.selects RX5 yX5_mould yX5_mould, Cond.code yX5_mould cX5_mould 3 (some .int), Cond.methodLink RX5 182 yX0_tellPair, Cond.instanceMethod yX0_tellPair]
def wsL_law0_r20 : List Cond := [Cond.selects RX0 yX0_tellPair yX0_tellPair, Cond.code yX0_tellPair cX0_tellPair 3 (some .int), Cond.methodLink RX0 123 yX3_holderOf, Cond.methodLink RL 132 yX5_told, Cond.instanceMethod yX5_told, Cond.selects RX5 yX5_told yX5_told, Cond.code yX5_told cX5_told 3 (some .int), Cond.methodLink RX5 187 yX0_tellTeam, Cond.instanceMethod yX0_tellTeam, Cond.selects RX0 yX0_tellTeam yX0_tellTeam, Cond.code yX0_tellTeam cX0_tellTeam 3 (some .int), Cond.methodLink RL 135 yX6_isSame, Cond.instanceMethod yX6_isSame, Cond.selects RX6 yX6_isSame yX6_isSame, Cond.code yX6_isSame cX6_isSame 6 (some .boolean), Cond.methodLink RX6 80 yX5_about, Cond.methodLink RX6 85 yX5_mould, Cond.methodLink RX6 88 yX5_told, Cond.methodLink RX6 91 yX5_post, Cond.instanceMethod yX5_post, Cond.selects RX5 yX5_post yX5_post, Cond.code yX5_post cX5_post 3 (some .int), Cond.methodLink RX5 194 yX2_has, Cond.methodLink RX5 199 yX2_tell]
def wsL_law0_r21 : List Cond := [Cond.instanceMethod yX2_tell, Cond.selects RX2 yX2_tell yX2_tell, Cond.code yX2_tell cX2_tell 3 (some .int), Cond.methodLink RX2 34 yX2_markOf, Cond.methodLink RX2 38 yX2_gradeOf, Cond.methodLink RX2 41 yX2_sheetsOf, Cond.methodLink RX6 94 yX5_loft, Cond.instanceMethod yX5_loft, Cond.selects RX5 yX5_loft yX5_loft, Cond.code yX5_loft cX5_loft 3 (some .int), Cond.methodLink RX6 96 yX5_count, Cond.methodLink RX6 99 yX6_told, Cond.instanceMethod yX6_told, Cond.selects RX6 yX6_told yX6_told, Cond.code yX6_told cX6_told 8 (some .int), Cond.methodLink RX6 101 yX5_mean, Cond.instanceMethod yX5_mean, Cond.selects RX5 yX5_mean yX5_mean, Cond.code yX5_mean cX5_mean 4 (some .double)]
def wsL_law0 : List Cond := (wsL_law0_r1 ++ (wsL_law0_r2 ++ (wsL_law0_r3 ++ (wsL_law0_r4 ++ (wsL_law0_r5 ++ (wsL_law0_r6 ++ (wsL_law0_r7 ++ (wsL_law0_r8 ++ (wsL_law0_r9 ++ (wsL_law0_r10 ++ (wsL_law0_r11 ++ (wsL_law0_r12 ++ (wsL_law0_r13 ++ (wsL_law0_r14 ++ (wsL_law0_r15 ++ (wsL_law0_r16 ++ (wsL_law0_r17 ++ (wsL_law0_r18 ++ (wsL_law0_r19 ++ (wsL_law0_r20 ++ wsL_law0_r21)))))))))))))))))))) ++ wsX50 ++ wsX60 ++ wsX00 ++ wsX40 ++ wsX10 ++ wsX30 ++ wsX20 ++ ([] : List Cond)
def wsL_law : List Cond := wsL_law0 ++ (vx_atS RX5 27 "java/lang/IndexOutOfBoundsException" ["java/lang/RuntimeException", "java/lang/Exception"]).filter goodWord ++ (vx_atS RX5 37 "java/lang/IllegalArgumentException" ["java/lang/RuntimeException", "java/lang/Exception"]).filter goodWord ++ (vx_atS RX5 50 "java/lang/IllegalStateException" ["java/lang/RuntimeException", "java/lang/Exception"]).filter goodWord
end
section
theorem nmX0 : ∀ a, a < 12 → ∀ b, b < 12 → a ≠ b → (TX0 a).2.1 ≠ (TX0 b).2.1 := by decide +kernel
theorem tyX0_ok : ∀ k, k < 12 → parseFieldDescriptor (TX0 k).2.2.1 = some (tyX0 k) := by decide +kernel
theorem inlX0 : ∀ w ∈ wsX00, w ∈ wsL_law := fun _ h => List.mem_append_left _ (List.mem_append_left _ (List.mem_append_left _ (List.mem_append_left _ (List.mem_append_left _ (List.mem_append_left _ (List.mem_append_left _ (List.mem_append_left _ (List.mem_append_right _ h))))))))
set_option maxRecDepth 20000 in
theorem ggX0_init_X4_init : GoodIn wsX0_init wsX4_init := goodIn_r _ [31, 32, 2, 3, 9, 33, 34, 35, 36, 37, 38, 39, 75, 76, 77] (by decide +kernel) (by decide +kernel)
set_option maxRecDepth 20000 in
theorem gX0_init_X4_init : GoodIn wsX0_init (wsX4_init) := ggX0_init_X4_init
set_option maxRecDepth 20000 in
theorem ggX0_init_X1_init : GoodIn wsX0_init wsX1_init := goodIn_r _ [41, 42, 2, 3, 43, 9, 44, 45, 46, 78, 79, 80, 81] (by decide +kernel) (by decide +kernel)
set_option maxRecDepth 20000 in
theorem gX0_init_X1_init_n43 : GoodIn wsX0_init (wsX1_init) := ggX0_init_X1_init
set_option maxRecDepth 20000 in
theorem ggX0_init_X3_init : GoodIn wsX0_init wsX3_init := goodIn_r _ [48, 49, 2, 3, 50, 9, 51, 52, 53, 82, 83, 84, 85] (by decide +kernel) (by decide +kernel)
set_option maxRecDepth 20000 in
theorem gX0_init_X3_init_n50 : GoodIn wsX0_init (wsX3_init) := ggX0_init_X3_init
set_option maxRecDepth 20000 in
theorem ggX0_init_X2_init : GoodIn wsX0_init wsX2_init := goodIn_r _ [55, 56, 2, 3, 57, 58, 9, 59, 60, 61, 86, 87, 88, 89, 90] (by decide +kernel) (by decide +kernel)
set_option maxRecDepth 20000 in
theorem gX0_init_X2_init_n57 : GoodIn wsX0_init (wsX2_init) := ggX0_init_X2_init
set_option maxRecDepth 20000 in
theorem ggX0_init_J7_fill_53178 : GoodIn wsX0_init wsJ7_fill_53178 := goodIn_r _ [39] (by decide +kernel) (by decide +kernel)
set_option maxRecDepth 20000 in
theorem gX0_init_J7_fill_53178 : GoodIn wsX0_init (va_wsS RX0 65 yJ7_fill_53178 wsJ7_fill_53178) := goodIn_app (goodIn_of _ (by decide +kernel)) ggX0_init_J7_fill_53178
theorem dX0_init_0 : decode cX0_init 0 = .ok (.aload_n 0, 1) := by decide +kernel
theorem dX0_init_1 : decode cX0_init 1 = .ok (.invokespecial 3, 3) := by decide +kernel
theorem dX0_init_4 : decode cX0_init 4 = .ok (.aload_n 0, 1) := by decide +kernel
theorem dX0_init_5 : decode cX0_init 5 = .ok (.iconst 0, 1) := by decide +kernel
theorem dX0_init_6 : decode cX0_init 6 = .ok (.putfield 9, 3) := by decide +kernel
theorem dX0_init_9 : decode cX0_init 9 = .ok (.aload_n 0, 1) := by decide +kernel
theorem dX0_init_10 : decode cX0_init 10 = .ok (.bipush 40, 2) := by decide +kernel
theorem dX0_init_12 : decode cX0_init 12 = .ok (.putfield 15, 3) := by decide +kernel
theorem dX0_init_15 : decode cX0_init 15 = .ok (.aload_n 0, 1) := by decide +kernel
theorem dX0_init_16 : decode cX0_init 16 = .ok (.bipush 30, 2) := by decide +kernel
theorem dX0_init_18 : decode cX0_init 18 = .ok (.putfield 18, 3) := by decide +kernel
theorem dX0_init_21 : decode cX0_init 21 = .ok (.aload_n 0, 1) := by decide +kernel
theorem dX0_init_22 : decode cX0_init 22 = .ok (.iconst 0, 1) := by decide +kernel
theorem dX0_init_23 : decode cX0_init 23 = .ok (.putfield 21, 3) := by decide +kernel
theorem dX0_init_26 : decode cX0_init 26 = .ok (.aload_n 0, 1) := by decide +kernel
theorem dX0_init_27 : decode cX0_init 27 = .ok (.iconst 0, 1) := by decide +kernel
theorem dX0_init_28 : decode cX0_init 28 = .ok (.putfield 24, 3) := by decide +kernel
theorem dX0_init_31 : decode cX0_init 31 = .ok (.aload_n 0, 1) := by decide +kernel
theorem dX0_init_32 : decode cX0_init 32 = .ok (.iconst 3, 1) := by decide +kernel
theorem dX0_init_33 : decode cX0_init 33 = .ok (.newarray .int, 2) := by decide +kernel
theorem dX0_init_35 : decode cX0_init 35 = .ok (.putfield 27, 3) := by decide +kernel
theorem dX0_init_38 : decode cX0_init 38 = .ok (.aload_n 0, 1) := by decide +kernel
theorem dX0_init_39 : decode cX0_init 39 = .ok (.bipush 7, 2) := by decide +kernel
theorem dX0_init_41 : decode cX0_init 41 = .ok (.newarray .int, 2) := by decide +kernel
theorem dX0_init_43 : decode cX0_init 43 = .ok (.putfield 31, 3) := by decide +kernel
theorem dX0_init_46 : decode cX0_init 46 = .ok (.aload_n 0, 1) := by decide +kernel
theorem dX0_init_47 : decode cX0_init 47 = .ok (.new 34, 3) := by decide +kernel
theorem dX0_init_50 : decode cX0_init 50 = .ok (.dup, 1) := by decide +kernel
theorem dX0_init_51 : decode cX0_init 51 = .ok (.invokespecial 36, 3) := by decide +kernel
theorem dX0_init_54 : decode cX0_init 54 = .ok (.putfield 37, 3) := by decide +kernel
theorem dX0_init_57 : decode cX0_init 57 = .ok (.aload_n 0, 1) := by decide +kernel
theorem dX0_init_58 : decode cX0_init 58 = .ok (.new 41, 3) := by decide +kernel
theorem dX0_init_61 : decode cX0_init 61 = .ok (.dup, 1) := by decide +kernel
theorem dX0_init_62 : decode cX0_init 62 = .ok (.invokespecial 43, 3) := by decide +kernel
theorem dX0_init_65 : decode cX0_init 65 = .ok (.putfield 44, 3) := by decide +kernel
theorem dX0_init_68 : decode cX0_init 68 = .ok (.aload_n 0, 1) := by decide +kernel
theorem dX0_init_69 : decode cX0_init 69 = .ok (.new 48, 3) := by decide +kernel
theorem dX0_init_72 : decode cX0_init 72 = .ok (.dup, 1) := by decide +kernel
theorem dX0_init_73 : decode cX0_init 73 = .ok (.invokespecial 50, 3) := by decide +kernel
theorem dX0_init_76 : decode cX0_init 76 = .ok (.putfield 51, 3) := by decide +kernel
theorem dX0_init_79 : decode cX0_init 79 = .ok (.aload_n 0, 1) := by decide +kernel
theorem dX0_init_80 : decode cX0_init 80 = .ok (.new 55, 3) := by decide +kernel
theorem dX0_init_83 : decode cX0_init 83 = .ok (.dup, 1) := by decide +kernel
theorem dX0_init_84 : decode cX0_init 84 = .ok (.invokespecial 57, 3) := by decide +kernel
theorem dX0_init_87 : decode cX0_init 87 = .ok (.putfield 58, 3) := by decide +kernel
theorem dX0_init_90 : decode cX0_init 90 = .ok (.aload_n 0, 1) := by decide +kernel
theorem dX0_init_91 : decode cX0_init 91 = .ok (.bipush 30, 2) := by decide +kernel
theorem dX0_init_93 : decode cX0_init 93 = .ok (.newarray .int, 2) := by decide +kernel
theorem dX0_init_95 : decode cX0_init 95 = .ok (.putfield 62, 3) := by decide +kernel
theorem dX0_init_98 : decode cX0_init 98 = .ok (.aload_n 0, 1) := by decide +kernel
theorem dX0_init_99 : decode cX0_init 99 = .ok (.getfield 27, 3) := by decide +kernel
theorem dX0_init_102 : decode cX0_init 102 = .ok (.bipush 60, 2) := by decide +kernel
theorem dX0_init_104 : decode cX0_init 104 = .ok (.invokestatic 65, 3) := by decide +kernel
theorem dX0_init_107 : decode cX0_init 107 = .ok (.aload_n 0, 1) := by decide +kernel
theorem dX0_init_108 : decode cX0_init 108 = .ok (.getfield 31, 3) := by decide +kernel
theorem dX0_init_111 : decode cX0_init 111 = .ok (.iconst 4, 1) := by decide +kernel
theorem dX0_init_112 : decode cX0_init 112 = .ok (.invokestatic 65, 3) := by decide +kernel
theorem dX0_init_115 : decode cX0_init 115 = .ok (.return_, 1) := by decide +kernel
set_option maxRecDepth 20000 in
theorem ggX0_becomeLike_X4_becomeLike : GoodIn wsX0_becomeLike wsX4_becomeLike := goodIn_r _ [21, 22, 23, 8, 9, 10, 24, 25, 69, 70, 71] (by decide +kernel) (by decide +kernel)
set_option maxRecDepth 20000 in
theorem gX0_becomeLike_X4_becomeLike : GoodIn wsX0_becomeLike (wsV RX0 77 RX4 yX4_becomeLike wsX4_becomeLike) := goodIn_app (goodIn_of _ (by decide +kernel)) ggX0_becomeLike_X4_becomeLike
set_option maxRecDepth 20000 in
theorem ggX0_becomeLike_X1_becomeLike : GoodIn wsX0_becomeLike wsX1_becomeLike := goodIn_r _ [30, 31, 32, 33, 8, 9, 10, 34, 35, 72, 73, 74, 75] (by decide +kernel) (by decide +kernel)
set_option maxRecDepth 20000 in
theorem gX0_becomeLike_X1_becomeLike : GoodIn wsX0_becomeLike (wsV RX0 81 RX1 yX1_becomeLike wsX1_becomeLike) := goodIn_app (goodIn_of _ (by decide +kernel)) ggX0_becomeLike_X1_becomeLike
set_option maxRecDepth 20000 in
theorem ggX0_becomeLike_X3_becomeLike : GoodIn wsX0_becomeLike wsX3_becomeLike := goodIn_r _ [40, 41, 42, 43, 8, 9, 10, 44, 45, 76, 77, 78, 79] (by decide +kernel) (by decide +kernel)
set_option maxRecDepth 20000 in
theorem gX0_becomeLike_X3_becomeLike : GoodIn wsX0_becomeLike (wsV RX0 84 RX3 yX3_becomeLike wsX3_becomeLike) := goodIn_app (goodIn_of _ (by decide +kernel)) ggX0_becomeLike_X3_becomeLike
set_option maxRecDepth 20000 in
theorem ggX0_becomeLike_X2_becomeLike : GoodIn wsX0_becomeLike wsX2_becomeLike := goodIn_r _ [50, 51, 52, 53, 54, 8, 9, 10, 55, 56, 80, 81, 82, 83, 84] (by decide +kernel) (by decide +kernel)
set_option maxRecDepth 20000 in
theorem gX0_becomeLike_X2_becomeLike : GoodIn wsX0_becomeLike (wsV RX0 87 RX2 yX2_becomeLike wsX2_becomeLike) := goodIn_app (goodIn_of _ (by decide +kernel)) ggX0_becomeLike_X2_becomeLike
theorem dX0_becomeLike_0 : decode cX0_becomeLike 0 = .ok (.aload_n 0, 1) := by decide +kernel
theorem dX0_becomeLike_1 : decode cX0_becomeLike 1 = .ok (.aload_n 1, 1) := by decide +kernel
theorem dX0_becomeLike_2 : decode cX0_becomeLike 2 = .ok (.getfield 9, 3) := by decide +kernel
theorem dX0_becomeLike_5 : decode cX0_becomeLike 5 = .ok (.putfield 9, 3) := by decide +kernel
theorem dX0_becomeLike_8 : decode cX0_becomeLike 8 = .ok (.aload_n 0, 1) := by decide +kernel
theorem dX0_becomeLike_9 : decode cX0_becomeLike 9 = .ok (.aload_n 1, 1) := by decide +kernel
theorem dX0_becomeLike_10 : decode cX0_becomeLike 10 = .ok (.getfield 15, 3) := by decide +kernel
theorem dX0_becomeLike_13 : decode cX0_becomeLike 13 = .ok (.putfield 15, 3) := by decide +kernel
theorem dX0_becomeLike_16 : decode cX0_becomeLike 16 = .ok (.aload_n 0, 1) := by decide +kernel
theorem dX0_becomeLike_17 : decode cX0_becomeLike 17 = .ok (.aload_n 1, 1) := by decide +kernel
theorem dX0_becomeLike_18 : decode cX0_becomeLike 18 = .ok (.getfield 18, 3) := by decide +kernel
theorem dX0_becomeLike_21 : decode cX0_becomeLike 21 = .ok (.putfield 18, 3) := by decide +kernel
theorem dX0_becomeLike_24 : decode cX0_becomeLike 24 = .ok (.aload_n 0, 1) := by decide +kernel
theorem dX0_becomeLike_25 : decode cX0_becomeLike 25 = .ok (.aload_n 1, 1) := by decide +kernel
theorem dX0_becomeLike_26 : decode cX0_becomeLike 26 = .ok (.getfield 21, 3) := by decide +kernel
theorem dX0_becomeLike_29 : decode cX0_becomeLike 29 = .ok (.putfield 21, 3) := by decide +kernel
theorem dX0_becomeLike_32 : decode cX0_becomeLike 32 = .ok (.aload_n 0, 1) := by decide +kernel
theorem dX0_becomeLike_33 : decode cX0_becomeLike 33 = .ok (.aload_n 1, 1) := by decide +kernel
theorem dX0_becomeLike_34 : decode cX0_becomeLike 34 = .ok (.getfield 24, 3) := by decide +kernel
theorem dX0_becomeLike_37 : decode cX0_becomeLike 37 = .ok (.putfield 24, 3) := by decide +kernel
theorem dX0_becomeLike_40 : decode cX0_becomeLike 40 = .ok (.aload_n 1, 1) := by decide +kernel
theorem dX0_becomeLike_41 : decode cX0_becomeLike 41 = .ok (.getfield 27, 3) := by decide +kernel
theorem dX0_becomeLike_44 : decode cX0_becomeLike 44 = .ok (.iconst 0, 1) := by decide +kernel
theorem dX0_becomeLike_45 : decode cX0_becomeLike 45 = .ok (.aload_n 0, 1) := by decide +kernel
theorem dX0_becomeLike_46 : decode cX0_becomeLike 46 = .ok (.getfield 27, 3) := by decide +kernel
theorem dX0_becomeLike_49 : decode cX0_becomeLike 49 = .ok (.iconst 0, 1) := by decide +kernel
theorem dX0_becomeLike_50 : decode cX0_becomeLike 50 = .ok (.iconst 3, 1) := by decide +kernel
theorem dX0_becomeLike_51 : decode cX0_becomeLike 51 = .ok (.invokestatic 71, 3) := by decide +kernel
theorem dX0_becomeLike_54 : decode cX0_becomeLike 54 = .ok (.aload_n 1, 1) := by decide +kernel
theorem dX0_becomeLike_55 : decode cX0_becomeLike 55 = .ok (.getfield 31, 3) := by decide +kernel
theorem dX0_becomeLike_58 : decode cX0_becomeLike 58 = .ok (.iconst 0, 1) := by decide +kernel
theorem dX0_becomeLike_59 : decode cX0_becomeLike 59 = .ok (.aload_n 0, 1) := by decide +kernel
theorem dX0_becomeLike_60 : decode cX0_becomeLike 60 = .ok (.getfield 31, 3) := by decide +kernel
theorem dX0_becomeLike_63 : decode cX0_becomeLike 63 = .ok (.iconst 0, 1) := by decide +kernel
theorem dX0_becomeLike_64 : decode cX0_becomeLike 64 = .ok (.bipush 7, 2) := by decide +kernel
theorem dX0_becomeLike_66 : decode cX0_becomeLike 66 = .ok (.invokestatic 71, 3) := by decide +kernel
theorem dX0_becomeLike_69 : decode cX0_becomeLike 69 = .ok (.aload_n 0, 1) := by decide +kernel
theorem dX0_becomeLike_70 : decode cX0_becomeLike 70 = .ok (.getfield 37, 3) := by decide +kernel
theorem dX0_becomeLike_73 : decode cX0_becomeLike 73 = .ok (.aload_n 1, 1) := by decide +kernel
theorem dX0_becomeLike_74 : decode cX0_becomeLike 74 = .ok (.getfield 37, 3) := by decide +kernel
theorem dX0_becomeLike_77 : decode cX0_becomeLike 77 = .ok (.invokevirtual 77, 3) := by decide +kernel
theorem dX0_becomeLike_80 : decode cX0_becomeLike 80 = .ok (.aload_n 0, 1) := by decide +kernel
theorem dX0_becomeLike_81 : decode cX0_becomeLike 81 = .ok (.getfield 44, 3) := by decide +kernel
theorem dX0_becomeLike_84 : decode cX0_becomeLike 84 = .ok (.aload_n 1, 1) := by decide +kernel
theorem dX0_becomeLike_85 : decode cX0_becomeLike 85 = .ok (.getfield 44, 3) := by decide +kernel
theorem dX0_becomeLike_88 : decode cX0_becomeLike 88 = .ok (.invokevirtual 81, 3) := by decide +kernel
theorem dX0_becomeLike_91 : decode cX0_becomeLike 91 = .ok (.aload_n 0, 1) := by decide +kernel
theorem dX0_becomeLike_92 : decode cX0_becomeLike 92 = .ok (.getfield 51, 3) := by decide +kernel
theorem dX0_becomeLike_95 : decode cX0_becomeLike 95 = .ok (.aload_n 1, 1) := by decide +kernel
theorem dX0_becomeLike_96 : decode cX0_becomeLike 96 = .ok (.getfield 51, 3) := by decide +kernel
theorem dX0_becomeLike_99 : decode cX0_becomeLike 99 = .ok (.invokevirtual 84, 3) := by decide +kernel
theorem dX0_becomeLike_102 : decode cX0_becomeLike 102 = .ok (.aload_n 0, 1) := by decide +kernel
theorem dX0_becomeLike_103 : decode cX0_becomeLike 103 = .ok (.getfield 58, 3) := by decide +kernel
theorem dX0_becomeLike_106 : decode cX0_becomeLike 106 = .ok (.aload_n 1, 1) := by decide +kernel
theorem dX0_becomeLike_107 : decode cX0_becomeLike 107 = .ok (.getfield 58, 3) := by decide +kernel
theorem dX0_becomeLike_110 : decode cX0_becomeLike 110 = .ok (.invokevirtual 87, 3) := by decide +kernel
theorem dX0_becomeLike_113 : decode cX0_becomeLike 113 = .ok (.aload_n 1, 1) := by decide +kernel
theorem dX0_becomeLike_114 : decode cX0_becomeLike 114 = .ok (.getfield 62, 3) := by decide +kernel
theorem dX0_becomeLike_117 : decode cX0_becomeLike 117 = .ok (.iconst 0, 1) := by decide +kernel
theorem dX0_becomeLike_118 : decode cX0_becomeLike 118 = .ok (.aload_n 0, 1) := by decide +kernel
theorem dX0_becomeLike_119 : decode cX0_becomeLike 119 = .ok (.getfield 62, 3) := by decide +kernel
theorem dX0_becomeLike_122 : decode cX0_becomeLike 122 = .ok (.iconst 0, 1) := by decide +kernel
theorem dX0_becomeLike_123 : decode cX0_becomeLike 123 = .ok (.bipush 30, 2) := by decide +kernel
theorem dX0_becomeLike_125 : decode cX0_becomeLike 125 = .ok (.invokestatic 71, 3) := by decide +kernel
theorem dX0_becomeLike_128 : decode cX0_becomeLike 128 = .ok (.return_, 1) := by decide +kernel
set_option maxRecDepth 20000 in
theorem ggX0_takeIn_X5_isBelow : GoodIn wsX0_takeIn wsX5_isBelow := goodIn_r _ [5] (by decide +kernel) (by decide +kernel)
set_option maxRecDepth 20000 in
theorem gX0_takeIn_X5_isBelow_n90 : GoodIn wsX0_takeIn (wsX5_isBelow) := ggX0_takeIn_X5_isBelow
theorem dX0_takeIn_0 : decode cX0_takeIn 0 = .ok (.iload_n 1, 1) := by decide +kernel
theorem dX0_takeIn_1 : decode cX0_takeIn 1 = .ok (.iconst 3, 1) := by decide +kernel
theorem dX0_takeIn_2 : decode cX0_takeIn 2 = .ok (.invokestatic 90, 3) := by decide +kernel
theorem dX0_takeIn_5 : decode cX0_takeIn 5 = .ok (.ifCond .ne 18, 3) := by decide +kernel
theorem dX0_takeIn_8 : decode cX0_takeIn 8 = .ok (.aload_n 0, 1) := by decide +kernel
theorem dX0_takeIn_9 : decode cX0_takeIn 9 = .ok (.dup, 1) := by decide +kernel
theorem dX0_takeIn_10 : decode cX0_takeIn 10 = .ok (.getfield 18, 3) := by decide +kernel
theorem dX0_takeIn_13 : decode cX0_takeIn 13 = .ok (.iload_n 2, 1) := by decide +kernel
theorem dX0_takeIn_14 : decode cX0_takeIn 14 = .ok (.iadd, 1) := by decide +kernel
theorem dX0_takeIn_15 : decode cX0_takeIn 15 = .ok (.putfield 18, 3) := by decide +kernel
theorem dX0_takeIn_18 : decode cX0_takeIn 18 = .ok (.aload_n 0, 1) := by decide +kernel
theorem dX0_takeIn_19 : decode cX0_takeIn 19 = .ok (.getfield 18, 3) := by decide +kernel
theorem dX0_takeIn_22 : decode cX0_takeIn 22 = .ok (.ireturn, 1) := by decide +kernel
theorem dX0_takeIn_23 : decode cX0_takeIn 23 = .ok (.aload_n 0, 1) := by decide +kernel
theorem dX0_takeIn_24 : decode cX0_takeIn 24 = .ok (.getfield 27, 3) := by decide +kernel
theorem dX0_takeIn_27 : decode cX0_takeIn 27 = .ok (.iload_n 1, 1) := by decide +kernel
theorem dX0_takeIn_28 : decode cX0_takeIn 28 = .ok (.dup2, 1) := by decide +kernel
theorem dX0_takeIn_29 : decode cX0_takeIn 29 = .ok (.iaload, 1) := by decide +kernel
theorem dX0_takeIn_30 : decode cX0_takeIn 30 = .ok (.iload_n 2, 1) := by decide +kernel
theorem dX0_takeIn_31 : decode cX0_takeIn 31 = .ok (.iadd, 1) := by decide +kernel
theorem dX0_takeIn_32 : decode cX0_takeIn 32 = .ok (.iastore, 1) := by decide +kernel
theorem dX0_takeIn_33 : decode cX0_takeIn 33 = .ok (.aload_n 0, 1) := by decide +kernel
theorem dX0_takeIn_34 : decode cX0_takeIn 34 = .ok (.getfield 27, 3) := by decide +kernel
theorem dX0_takeIn_37 : decode cX0_takeIn 37 = .ok (.iload_n 1, 1) := by decide +kernel
theorem dX0_takeIn_38 : decode cX0_takeIn 38 = .ok (.iaload, 1) := by decide +kernel
theorem dX0_takeIn_39 : decode cX0_takeIn 39 = .ok (.ireturn, 1) := by decide +kernel
theorem dX0_freeFelts_0 : decode cX0_freeFelts 0 = .ok (.aload_n 0, 1) := by decide +kernel
theorem dX0_freeFelts_1 : decode cX0_freeFelts 1 = .ok (.getfield 18, 3) := by decide +kernel
theorem dX0_freeFelts_4 : decode cX0_freeFelts 4 = .ok (.aload_n 0, 1) := by decide +kernel
theorem dX0_freeFelts_5 : decode cX0_freeFelts 5 = .ok (.getfield 58, 3) := by decide +kernel
theorem dX0_freeFelts_8 : decode cX0_freeFelts 8 = .ok (.getfield 94, 3) := by decide +kernel
theorem dX0_freeFelts_11 : decode cX0_freeFelts 11 = .ok (.isub, 1) := by decide +kernel
theorem dX0_freeFelts_12 : decode cX0_freeFelts 12 = .ok (.ireturn, 1) := by decide +kernel
set_option maxRecDepth 20000 in
theorem ggX0_hanging_X5_isBelow : GoodIn wsX0_hanging wsX5_isBelow := goodIn_r _ [4] (by decide +kernel) (by decide +kernel)
set_option maxRecDepth 20000 in
theorem gX0_hanging_X5_isBelow_n90 : GoodIn wsX0_hanging (wsX5_isBelow) := ggX0_hanging_X5_isBelow
theorem dX0_hanging_0 : decode cX0_hanging 0 = .ok (.iload_n 1, 1) := by decide +kernel
theorem dX0_hanging_1 : decode cX0_hanging 1 = .ok (.bipush 10, 2) := by decide +kernel
theorem dX0_hanging_3 : decode cX0_hanging 3 = .ok (.invokestatic 90, 3) := by decide +kernel
theorem dX0_hanging_6 : decode cX0_hanging 6 = .ok (.ifCond .eq 24, 3) := by decide +kernel
theorem dX0_hanging_9 : decode cX0_hanging 9 = .ok (.iload_n 2, 1) := by decide +kernel
theorem dX0_hanging_10 : decode cX0_hanging 10 = .ok (.iconst 3, 1) := by decide +kernel
theorem dX0_hanging_11 : decode cX0_hanging 11 = .ok (.invokestatic 90, 3) := by decide +kernel
theorem dX0_hanging_14 : decode cX0_hanging 14 = .ok (.ifCond .eq 16, 3) := by decide +kernel
theorem dX0_hanging_17 : decode cX0_hanging 17 = .ok (.aload_n 0, 1) := by decide +kernel
theorem dX0_hanging_18 : decode cX0_hanging 18 = .ok (.getfield 62, 3) := by decide +kernel
theorem dX0_hanging_21 : decode cX0_hanging 21 = .ok (.iload_n 1, 1) := by decide +kernel
theorem dX0_hanging_22 : decode cX0_hanging 22 = .ok (.iconst 3, 1) := by decide +kernel
theorem dX0_hanging_23 : decode cX0_hanging 23 = .ok (.imul, 1) := by decide +kernel
theorem dX0_hanging_24 : decode cX0_hanging 24 = .ok (.iload_n 2, 1) := by decide +kernel
theorem dX0_hanging_25 : decode cX0_hanging 25 = .ok (.iadd, 1) := by decide +kernel
theorem dX0_hanging_26 : decode cX0_hanging 26 = .ok (.iaload, 1) := by decide +kernel
theorem dX0_hanging_27 : decode cX0_hanging 27 = .ok (.goto 4, 3) := by decide +kernel
theorem dX0_hanging_30 : decode cX0_hanging 30 = .ok (.iconst 0, 1) := by decide +kernel
theorem dX0_hanging_31 : decode cX0_hanging 31 = .ok (.ireturn, 1) := by decide +kernel
set_option maxRecDepth 20000 in
theorem ggX0_hang_X5_isBelow : GoodIn wsX0_hang wsX5_isBelow := goodIn_r _ [4] (by decide +kernel) (by decide +kernel)
set_option maxRecDepth 20000 in
theorem gX0_hang_X5_isBelow_n90 : GoodIn wsX0_hang (wsX5_isBelow) := ggX0_hang_X5_isBelow
theorem dX0_hang_0 : decode cX0_hang 0 = .ok (.iload_n 1, 1) := by decide +kernel
theorem dX0_hang_1 : decode cX0_hang 1 = .ok (.bipush 10, 2) := by decide +kernel
theorem dX0_hang_3 : decode cX0_hang 3 = .ok (.invokestatic 90, 3) := by decide +kernel
theorem dX0_hang_6 : decode cX0_hang 6 = .ok (.ifCond .eq 25, 3) := by decide +kernel
theorem dX0_hang_9 : decode cX0_hang 9 = .ok (.iload_n 2, 1) := by decide +kernel
theorem dX0_hang_10 : decode cX0_hang 10 = .ok (.iconst 3, 1) := by decide +kernel
theorem dX0_hang_11 : decode cX0_hang 11 = .ok (.invokestatic 90, 3) := by decide +kernel
theorem dX0_hang_14 : decode cX0_hang 14 = .ok (.ifCond .eq 17, 3) := by decide +kernel
theorem dX0_hang_17 : decode cX0_hang 17 = .ok (.aload_n 0, 1) := by decide +kernel
theorem dX0_hang_18 : decode cX0_hang 18 = .ok (.getfield 62, 3) := by decide +kernel
theorem dX0_hang_21 : decode cX0_hang 21 = .ok (.iload_n 1, 1) := by decide +kernel
theorem dX0_hang_22 : decode cX0_hang 22 = .ok (.iconst 3, 1) := by decide +kernel
theorem dX0_hang_23 : decode cX0_hang 23 = .ok (.imul, 1) := by decide +kernel
theorem dX0_hang_24 : decode cX0_hang 24 = .ok (.iload_n 2, 1) := by decide +kernel
theorem dX0_hang_25 : decode cX0_hang 25 = .ok (.iadd, 1) := by decide +kernel
theorem dX0_hang_26 : decode cX0_hang 26 = .ok (.dup2, 1) := by decide +kernel
theorem dX0_hang_27 : decode cX0_hang 27 = .ok (.iaload, 1) := by decide +kernel
theorem dX0_hang_28 : decode cX0_hang 28 = .ok (.iload_n 3, 1) := by decide +kernel
theorem dX0_hang_29 : decode cX0_hang 29 = .ok (.iadd, 1) := by decide +kernel
theorem dX0_hang_30 : decode cX0_hang 30 = .ok (.iastore, 1) := by decide +kernel
theorem dX0_hang_31 : decode cX0_hang 31 = .ok (.return_, 1) := by decide +kernel
set_option maxRecDepth 20000 in
theorem ggX0_tell_X0_freeFelts : GoodIn wsX0_tell wsX0_freeFelts := goodIn_r _ [12, 3, 6, 32, 33, 34, 35, 36, 37, 38, 39, 40, 41, 42, 43, 44, 45, 46, 47, 48] (by decide +kernel) (by decide +kernel)
set_option maxRecDepth 20000 in
theorem gX0_tell_X0_freeFelts : GoodIn wsX0_tell (wsV RX0 97 RX0 yX0_freeFelts wsX0_freeFelts) := goodIn_app (goodIn_of _ (by decide +kernel)) ggX0_tell_X0_freeFelts
set_option maxRecDepth 20000 in
theorem ggX0_tell_X0_allHanging : GoodIn wsX0_tell wsX0_allHanging := goodIn_r _ [16, 17, 32, 33, 34, 35, 36, 37, 38, 39, 40, 41, 42, 43] (by decide +kernel) (by decide +kernel)
set_option maxRecDepth 20000 in
theorem gX0_tell_X0_allHanging : GoodIn wsX0_tell (wsV RX0 104 RX0 yX0_allHanging wsX0_allHanging) := goodIn_app (goodIn_of _ (by decide +kernel)) ggX0_tell_X0_allHanging
set_option maxRecDepth 20000 in
theorem ggX0_tell_X4_allPulp : GoodIn wsX0_tell wsX4_allPulp := goodIn_r _ [22, 23, 49, 50, 51] (by decide +kernel) (by decide +kernel)
set_option maxRecDepth 20000 in
theorem gX0_tell_X4_allPulp : GoodIn wsX0_tell (wsV RX0 107 RX4 yX4_allPulp wsX4_allPulp) := goodIn_app (goodIn_of _ (by decide +kernel)) ggX0_tell_X4_allPulp
set_option maxRecDepth 20000 in
theorem ggX0_tell_X0_poundsOf : GoodIn wsX0_tell wsX0_poundsOf := goodIn_r _ [27, 28, 29, 30, 31, 32, 33, 34, 35, 36, 37, 38, 39, 40, 41, 42, 43] (by decide +kernel) (by decide +kernel)
set_option maxRecDepth 20000 in
theorem gX0_tell_X0_poundsOf : GoodIn wsX0_tell (wsV RX0 110 RX0 yX0_poundsOf wsX0_poundsOf) := goodIn_app (goodIn_of _ (by decide +kernel)) ggX0_tell_X0_poundsOf
theorem dX0_tell_0 : decode cX0_tell 0 = .ok (.iload_n 1, 1) := by decide +kernel
theorem dX0_tell_1 : decode cX0_tell 1 = .ok (.tableswitch 102 0 8 #[51, 56, 61, 66, 71, 76, 81, 89, 94], 51) := by decide +kernel
theorem dX0_tell_52 : decode cX0_tell 52 = .ok (.aload_n 0, 1) := by decide +kernel
theorem dX0_tell_53 : decode cX0_tell 53 = .ok (.getfield 9, 3) := by decide +kernel
theorem dX0_tell_56 : decode cX0_tell 56 = .ok (.ireturn, 1) := by decide +kernel
theorem dX0_tell_57 : decode cX0_tell 57 = .ok (.aload_n 0, 1) := by decide +kernel
theorem dX0_tell_58 : decode cX0_tell 58 = .ok (.getfield 15, 3) := by decide +kernel
theorem dX0_tell_61 : decode cX0_tell 61 = .ok (.ireturn, 1) := by decide +kernel
theorem dX0_tell_62 : decode cX0_tell 62 = .ok (.aload_n 0, 1) := by decide +kernel
theorem dX0_tell_63 : decode cX0_tell 63 = .ok (.getfield 18, 3) := by decide +kernel
theorem dX0_tell_66 : decode cX0_tell 66 = .ok (.ireturn, 1) := by decide +kernel
theorem dX0_tell_67 : decode cX0_tell 67 = .ok (.aload_n 0, 1) := by decide +kernel
theorem dX0_tell_68 : decode cX0_tell 68 = .ok (.invokevirtual 97, 3) := by decide +kernel
theorem dX0_tell_71 : decode cX0_tell 71 = .ok (.ireturn, 1) := by decide +kernel
theorem dX0_tell_72 : decode cX0_tell 72 = .ok (.aload_n 0, 1) := by decide +kernel
theorem dX0_tell_73 : decode cX0_tell 73 = .ok (.getfield 21, 3) := by decide +kernel
theorem dX0_tell_76 : decode cX0_tell 76 = .ok (.ireturn, 1) := by decide +kernel
theorem dX0_tell_77 : decode cX0_tell 77 = .ok (.aload_n 0, 1) := by decide +kernel
theorem dX0_tell_78 : decode cX0_tell 78 = .ok (.getfield 24, 3) := by decide +kernel
theorem dX0_tell_81 : decode cX0_tell 81 = .ok (.ireturn, 1) := by decide +kernel
theorem dX0_tell_82 : decode cX0_tell 82 = .ok (.aload_n 0, 1) := by decide +kernel
theorem dX0_tell_83 : decode cX0_tell 83 = .ok (.getfield 58, 3) := by decide +kernel
theorem dX0_tell_86 : decode cX0_tell 86 = .ok (.getfield 101, 3) := by decide +kernel
theorem dX0_tell_89 : decode cX0_tell 89 = .ok (.ireturn, 1) := by decide +kernel
theorem dX0_tell_90 : decode cX0_tell 90 = .ok (.aload_n 0, 1) := by decide +kernel
theorem dX0_tell_91 : decode cX0_tell 91 = .ok (.invokevirtual 104, 3) := by decide +kernel
theorem dX0_tell_94 : decode cX0_tell 94 = .ok (.ireturn, 1) := by decide +kernel
theorem dX0_tell_95 : decode cX0_tell 95 = .ok (.aload_n 0, 1) := by decide +kernel
theorem dX0_tell_96 : decode cX0_tell 96 = .ok (.getfield 37, 3) := by decide +kernel
theorem dX0_tell_99 : decode cX0_tell 99 = .ok (.invokevirtual 107, 3) := by decide +kernel
theorem dX0_tell_102 : decode cX0_tell 102 = .ok (.ireturn, 1) := by decide +kernel
theorem dX0_tell_103 : decode cX0_tell 103 = .ok (.aload_n 0, 1) := by decide +kernel
theorem dX0_tell_104 : decode cX0_tell 104 = .ok (.iload_n 1, 1) := by decide +kernel
theorem dX0_tell_105 : decode cX0_tell 105 = .ok (.bipush 9, 2) := by decide +kernel
theorem dX0_tell_107 : decode cX0_tell 107 = .ok (.isub, 1) := by decide +kernel
theorem dX0_tell_108 : decode cX0_tell 108 = .ok (.invokevirtual 110, 3) := by decide +kernel
theorem dX0_tell_111 : decode cX0_tell 111 = .ok (.ireturn, 1) := by decide +kernel
set_option maxRecDepth 20000 in
theorem ggX0_tellPair_X1_markOf : GoodIn wsX0_tellPair wsX1_markOf := goodIn_r _ [7, 8, 9, 10, 11, 6, 12, 13, 51, 52, 53, 54] (by decide +kernel) (by decide +kernel)
set_option maxRecDepth 20000 in
theorem gX0_tellPair_X1_markOf : GoodIn wsX0_tellPair (wsV RX0 114 RX1 yX1_markOf wsX1_markOf) := goodIn_app (goodIn_of _ (by decide +kernel)) ggX0_tellPair_X1_markOf
set_option maxRecDepth 20000 in
theorem ggX0_tellPair_X1_sizeOf : GoodIn wsX0_tellPair wsX1_sizeOf := goodIn_r _ [17, 18, 9, 10, 11, 6, 12, 13, 51, 52, 53, 54] (by decide +kernel) (by decide +kernel)
set_option maxRecDepth 20000 in
theorem gX0_tellPair_X1_sizeOf : GoodIn wsX0_tellPair (wsV RX0 117 RX1 yX1_sizeOf wsX1_sizeOf) := goodIn_app (goodIn_of _ (by decide +kernel)) ggX0_tellPair_X1_sizeOf
set_option maxRecDepth 20000 in
theorem ggX0_tellPair_X1_wornOf : GoodIn wsX0_tellPair wsX1_wornOf := goodIn_r _ [22, 23, 9, 10, 11, 6, 12, 13, 51, 52, 53, 54] (by decide +kernel) (by decide +kernel)
set_option maxRecDepth 20000 in
theorem gX0_tellPair_X1_wornOf : GoodIn wsX0_tellPair (wsV RX0 120 RX1 yX1_wornOf wsX1_wornOf) := goodIn_app (goodIn_of _ (by decide +kernel)) ggX0_tellPair_X1_wornOf
set_option maxRecDepth 20000 in
theorem ggX0_tellPair_X3_holderOf : GoodIn wsX0_tellPair wsX3_holderOf := goodIn_r _ [28, 29, 30, 31, 32, 27, 33, 34, 35, 36, 37, 38, 55, 56, 57, 58] (by decide +kernel) (by decide +kernel)
set_option maxRecDepth 20000 in
theorem gX0_tellPair_X3_holderOf : GoodIn wsX0_tellPair (wsV RX0 123 RX3 yX3_holderOf wsX3_holderOf) := goodIn_app (goodIn_of _ (by decide +kernel)) ggX0_tellPair_X3_holderOf
theorem dX0_tellPair_0 : decode cX0_tellPair 0 = .ok (.iload_n 2, 1) := by decide +kernel
theorem dX0_tellPair_1 : decode cX0_tellPair 1 = .ok (.tableswitch 54 0 2 #[27, 36, 45], 27) := by decide +kernel
theorem dX0_tellPair_28 : decode cX0_tellPair 28 = .ok (.aload_n 0, 1) := by decide +kernel
theorem dX0_tellPair_29 : decode cX0_tellPair 29 = .ok (.getfield 44, 3) := by decide +kernel
theorem dX0_tellPair_32 : decode cX0_tellPair 32 = .ok (.iload_n 1, 1) := by decide +kernel
theorem dX0_tellPair_33 : decode cX0_tellPair 33 = .ok (.invokevirtual 114, 3) := by decide +kernel
theorem dX0_tellPair_36 : decode cX0_tellPair 36 = .ok (.ireturn, 1) := by decide +kernel
theorem dX0_tellPair_37 : decode cX0_tellPair 37 = .ok (.aload_n 0, 1) := by decide +kernel
theorem dX0_tellPair_38 : decode cX0_tellPair 38 = .ok (.getfield 44, 3) := by decide +kernel
theorem dX0_tellPair_41 : decode cX0_tellPair 41 = .ok (.iload_n 1, 1) := by decide +kernel
theorem dX0_tellPair_42 : decode cX0_tellPair 42 = .ok (.invokevirtual 117, 3) := by decide +kernel
theorem dX0_tellPair_45 : decode cX0_tellPair 45 = .ok (.ireturn, 1) := by decide +kernel
theorem dX0_tellPair_46 : decode cX0_tellPair 46 = .ok (.aload_n 0, 1) := by decide +kernel
theorem dX0_tellPair_47 : decode cX0_tellPair 47 = .ok (.getfield 44, 3) := by decide +kernel
theorem dX0_tellPair_50 : decode cX0_tellPair 50 = .ok (.iload_n 1, 1) := by decide +kernel
theorem dX0_tellPair_51 : decode cX0_tellPair 51 = .ok (.invokevirtual 120, 3) := by decide +kernel
theorem dX0_tellPair_54 : decode cX0_tellPair 54 = .ok (.ireturn, 1) := by decide +kernel
theorem dX0_tellPair_55 : decode cX0_tellPair 55 = .ok (.aload_n 0, 1) := by decide +kernel
theorem dX0_tellPair_56 : decode cX0_tellPair 56 = .ok (.getfield 51, 3) := by decide +kernel
theorem dX0_tellPair_59 : decode cX0_tellPair 59 = .ok (.iload_n 1, 1) := by decide +kernel
theorem dX0_tellPair_60 : decode cX0_tellPair 60 = .ok (.invokevirtual 123, 3) := by decide +kernel
theorem dX0_tellPair_63 : decode cX0_tellPair 63 = .ok (.ireturn, 1) := by decide +kernel
set_option maxRecDepth 20000 in
theorem ggX0_tellTeam_X3_skillOf : GoodIn wsX0_tellTeam wsX3_skillOf := goodIn_r _ [6, 7, 8, 9, 10, 5, 11, 12, 77, 78, 79, 80] (by decide +kernel) (by decide +kernel)
set_option maxRecDepth 20000 in
theorem gX0_tellTeam_X3_skillOf : GoodIn wsX0_tellTeam (wsV RX0 126 RX3 yX3_skillOf wsX3_skillOf) := goodIn_app (goodIn_of _ (by decide +kernel)) ggX0_tellTeam_X3_skillOf
set_option maxRecDepth 20000 in
theorem ggX0_tellTeam_X3_vatOf : GoodIn wsX0_tellTeam wsX3_vatOf := goodIn_r _ [16, 17, 8, 9, 10, 5, 11, 12, 77, 78, 79, 80] (by decide +kernel) (by decide +kernel)
set_option maxRecDepth 20000 in
theorem gX0_tellTeam_X3_vatOf : GoodIn wsX0_tellTeam (wsV RX0 129 RX3 yX3_vatOf wsX3_vatOf) := goodIn_app (goodIn_of _ (by decide +kernel)) ggX0_tellTeam_X3_vatOf
set_option maxRecDepth 20000 in
theorem ggX0_tellTeam_X3_pairOf : GoodIn wsX0_tellTeam wsX3_pairOf := goodIn_r _ [21, 22, 8, 9, 10, 5, 11, 12, 77, 78, 79, 80] (by decide +kernel) (by decide +kernel)
set_option maxRecDepth 20000 in
theorem gX0_tellTeam_X3_pairOf : GoodIn wsX0_tellTeam (wsV RX0 132 RX3 yX3_pairOf wsX3_pairOf) := goodIn_app (goodIn_of _ (by decide +kernel)) ggX0_tellTeam_X3_pairOf
set_option maxRecDepth 20000 in
theorem ggX0_tellTeam_X0_sheetsOf : GoodIn wsX0_tellTeam wsX0_sheetsOf := goodIn_r _ [27, 1, 28, 29, 30, 31, 32, 33, 13, 14, 15, 5, 16, 17, 8, 9, 10, 11, 12, 18, 19, 20, 21, 22, 34, 35, 36, 37, 38, 39, 40, 41, 42, 43, 44, 45, 46, 47, 48, 49, 50, 51, 52, 53, 2, 3, 4, 6, 7, 54, 55, 56, 26, 57, 58, 59, 60, 61, 62, 63, 64, 65, 66, 67, 68, 69, 70, 71, 72, 73, 74, 75, 76, 77, 78, 79, 80, 81, 82, 83, 84, 85, 86, 87, 88, 89, 90, 91, 92] (by decide +kernel) (by decide +kernel)
set_option maxRecDepth 20000 in
theorem gX0_tellTeam_X0_sheetsOf : GoodIn wsX0_tellTeam (wsV RX0 135 RX0 yX0_sheetsOf wsX0_sheetsOf) := goodIn_app (goodIn_of _ (by decide +kernel)) ggX0_tellTeam_X0_sheetsOf
theorem dX0_tellTeam_0 : decode cX0_tellTeam 0 = .ok (.iload_n 2, 1) := by decide +kernel
theorem dX0_tellTeam_1 : decode cX0_tellTeam 1 = .ok (.tableswitch 54 0 2 #[27, 36, 45], 27) := by decide +kernel
theorem dX0_tellTeam_28 : decode cX0_tellTeam 28 = .ok (.aload_n 0, 1) := by decide +kernel
theorem dX0_tellTeam_29 : decode cX0_tellTeam 29 = .ok (.getfield 51, 3) := by decide +kernel
theorem dX0_tellTeam_32 : decode cX0_tellTeam 32 = .ok (.iload_n 1, 1) := by decide +kernel
theorem dX0_tellTeam_33 : decode cX0_tellTeam 33 = .ok (.invokevirtual 126, 3) := by decide +kernel
theorem dX0_tellTeam_36 : decode cX0_tellTeam 36 = .ok (.ireturn, 1) := by decide +kernel
theorem dX0_tellTeam_37 : decode cX0_tellTeam 37 = .ok (.aload_n 0, 1) := by decide +kernel
theorem dX0_tellTeam_38 : decode cX0_tellTeam 38 = .ok (.getfield 51, 3) := by decide +kernel
theorem dX0_tellTeam_41 : decode cX0_tellTeam 41 = .ok (.iload_n 1, 1) := by decide +kernel
theorem dX0_tellTeam_42 : decode cX0_tellTeam 42 = .ok (.invokevirtual 129, 3) := by decide +kernel
theorem dX0_tellTeam_45 : decode cX0_tellTeam 45 = .ok (.ireturn, 1) := by decide +kernel
theorem dX0_tellTeam_46 : decode cX0_tellTeam 46 = .ok (.aload_n 0, 1) := by decide +kernel
theorem dX0_tellTeam_47 : decode cX0_tellTeam 47 = .ok (.getfield 51, 3) := by decide +kernel
theorem dX0_tellTeam_50 : decode cX0_tellTeam 50 = .ok (.iload_n 1, 1) := by decide +kernel
theorem dX0_tellTeam_51 : decode cX0_tellTeam 51 = .ok (.invokevirtual 132, 3) := by decide +kernel
theorem dX0_tellTeam_54 : decode cX0_tellTeam 54 = .ok (.ireturn, 1) := by decide +kernel
theorem dX0_tellTeam_55 : decode cX0_tellTeam 55 = .ok (.aload_n 0, 1) := by decide +kernel
theorem dX0_tellTeam_56 : decode cX0_tellTeam 56 = .ok (.iload_n 1, 1) := by decide +kernel
theorem dX0_tellTeam_57 : decode cX0_tellTeam 57 = .ok (.invokevirtual 135, 3) := by decide +kernel
theorem dX0_tellTeam_60 : decode cX0_tellTeam 60 = .ok (.ireturn, 1) := by decide +kernel
set_option maxRecDepth 20000 in
theorem ggX0_sheetsOf_X3_vatOf : GoodIn wsX0_sheetsOf wsX3_vatOf := goodIn_r _ [12, 13, 14, 15, 16, 11, 17, 18, 73, 74, 75, 76] (by decide +kernel) (by decide +kernel)
set_option maxRecDepth 20000 in
theorem gX0_sheetsOf_X3_vatOf : GoodIn wsX0_sheetsOf (wsV RX0 129 RX3 yX3_vatOf wsX3_vatOf) := goodIn_app (goodIn_of _ (by decide +kernel)) ggX0_sheetsOf_X3_vatOf
set_option maxRecDepth 20000 in
theorem ggX0_sheetsOf_X3_pairOf : GoodIn wsX0_sheetsOf wsX3_pairOf := goodIn_r _ [22, 23, 14, 15, 16, 11, 17, 18, 73, 74, 75, 76] (by decide +kernel) (by decide +kernel)
set_option maxRecDepth 20000 in
theorem gX0_sheetsOf_X3_pairOf : GoodIn wsX0_sheetsOf (wsV RX0 132 RX3 yX3_pairOf wsX3_pairOf) := goodIn_app (goodIn_of _ (by decide +kernel)) ggX0_sheetsOf_X3_pairOf
set_option maxRecDepth 20000 in
theorem ggX0_sheetsOf_X4_beatOf : GoodIn wsX0_sheetsOf wsX4_beatOf := goodIn_r _ [28, 29, 30, 31, 32, 77, 78, 79] (by decide +kernel) (by decide +kernel)
set_option maxRecDepth 20000 in
theorem gX0_sheetsOf_X4_beatOf : GoodIn wsX0_sheetsOf (wsV RX0 138 RX4 yX4_beatOf wsX4_beatOf) := goodIn_app (goodIn_of _ (by decide +kernel)) ggX0_sheetsOf_X4_beatOf
set_option maxRecDepth 20000 in
theorem ggX0_sheetsOf_X1_sizeOf : GoodIn wsX0_sheetsOf wsX1_sizeOf := goodIn_r _ [37, 38, 39, 40, 41, 36, 42, 43, 80, 81, 82, 83] (by decide +kernel) (by decide +kernel)
set_option maxRecDepth 20000 in
theorem gX0_sheetsOf_X1_sizeOf : GoodIn wsX0_sheetsOf (wsV RX0 117 RX1 yX1_sizeOf wsX1_sizeOf) := goodIn_app (goodIn_of _ (by decide +kernel)) ggX0_sheetsOf_X1_sizeOf
set_option maxRecDepth 20000 in
theorem ggX0_sheetsOf_X3_skillOf : GoodIn wsX0_sheetsOf wsX3_skillOf := goodIn_r _ [47, 48, 14, 15, 16, 11, 17, 18, 73, 74, 75, 76] (by decide +kernel) (by decide +kernel)
set_option maxRecDepth 20000 in
theorem gX0_sheetsOf_X3_skillOf : GoodIn wsX0_sheetsOf (wsV RX0 126 RX3 yX3_skillOf wsX3_skillOf) := goodIn_app (goodIn_of _ (by decide +kernel)) ggX0_sheetsOf_X3_skillOf
set_option maxRecDepth 20000 in
theorem ggX0_sheetsOf_X0_freeFelts : GoodIn wsX0_sheetsOf wsX0_freeFelts := goodIn_r _ [53, 54, 55, 61, 62, 63, 64, 65, 66, 67, 68, 69, 70, 71, 72, 84, 85, 86, 87, 88] (by decide +kernel) (by decide +kernel)
set_option maxRecDepth 20000 in
theorem gX0_sheetsOf_X0_freeFelts : GoodIn wsX0_sheetsOf (wsV RX0 97 RX0 yX0_freeFelts wsX0_freeFelts) := goodIn_app (goodIn_of _ (by decide +kernel)) ggX0_sheetsOf_X0_freeFelts
set_option maxRecDepth 20000 in
theorem ggX0_sheetsOf_X4_pulpOf : GoodIn wsX0_sheetsOf wsX4_pulpOf := goodIn_r _ [59, 60, 30, 31, 32, 77, 78, 79] (by decide +kernel) (by decide +kernel)
set_option maxRecDepth 20000 in
theorem gX0_sheetsOf_X4_pulpOf : GoodIn wsX0_sheetsOf (wsV RX0 147 RX4 yX4_pulpOf wsX4_pulpOf) := goodIn_app (goodIn_of _ (by decide +kernel)) ggX0_sheetsOf_X4_pulpOf
theorem dX0_sheetsOf_0 : decode cX0_sheetsOf 0 = .ok (.aload_n 0, 1) := by decide +kernel
theorem dX0_sheetsOf_1 : decode cX0_sheetsOf 1 = .ok (.getfield 51, 3) := by decide +kernel
theorem dX0_sheetsOf_4 : decode cX0_sheetsOf 4 = .ok (.iload_n 1, 1) := by decide +kernel
theorem dX0_sheetsOf_5 : decode cX0_sheetsOf 5 = .ok (.invokevirtual 129, 3) := by decide +kernel
theorem dX0_sheetsOf_8 : decode cX0_sheetsOf 8 = .ok (.istore_n 2, 1) := by decide +kernel
theorem dX0_sheetsOf_9 : decode cX0_sheetsOf 9 = .ok (.aload_n 0, 1) := by decide +kernel
theorem dX0_sheetsOf_10 : decode cX0_sheetsOf 10 = .ok (.getfield 51, 3) := by decide +kernel
theorem dX0_sheetsOf_13 : decode cX0_sheetsOf 13 = .ok (.iload_n 1, 1) := by decide +kernel
theorem dX0_sheetsOf_14 : decode cX0_sheetsOf 14 = .ok (.invokevirtual 132, 3) := by decide +kernel
theorem dX0_sheetsOf_17 : decode cX0_sheetsOf 17 = .ok (.istore_n 3, 1) := by decide +kernel
theorem dX0_sheetsOf_18 : decode cX0_sheetsOf 18 = .ok (.iload_n 2, 1) := by decide +kernel
theorem dX0_sheetsOf_19 : decode cX0_sheetsOf 19 = .ok (.iconst (-1), 1) := by decide +kernel
theorem dX0_sheetsOf_20 : decode cX0_sheetsOf 20 = .ok (.if_icmp .eq 21, 3) := by decide +kernel
theorem dX0_sheetsOf_23 : decode cX0_sheetsOf 23 = .ok (.iload_n 3, 1) := by decide +kernel
theorem dX0_sheetsOf_24 : decode cX0_sheetsOf 24 = .ok (.iconst (-1), 1) := by decide +kernel
theorem dX0_sheetsOf_25 : decode cX0_sheetsOf 25 = .ok (.if_icmp .eq 16, 3) := by decide +kernel
theorem dX0_sheetsOf_28 : decode cX0_sheetsOf 28 = .ok (.aload_n 0, 1) := by decide +kernel
theorem dX0_sheetsOf_29 : decode cX0_sheetsOf 29 = .ok (.getfield 37, 3) := by decide +kernel
theorem dX0_sheetsOf_32 : decode cX0_sheetsOf 32 = .ok (.iload_n 2, 1) := by decide +kernel
theorem dX0_sheetsOf_33 : decode cX0_sheetsOf 33 = .ok (.invokevirtual 138, 3) := by decide +kernel
theorem dX0_sheetsOf_36 : decode cX0_sheetsOf 36 = .ok (.bipush 30, 2) := by decide +kernel
theorem dX0_sheetsOf_38 : decode cX0_sheetsOf 38 = .ok (.if_icmp .ge 5, 3) := by decide +kernel
theorem dX0_sheetsOf_41 : decode cX0_sheetsOf 41 = .ok (.iconst 0, 1) := by decide +kernel
theorem dX0_sheetsOf_42 : decode cX0_sheetsOf 42 = .ok (.ireturn, 1) := by decide +kernel
theorem dX0_sheetsOf_43 : decode cX0_sheetsOf 43 = .ok (.aload_n 0, 1) := by decide +kernel
theorem dX0_sheetsOf_44 : decode cX0_sheetsOf 44 = .ok (.getfield 44, 3) := by decide +kernel
theorem dX0_sheetsOf_47 : decode cX0_sheetsOf 47 = .ok (.iload_n 3, 1) := by decide +kernel
theorem dX0_sheetsOf_48 : decode cX0_sheetsOf 48 = .ok (.invokevirtual 117, 3) := by decide +kernel
theorem dX0_sheetsOf_51 : decode cX0_sheetsOf 51 = .ok (.istore 4, 2) := by decide +kernel
theorem dX0_sheetsOf_53 : decode cX0_sheetsOf 53 = .ok (.iload 4, 2) := by decide +kernel
theorem dX0_sheetsOf_55 : decode cX0_sheetsOf 55 = .ok (.iconst 1, 1) := by decide +kernel
theorem dX0_sheetsOf_56 : decode cX0_sheetsOf 56 = .ok (.if_icmp .ge 5, 3) := by decide +kernel
theorem dX0_sheetsOf_59 : decode cX0_sheetsOf 59 = .ok (.iconst 0, 1) := by decide +kernel
theorem dX0_sheetsOf_60 : decode cX0_sheetsOf 60 = .ok (.ireturn, 1) := by decide +kernel
theorem dX0_sheetsOf_61 : decode cX0_sheetsOf 61 = .ok (.aload_n 0, 1) := by decide +kernel
theorem dX0_sheetsOf_62 : decode cX0_sheetsOf 62 = .ok (.getfield 51, 3) := by decide +kernel
theorem dX0_sheetsOf_65 : decode cX0_sheetsOf 65 = .ok (.iload_n 1, 1) := by decide +kernel
theorem dX0_sheetsOf_66 : decode cX0_sheetsOf 66 = .ok (.invokevirtual 126, 3) := by decide +kernel
theorem dX0_sheetsOf_69 : decode cX0_sheetsOf 69 = .ok (.aload_n 0, 1) := by decide +kernel
theorem dX0_sheetsOf_70 : decode cX0_sheetsOf 70 = .ok (.invokevirtual 97, 3) := by decide +kernel
theorem dX0_sheetsOf_73 : decode cX0_sheetsOf 73 = .ok (.invokestatic 141, 3) := by decide +kernel
theorem dX0_sheetsOf_76 : decode cX0_sheetsOf 76 = .ok (.istore 5, 2) := by decide +kernel
theorem dX0_sheetsOf_78 : decode cX0_sheetsOf 78 = .ok (.iload 5, 2) := by decide +kernel
theorem dX0_sheetsOf_80 : decode cX0_sheetsOf 80 = .ok (.aload_n 0, 1) := by decide +kernel
theorem dX0_sheetsOf_81 : decode cX0_sheetsOf 81 = .ok (.getfield 37, 3) := by decide +kernel
theorem dX0_sheetsOf_84 : decode cX0_sheetsOf 84 = .ok (.iload_n 2, 1) := by decide +kernel
theorem dX0_sheetsOf_85 : decode cX0_sheetsOf 85 = .ok (.invokevirtual 147, 3) := by decide +kernel
theorem dX0_sheetsOf_88 : decode cX0_sheetsOf 88 = .ok (.iload 4, 2) := by decide +kernel
theorem dX0_sheetsOf_90 : decode cX0_sheetsOf 90 = .ok (.idiv, 1) := by decide +kernel
theorem dX0_sheetsOf_91 : decode cX0_sheetsOf 91 = .ok (.invokestatic 141, 3) := by decide +kernel
theorem dX0_sheetsOf_94 : decode cX0_sheetsOf 94 = .ok (.ireturn, 1) := by decide +kernel
set_option maxRecDepth 20000 in
theorem ggX0_liveDays_X0_liveDay : GoodIn wsX0_liveDays wsX0_liveDay := goodIn_r _ [5, 6, 7, 8, 9, 10, 11, 12, 13, 14, 15, 16, 17, 18, 19, 20, 21, 22, 23, 24, 25, 26, 27, 28, 29, 30, 31, 4, 32, 33, 34, 35, 36, 37, 38, 39, 40, 41, 42, 43, 44, 45, 46, 47, 48, 49, 50, 51, 52, 53, 54, 55, 56, 57, 58, 59, 60, 61, 62, 63, 64, 65, 66, 67, 68, 69, 70, 71, 72, 73, 74, 75, 76, 77, 78, 79, 80, 81, 82, 83, 84, 85, 86, 87, 88, 89, 90, 91, 92, 93, 94, 95, 96, 97, 98, 99, 100, 101, 102, 103, 104, 105, 106, 107, 108, 109, 110, 111, 112, 113, 114, 115, 116, 117, 118, 119, 120, 121, 122, 123, 124, 125, 126, 127, 128, 129, 130, 131, 132, 133, 134, 135, 136, 137, 138, 139, 140, 141, 142, 143, 144, 145, 146, 147, 148, 149, 150, 151, 152, 153, 154, 155, 156, 157, 158, 159, 160, 161, 162, 163, 164, 165, 166, 167, 168, 169, 170, 171, 172, 173, 174, 175, 176, 177, 178, 179, 180, 181, 182, 183, 184, 185, 186, 187, 188, 189, 190, 191, 192, 193, 194, 195, 196, 197, 198, 199] (by decide +kernel) (by decide +kernel)
set_option maxRecDepth 20000 in
theorem gX0_liveDays_X0_liveDay : GoodIn wsX0_liveDays (wsV RX0 150 RX0 yX0_liveDay wsX0_liveDay) := goodIn_app (goodIn_of _ (by decide +kernel)) ggX0_liveDays_X0_liveDay
theorem dX0_liveDays_0 : decode cX0_liveDays 0 = .ok (.iconst 0, 1) := by decide +kernel
theorem dX0_liveDays_1 : decode cX0_liveDays 1 = .ok (.istore_n 2, 1) := by decide +kernel
theorem dX0_liveDays_2 : decode cX0_liveDays 2 = .ok (.iload_n 2, 1) := by decide +kernel
theorem dX0_liveDays_3 : decode cX0_liveDays 3 = .ok (.iload_n 1, 1) := by decide +kernel
theorem dX0_liveDays_4 : decode cX0_liveDays 4 = .ok (.if_icmp .ge 13, 3) := by decide +kernel
theorem dX0_liveDays_7 : decode cX0_liveDays 7 = .ok (.aload_n 0, 1) := by decide +kernel
theorem dX0_liveDays_8 : decode cX0_liveDays 8 = .ok (.invokevirtual 150, 3) := by decide +kernel
theorem dX0_liveDays_11 : decode cX0_liveDays 11 = .ok (.iinc 2 1, 3) := by decide +kernel
theorem dX0_liveDays_14 : decode cX0_liveDays 14 = .ok (.goto (-12), 3) := by decide +kernel
theorem dX0_liveDays_17 : decode cX0_liveDays 17 = .ok (.return_, 1) := by decide +kernel
set_option maxRecDepth 20000 in
theorem ggX0_liveDay_J9_floorMod_7cf53 : GoodIn wsX0_liveDay wsJ9_floorMod_7cf53 := goodIn_r _ [8] (by decide +kernel) (by decide +kernel)
set_option maxRecDepth 20000 in
theorem gX0_liveDay_J9_floorMod_7cf53 : GoodIn wsX0_liveDay (va_wsS RX0 153 yJ9_floorMod_7cf53 wsJ9_floorMod_7cf53) := goodIn_app (goodIn_of _ (by decide +kernel)) ggX0_liveDay_J9_floorMod_7cf53
set_option maxRecDepth 20000 in
theorem ggX0_liveDay_X4_beatAll : GoodIn wsX0_liveDay wsX4_beatAll := goodIn_r _ [13, 14, 15, 16, 17, 18, 19, 20, 21, 22, 12, 23, 184, 185, 186] (by decide +kernel) (by decide +kernel)
set_option maxRecDepth 20000 in
theorem gX0_liveDay_X4_beatAll : GoodIn wsX0_liveDay (wsV RX0 156 RX4 yX4_beatAll wsX4_beatAll) := goodIn_app (goodIn_of _ (by decide +kernel)) ggX0_liveDay_X4_beatAll
set_option maxRecDepth 20000 in
theorem ggX0_liveDay_X0_makeSheets : GoodIn wsX0_liveDay wsX0_makeSheets := goodIn_r _ [28, 4, 29, 30, 31, 32, 1, 33, 34, 35, 27, 36, 37, 17, 18, 19, 38, 39, 40, 41, 42, 43, 44, 45, 46, 47, 48, 49, 50, 51, 52, 53, 54, 55, 56, 12, 57, 15, 58, 59, 60, 61, 62, 63, 64, 65, 66, 67, 68, 69, 70, 71, 72, 73, 74, 75, 76, 77, 78, 79, 80, 81, 82, 83, 84, 85, 14, 86, 87, 88, 89, 90, 91, 92, 93, 94, 95, 96, 97, 98, 99, 100, 101, 102, 103, 104, 105, 106, 107, 108, 109, 110, 111, 112, 113, 114, 115, 116, 117, 118, 119, 120, 121, 122, 123, 124, 125, 126, 127, 128, 129, 130, 131, 132, 133, 134, 168, 169, 170, 171, 172, 173, 174, 175, 176, 177, 178, 179, 180, 181, 182, 183, 184, 185, 186, 187, 188, 189, 190, 191, 192, 193, 194, 195] (by decide +kernel) (by decide +kernel)
set_option maxRecDepth 20000 in
theorem gX0_liveDay_X0_makeSheets : GoodIn wsX0_liveDay (wsV RX0 161 RX0 yX0_makeSheets wsX0_makeSheets) := goodIn_app (goodIn_of _ (by decide +kernel)) ggX0_liveDay_X0_makeSheets
set_option maxRecDepth 20000 in
theorem ggX0_liveDay_X0_pressPosts : GoodIn wsX0_liveDay wsX0_pressPosts := goodIn_r _ [138, 29, 37, 17, 18, 19, 139, 140, 141, 111, 142, 116, 143, 144, 145, 146, 113, 147, 148, 149, 150, 114, 151, 152, 153, 154, 115, 155, 156, 157, 27, 158, 159, 58, 59, 60, 160, 161, 162, 163, 117, 164, 165, 166, 167, 168, 169, 170, 171, 172, 173, 174, 175, 176, 177, 178, 179, 191, 192, 193, 194, 195] (by decide +kernel) (by decide +kernel)
set_option maxRecDepth 20000 in
theorem gX0_liveDay_X0_pressPosts : GoodIn wsX0_liveDay (wsV RX0 164 RX0 yX0_pressPosts wsX0_pressPosts) := goodIn_app (goodIn_of _ (by decide +kernel)) ggX0_liveDay_X0_pressPosts
theorem dX0_liveDay_0 : decode cX0_liveDay 0 = .ok (.aload_n 0, 1) := by decide +kernel
theorem dX0_liveDay_1 : decode cX0_liveDay 1 = .ok (.getfield 37, 3) := by decide +kernel
theorem dX0_liveDay_4 : decode cX0_liveDay 4 = .ok (.aload_n 0, 1) := by decide +kernel
theorem dX0_liveDay_5 : decode cX0_liveDay 5 = .ok (.getfield 31, 3) := by decide +kernel
theorem dX0_liveDay_8 : decode cX0_liveDay 8 = .ok (.aload_n 0, 1) := by decide +kernel
theorem dX0_liveDay_9 : decode cX0_liveDay 9 = .ok (.getfield 9, 3) := by decide +kernel
theorem dX0_liveDay_12 : decode cX0_liveDay 12 = .ok (.bipush 7, 2) := by decide +kernel
theorem dX0_liveDay_14 : decode cX0_liveDay 14 = .ok (.invokestatic 153, 3) := by decide +kernel
theorem dX0_liveDay_17 : decode cX0_liveDay 17 = .ok (.iaload, 1) := by decide +kernel
theorem dX0_liveDay_18 : decode cX0_liveDay 18 = .ok (.invokevirtual 156, 3) := by decide +kernel
theorem dX0_liveDay_21 : decode cX0_liveDay 21 = .ok (.iconst 0, 1) := by decide +kernel
theorem dX0_liveDay_22 : decode cX0_liveDay 22 = .ok (.istore_n 1, 1) := by decide +kernel
theorem dX0_liveDay_23 : decode cX0_liveDay 23 = .ok (.iload_n 1, 1) := by decide +kernel
theorem dX0_liveDay_24 : decode cX0_liveDay 24 = .ok (.aload_n 0, 1) := by decide +kernel
theorem dX0_liveDay_25 : decode cX0_liveDay 25 = .ok (.getfield 51, 3) := by decide +kernel
theorem dX0_liveDay_28 : decode cX0_liveDay 28 = .ok (.getfield 160, 3) := by decide +kernel
theorem dX0_liveDay_31 : decode cX0_liveDay 31 = .ok (.if_icmp .ge 14, 3) := by decide +kernel
theorem dX0_liveDay_34 : decode cX0_liveDay 34 = .ok (.aload_n 0, 1) := by decide +kernel
theorem dX0_liveDay_35 : decode cX0_liveDay 35 = .ok (.iload_n 1, 1) := by decide +kernel
theorem dX0_liveDay_36 : decode cX0_liveDay 36 = .ok (.invokevirtual 161, 3) := by decide +kernel
theorem dX0_liveDay_39 : decode cX0_liveDay 39 = .ok (.iinc 1 1, 3) := by decide +kernel
theorem dX0_liveDay_42 : decode cX0_liveDay 42 = .ok (.goto (-19), 3) := by decide +kernel
theorem dX0_liveDay_45 : decode cX0_liveDay 45 = .ok (.aload_n 0, 1) := by decide +kernel
theorem dX0_liveDay_46 : decode cX0_liveDay 46 = .ok (.invokevirtual 164, 3) := by decide +kernel
theorem dX0_liveDay_49 : decode cX0_liveDay 49 = .ok (.aload_n 0, 1) := by decide +kernel
theorem dX0_liveDay_50 : decode cX0_liveDay 50 = .ok (.dup, 1) := by decide +kernel
theorem dX0_liveDay_51 : decode cX0_liveDay 51 = .ok (.getfield 9, 3) := by decide +kernel
theorem dX0_liveDay_54 : decode cX0_liveDay 54 = .ok (.iconst 1, 1) := by decide +kernel
theorem dX0_liveDay_55 : decode cX0_liveDay 55 = .ok (.iadd, 1) := by decide +kernel
theorem dX0_liveDay_56 : decode cX0_liveDay 56 = .ok (.putfield 9, 3) := by decide +kernel
theorem dX0_liveDay_59 : decode cX0_liveDay 59 = .ok (.return_, 1) := by decide +kernel
set_option maxRecDepth 20000 in
theorem ggX0_makeSheets_X0_sheetsOf : GoodIn wsX0_makeSheets wsX0_sheetsOf := goodIn_r _ [11, 1, 6, 3, 12, 13, 14, 15, 16, 17, 18, 19, 20, 21, 22, 23, 24, 25, 26, 27, 28, 29, 30, 31, 32, 33, 34, 35, 36, 37, 38, 39, 40, 41, 42, 43, 44, 45, 46, 47, 48, 49, 50, 51, 52, 53, 54, 55, 56, 57, 58, 59, 10, 60, 61, 2, 62, 63, 64, 65, 66, 116, 117, 118, 119, 120, 121, 122, 123, 124, 125, 126, 127, 128, 129, 130, 131, 132, 133, 134, 135, 136, 137, 138, 139, 140, 141, 142, 143] (by decide +kernel) (by decide +kernel)
set_option maxRecDepth 20000 in
theorem gX0_makeSheets_X0_sheetsOf : GoodIn wsX0_makeSheets (wsV RX0 135 RX0 yX0_sheetsOf wsX0_sheetsOf) := goodIn_app (goodIn_of _ (by decide +kernel)) ggX0_makeSheets_X0_sheetsOf
set_option maxRecDepth 20000 in
theorem ggX0_makeSheets_X3_vatOf : GoodIn wsX0_makeSheets wsX3_vatOf := goodIn_r _ [20, 21, 22, 23, 24, 19, 25, 26, 128, 129, 130, 131] (by decide +kernel) (by decide +kernel)
set_option maxRecDepth 20000 in
theorem gX0_makeSheets_X3_vatOf : GoodIn wsX0_makeSheets (wsV RX0 129 RX3 yX3_vatOf wsX3_vatOf) := goodIn_app (goodIn_of _ (by decide +kernel)) ggX0_makeSheets_X3_vatOf
set_option maxRecDepth 20000 in
theorem ggX0_makeSheets_X3_pairOf : GoodIn wsX0_makeSheets wsX3_pairOf := goodIn_r _ [30, 31, 22, 23, 24, 19, 25, 26, 128, 129, 130, 131] (by decide +kernel) (by decide +kernel)
set_option maxRecDepth 20000 in
theorem gX0_makeSheets_X3_pairOf : GoodIn wsX0_makeSheets (wsV RX0 132 RX3 yX3_pairOf wsX3_pairOf) := goodIn_app (goodIn_of _ (by decide +kernel)) ggX0_makeSheets_X3_pairOf
set_option maxRecDepth 20000 in
theorem ggX0_makeSheets_X0_gradeOf : GoodIn wsX0_makeSheets wsX0_gradeOf := goodIn_r _ [70, 6, 3, 32, 33, 34, 35, 36, 37, 38, 39, 40, 71, 72, 73, 74, 75, 76, 77, 10, 78, 79, 80, 81, 44, 82, 83, 47, 48, 49, 50, 51, 116, 117, 118, 119, 120, 121, 122, 123, 124, 125, 126, 127, 132, 133, 134, 135, 136, 137, 138] (by decide +kernel) (by decide +kernel)
set_option maxRecDepth 20000 in
theorem gX0_makeSheets_X0_gradeOf : GoodIn wsX0_makeSheets (wsV RX0 167 RX0 yX0_gradeOf wsX0_gradeOf) := goodIn_app (goodIn_of _ (by decide +kernel)) ggX0_makeSheets_X0_gradeOf
set_option maxRecDepth 20000 in
theorem ggX0_makeSheets_X1_markOf : GoodIn wsX0_makeSheets wsX1_markOf := goodIn_r _ [87, 88, 47, 48, 49, 44, 50, 51, 135, 136, 137, 138] (by decide +kernel) (by decide +kernel)
set_option maxRecDepth 20000 in
theorem gX0_makeSheets_X1_markOf : GoodIn wsX0_makeSheets (wsV RX0 114 RX1 yX1_markOf wsX1_markOf) := goodIn_app (goodIn_of _ (by decide +kernel)) ggX0_makeSheets_X1_markOf
set_option maxRecDepth 20000 in
theorem ggX0_makeSheets_X2_add : GoodIn wsX0_makeSheets wsX2_add := goodIn_r _ [93, 94, 95, 96, 97, 98, 139, 140, 141, 142, 143] (by decide +kernel) (by decide +kernel)
set_option maxRecDepth 20000 in
theorem gX0_makeSheets_X2_add : GoodIn wsX0_makeSheets (wsV RX0 170 RX2 yX2_add wsX2_add) := goodIn_app (goodIn_of _ (by decide +kernel)) ggX0_makeSheets_X2_add
set_option maxRecDepth 20000 in
theorem ggX0_makeSheets_X5_worthOf : GoodIn wsX0_makeSheets wsX5_worthOf := goodIn_r _ [100, 101, 102, 38, 39, 40] (by decide +kernel) (by decide +kernel)
set_option maxRecDepth 20000 in
theorem gX0_makeSheets_X5_worthOf_n174 : GoodIn wsX0_makeSheets (wsX5_worthOf) := ggX0_makeSheets_X5_worthOf
set_option maxRecDepth 20000 in
theorem ggX0_makeSheets_X1_sizeOf : GoodIn wsX0_makeSheets wsX1_sizeOf := goodIn_r _ [45, 46, 47, 48, 49, 44, 50, 51, 135, 136, 137, 138] (by decide +kernel) (by decide +kernel)
set_option maxRecDepth 20000 in
theorem gX0_makeSheets_X1_sizeOf : GoodIn wsX0_makeSheets (wsV RX0 117 RX1 yX1_sizeOf wsX1_sizeOf) := goodIn_app (goodIn_of _ (by decide +kernel)) ggX0_makeSheets_X1_sizeOf
set_option maxRecDepth 20000 in
theorem ggX0_makeSheets_X4_takeOut : GoodIn wsX0_makeSheets wsX4_takeOut := goodIn_r _ [106, 66, 38, 39, 40, 107, 108, 109, 35, 110, 37, 75, 132, 133, 134] (by decide +kernel) (by decide +kernel)
set_option maxRecDepth 20000 in
theorem gX0_makeSheets_X4_takeOut : GoodIn wsX0_makeSheets (wsV RX0 177 RX4 yX4_takeOut wsX4_takeOut) := goodIn_app (goodIn_of _ (by decide +kernel)) ggX0_makeSheets_X4_takeOut
set_option maxRecDepth 20000 in
theorem ggX0_makeSheets_X1_wearBySheets : GoodIn wsX0_makeSheets wsX1_wearBySheets := goodIn_r _ [114, 83, 115, 13, 14, 15, 47, 48, 49, 44, 50, 51, 135, 136, 137, 138] (by decide +kernel) (by decide +kernel)
set_option maxRecDepth 20000 in
theorem gX0_makeSheets_X1_wearBySheets : GoodIn wsX0_makeSheets (wsV RX0 181 RX1 yX1_wearBySheets wsX1_wearBySheets) := goodIn_app (goodIn_of _ (by decide +kernel)) ggX0_makeSheets_X1_wearBySheets
theorem dX0_makeSheets_0 : decode cX0_makeSheets 0 = .ok (.aload_n 0, 1) := by decide +kernel
theorem dX0_makeSheets_1 : decode cX0_makeSheets 1 = .ok (.iload_n 1, 1) := by decide +kernel
theorem dX0_makeSheets_2 : decode cX0_makeSheets 2 = .ok (.invokevirtual 135, 3) := by decide +kernel
theorem dX0_makeSheets_5 : decode cX0_makeSheets 5 = .ok (.istore_n 2, 1) := by decide +kernel
theorem dX0_makeSheets_6 : decode cX0_makeSheets 6 = .ok (.iload_n 2, 1) := by decide +kernel
theorem dX0_makeSheets_7 : decode cX0_makeSheets 7 = .ok (.iconst 1, 1) := by decide +kernel
theorem dX0_makeSheets_8 : decode cX0_makeSheets 8 = .ok (.if_icmp .ge 4, 3) := by decide +kernel
theorem dX0_makeSheets_11 : decode cX0_makeSheets 11 = .ok (.return_, 1) := by decide +kernel
theorem dX0_makeSheets_12 : decode cX0_makeSheets 12 = .ok (.aload_n 0, 1) := by decide +kernel
theorem dX0_makeSheets_13 : decode cX0_makeSheets 13 = .ok (.getfield 51, 3) := by decide +kernel
theorem dX0_makeSheets_16 : decode cX0_makeSheets 16 = .ok (.iload_n 1, 1) := by decide +kernel
theorem dX0_makeSheets_17 : decode cX0_makeSheets 17 = .ok (.invokevirtual 129, 3) := by decide +kernel
theorem dX0_makeSheets_20 : decode cX0_makeSheets 20 = .ok (.istore_n 3, 1) := by decide +kernel
theorem dX0_makeSheets_21 : decode cX0_makeSheets 21 = .ok (.aload_n 0, 1) := by decide +kernel
theorem dX0_makeSheets_22 : decode cX0_makeSheets 22 = .ok (.getfield 51, 3) := by decide +kernel
theorem dX0_makeSheets_25 : decode cX0_makeSheets 25 = .ok (.iload_n 1, 1) := by decide +kernel
theorem dX0_makeSheets_26 : decode cX0_makeSheets 26 = .ok (.invokevirtual 132, 3) := by decide +kernel
theorem dX0_makeSheets_29 : decode cX0_makeSheets 29 = .ok (.istore 4, 2) := by decide +kernel
theorem dX0_makeSheets_31 : decode cX0_makeSheets 31 = .ok (.aload_n 0, 1) := by decide +kernel
theorem dX0_makeSheets_32 : decode cX0_makeSheets 32 = .ok (.iload_n 3, 1) := by decide +kernel
theorem dX0_makeSheets_33 : decode cX0_makeSheets 33 = .ok (.iload 4, 2) := by decide +kernel
theorem dX0_makeSheets_35 : decode cX0_makeSheets 35 = .ok (.invokevirtual 167, 3) := by decide +kernel
theorem dX0_makeSheets_38 : decode cX0_makeSheets 38 = .ok (.istore 5, 2) := by decide +kernel
theorem dX0_makeSheets_40 : decode cX0_makeSheets 40 = .ok (.aload_n 0, 1) := by decide +kernel
theorem dX0_makeSheets_41 : decode cX0_makeSheets 41 = .ok (.getfield 58, 3) := by decide +kernel
theorem dX0_makeSheets_44 : decode cX0_makeSheets 44 = .ok (.aload_n 0, 1) := by decide +kernel
theorem dX0_makeSheets_45 : decode cX0_makeSheets 45 = .ok (.getfield 44, 3) := by decide +kernel
theorem dX0_makeSheets_48 : decode cX0_makeSheets 48 = .ok (.iload 4, 2) := by decide +kernel
theorem dX0_makeSheets_50 : decode cX0_makeSheets 50 = .ok (.invokevirtual 114, 3) := by decide +kernel
theorem dX0_makeSheets_53 : decode cX0_makeSheets 53 = .ok (.iload 5, 2) := by decide +kernel
theorem dX0_makeSheets_55 : decode cX0_makeSheets 55 = .ok (.iload_n 2, 1) := by decide +kernel
theorem dX0_makeSheets_56 : decode cX0_makeSheets 56 = .ok (.invokevirtual 170, 3) := by decide +kernel
theorem dX0_makeSheets_59 : decode cX0_makeSheets 59 = .ok (.aload_n 0, 1) := by decide +kernel
theorem dX0_makeSheets_60 : decode cX0_makeSheets 60 = .ok (.dup, 1) := by decide +kernel
theorem dX0_makeSheets_61 : decode cX0_makeSheets 61 = .ok (.getfield 21, 3) := by decide +kernel
theorem dX0_makeSheets_64 : decode cX0_makeSheets 64 = .ok (.iload_n 2, 1) := by decide +kernel
theorem dX0_makeSheets_65 : decode cX0_makeSheets 65 = .ok (.iadd, 1) := by decide +kernel
theorem dX0_makeSheets_66 : decode cX0_makeSheets 66 = .ok (.putfield 21, 3) := by decide +kernel
theorem dX0_makeSheets_69 : decode cX0_makeSheets 69 = .ok (.aload_n 0, 1) := by decide +kernel
theorem dX0_makeSheets_70 : decode cX0_makeSheets 70 = .ok (.dup, 1) := by decide +kernel
theorem dX0_makeSheets_71 : decode cX0_makeSheets 71 = .ok (.getfield 24, 3) := by decide +kernel
theorem dX0_makeSheets_74 : decode cX0_makeSheets 74 = .ok (.iload_n 2, 1) := by decide +kernel
theorem dX0_makeSheets_75 : decode cX0_makeSheets 75 = .ok (.iload 5, 2) := by decide +kernel
theorem dX0_makeSheets_77 : decode cX0_makeSheets 77 = .ok (.invokestatic 174, 3) := by decide +kernel
theorem dX0_makeSheets_80 : decode cX0_makeSheets 80 = .ok (.imul, 1) := by decide +kernel
theorem dX0_makeSheets_81 : decode cX0_makeSheets 81 = .ok (.iadd, 1) := by decide +kernel
theorem dX0_makeSheets_82 : decode cX0_makeSheets 82 = .ok (.putfield 24, 3) := by decide +kernel
theorem dX0_makeSheets_85 : decode cX0_makeSheets 85 = .ok (.aload_n 0, 1) := by decide +kernel
theorem dX0_makeSheets_86 : decode cX0_makeSheets 86 = .ok (.getfield 37, 3) := by decide +kernel
theorem dX0_makeSheets_89 : decode cX0_makeSheets 89 = .ok (.iload_n 3, 1) := by decide +kernel
theorem dX0_makeSheets_90 : decode cX0_makeSheets 90 = .ok (.iload_n 2, 1) := by decide +kernel
theorem dX0_makeSheets_91 : decode cX0_makeSheets 91 = .ok (.aload_n 0, 1) := by decide +kernel
theorem dX0_makeSheets_92 : decode cX0_makeSheets 92 = .ok (.getfield 44, 3) := by decide +kernel
theorem dX0_makeSheets_95 : decode cX0_makeSheets 95 = .ok (.iload 4, 2) := by decide +kernel
theorem dX0_makeSheets_97 : decode cX0_makeSheets 97 = .ok (.invokevirtual 117, 3) := by decide +kernel
theorem dX0_makeSheets_100 : decode cX0_makeSheets 100 = .ok (.imul, 1) := by decide +kernel
theorem dX0_makeSheets_101 : decode cX0_makeSheets 101 = .ok (.invokevirtual 177, 3) := by decide +kernel
theorem dX0_makeSheets_104 : decode cX0_makeSheets 104 = .ok (.aload_n 0, 1) := by decide +kernel
theorem dX0_makeSheets_105 : decode cX0_makeSheets 105 = .ok (.getfield 44, 3) := by decide +kernel
theorem dX0_makeSheets_108 : decode cX0_makeSheets 108 = .ok (.iload 4, 2) := by decide +kernel
theorem dX0_makeSheets_110 : decode cX0_makeSheets 110 = .ok (.iload_n 2, 1) := by decide +kernel
theorem dX0_makeSheets_111 : decode cX0_makeSheets 111 = .ok (.invokevirtual 181, 3) := by decide +kernel
theorem dX0_makeSheets_114 : decode cX0_makeSheets 114 = .ok (.return_, 1) := by decide +kernel
set_option maxRecDepth 20000 in
theorem ggX0_gradeOf_X4_beatOf : GoodIn wsX0_gradeOf wsX4_beatOf := goodIn_r _ [7, 8, 9, 10, 11, 44, 45, 46] (by decide +kernel) (by decide +kernel)
set_option maxRecDepth 20000 in
theorem gX0_gradeOf_X4_beatOf : GoodIn wsX0_gradeOf (wsV RX0 138 RX4 yX4_beatOf wsX4_beatOf) := goodIn_app (goodIn_of _ (by decide +kernel)) ggX0_gradeOf_X4_beatOf
set_option maxRecDepth 20000 in
theorem ggX0_gradeOf_X4_sortOf : GoodIn wsX0_gradeOf wsX4_sortOf := goodIn_r _ [15, 16, 9, 10, 11, 44, 45, 46] (by decide +kernel) (by decide +kernel)
set_option maxRecDepth 20000 in
theorem gX0_gradeOf_X4_sortOf : GoodIn wsX0_gradeOf (wsV RX0 184 RX4 yX4_sortOf wsX4_sortOf) := goodIn_app (goodIn_of _ (by decide +kernel)) ggX0_gradeOf_X4_sortOf
set_option maxRecDepth 20000 in
theorem ggX0_gradeOf_X0_pointsOf : GoodIn wsX0_gradeOf wsX0_pointsOf := goodIn_r _ [20, 9, 10, 11] (by decide +kernel) (by decide +kernel)
set_option maxRecDepth 20000 in
theorem gX0_gradeOf_X0_pointsOf : GoodIn wsX0_gradeOf (va_wsS RX0 187 yX0_pointsOf wsX0_pointsOf) := goodIn_app (goodIn_of _ (by decide +kernel)) ggX0_gradeOf_X0_pointsOf
set_option maxRecDepth 20000 in
theorem ggX0_gradeOf_X1_wornOf : GoodIn wsX0_gradeOf wsX1_wornOf := goodIn_r _ [25, 26, 27, 28, 29, 24, 30, 31, 47, 48, 49, 50] (by decide +kernel) (by decide +kernel)
set_option maxRecDepth 20000 in
theorem gX0_gradeOf_X1_wornOf : GoodIn wsX0_gradeOf (wsV RX0 120 RX1 yX1_wornOf wsX1_wornOf) := goodIn_app (goodIn_of _ (by decide +kernel)) ggX0_gradeOf_X1_wornOf
theorem dX0_gradeOf_0 : decode cX0_gradeOf 0 = .ok (.aload_n 0, 1) := by decide +kernel
theorem dX0_gradeOf_1 : decode cX0_gradeOf 1 = .ok (.getfield 37, 3) := by decide +kernel
theorem dX0_gradeOf_4 : decode cX0_gradeOf 4 = .ok (.iload_n 1, 1) := by decide +kernel
theorem dX0_gradeOf_5 : decode cX0_gradeOf 5 = .ok (.invokevirtual 138, 3) := by decide +kernel
theorem dX0_gradeOf_8 : decode cX0_gradeOf 8 = .ok (.bipush 10, 2) := by decide +kernel
theorem dX0_gradeOf_10 : decode cX0_gradeOf 10 = .ok (.idiv, 1) := by decide +kernel
theorem dX0_gradeOf_11 : decode cX0_gradeOf 11 = .ok (.aload_n 0, 1) := by decide +kernel
theorem dX0_gradeOf_12 : decode cX0_gradeOf 12 = .ok (.getfield 37, 3) := by decide +kernel
theorem dX0_gradeOf_15 : decode cX0_gradeOf 15 = .ok (.iload_n 1, 1) := by decide +kernel
theorem dX0_gradeOf_16 : decode cX0_gradeOf 16 = .ok (.invokevirtual 184, 3) := by decide +kernel
theorem dX0_gradeOf_19 : decode cX0_gradeOf 19 = .ok (.invokestatic 187, 3) := by decide +kernel
theorem dX0_gradeOf_22 : decode cX0_gradeOf 22 = .ok (.iadd, 1) := by decide +kernel
theorem dX0_gradeOf_23 : decode cX0_gradeOf 23 = .ok (.aload_n 0, 1) := by decide +kernel
theorem dX0_gradeOf_24 : decode cX0_gradeOf 24 = .ok (.getfield 44, 3) := by decide +kernel
theorem dX0_gradeOf_27 : decode cX0_gradeOf 27 = .ok (.iload_n 2, 1) := by decide +kernel
theorem dX0_gradeOf_28 : decode cX0_gradeOf 28 = .ok (.invokevirtual 120, 3) := by decide +kernel
theorem dX0_gradeOf_31 : decode cX0_gradeOf 31 = .ok (.bipush 10, 2) := by decide +kernel
theorem dX0_gradeOf_33 : decode cX0_gradeOf 33 = .ok (.idiv, 1) := by decide +kernel
theorem dX0_gradeOf_34 : decode cX0_gradeOf 34 = .ok (.isub, 1) := by decide +kernel
theorem dX0_gradeOf_35 : decode cX0_gradeOf 35 = .ok (.istore_n 3, 1) := by decide +kernel
theorem dX0_gradeOf_36 : decode cX0_gradeOf 36 = .ok (.iload_n 3, 1) := by decide +kernel
theorem dX0_gradeOf_37 : decode cX0_gradeOf 37 = .ok (.bipush 12, 2) := by decide +kernel
theorem dX0_gradeOf_39 : decode cX0_gradeOf 39 = .ok (.if_icmp .lt 5, 3) := by decide +kernel
theorem dX0_gradeOf_42 : decode cX0_gradeOf 42 = .ok (.iconst 0, 1) := by decide +kernel
theorem dX0_gradeOf_43 : decode cX0_gradeOf 43 = .ok (.ireturn, 1) := by decide +kernel
theorem dX0_gradeOf_44 : decode cX0_gradeOf 44 = .ok (.iload_n 3, 1) := by decide +kernel
theorem dX0_gradeOf_45 : decode cX0_gradeOf 45 = .ok (.bipush 7, 2) := by decide +kernel
theorem dX0_gradeOf_47 : decode cX0_gradeOf 47 = .ok (.if_icmp .lt 7, 3) := by decide +kernel
theorem dX0_gradeOf_50 : decode cX0_gradeOf 50 = .ok (.iconst 1, 1) := by decide +kernel
theorem dX0_gradeOf_51 : decode cX0_gradeOf 51 = .ok (.goto 4, 3) := by decide +kernel
theorem dX0_gradeOf_54 : decode cX0_gradeOf 54 = .ok (.iconst 2, 1) := by decide +kernel
theorem dX0_gradeOf_55 : decode cX0_gradeOf 55 = .ok (.ireturn, 1) := by decide +kernel
set_option maxRecDepth 20000 in
theorem ggX0_pointsOf_X5_isBelow : GoodIn wsX0_pointsOf wsX5_isBelow := goodIn_r _ [3] (by decide +kernel) (by decide +kernel)
set_option maxRecDepth 20000 in
theorem gX0_pointsOf_X5_isBelow_n90 : GoodIn wsX0_pointsOf (wsX5_isBelow) := ggX0_pointsOf_X5_isBelow
theorem dX0_pointsOf_0 : decode cX0_pointsOf 0 = .ok (.iload_n 0, 1) := by decide +kernel
theorem dX0_pointsOf_1 : decode cX0_pointsOf 1 = .ok (.iconst 3, 1) := by decide +kernel
theorem dX0_pointsOf_2 : decode cX0_pointsOf 2 = .ok (.invokestatic 90, 3) := by decide +kernel
theorem dX0_pointsOf_5 : decode cX0_pointsOf 5 = .ok (.ifCond .eq 11, 3) := by decide +kernel
theorem dX0_pointsOf_8 : decode cX0_pointsOf 8 = .ok (.getstatic 190, 3) := by decide +kernel
theorem dX0_pointsOf_11 : decode cX0_pointsOf 11 = .ok (.iload_n 0, 1) := by decide +kernel
theorem dX0_pointsOf_12 : decode cX0_pointsOf 12 = .ok (.iaload, 1) := by decide +kernel
theorem dX0_pointsOf_13 : decode cX0_pointsOf 13 = .ok (.goto 4, 3) := by decide +kernel
theorem dX0_pointsOf_16 : decode cX0_pointsOf 16 = .ok (.iconst 0, 1) := by decide +kernel
theorem dX0_pointsOf_17 : decode cX0_pointsOf 17 = .ok (.ireturn, 1) := by decide +kernel
set_option maxRecDepth 20000 in
theorem ggX0_pressPosts_X2_sheetsOf : GoodIn wsX0_pressPosts wsX2_sheetsOf := goodIn_r _ [10, 11, 12, 13, 14, 9, 15, 16, 57, 58, 59, 60, 61] (by decide +kernel) (by decide +kernel)
set_option maxRecDepth 20000 in
theorem gX0_pressPosts_X2_sheetsOf : GoodIn wsX0_pressPosts (wsV RX0 193 RX2 yX2_sheetsOf wsX2_sheetsOf) := goodIn_app (goodIn_of _ (by decide +kernel)) ggX0_pressPosts_X2_sheetsOf
set_option maxRecDepth 20000 in
theorem ggX0_pressPosts_X2_markOf : GoodIn wsX0_pressPosts wsX2_markOf := goodIn_r _ [20, 21, 12, 13, 14, 9, 15, 16, 57, 58, 59, 60, 61] (by decide +kernel) (by decide +kernel)
set_option maxRecDepth 20000 in
theorem gX0_pressPosts_X2_markOf : GoodIn wsX0_pressPosts (wsV RX0 194 RX2 yX2_markOf wsX2_markOf) := goodIn_app (goodIn_of _ (by decide +kernel)) ggX0_pressPosts_X2_markOf
set_option maxRecDepth 20000 in
theorem ggX0_pressPosts_X2_gradeOf : GoodIn wsX0_pressPosts wsX2_gradeOf := goodIn_r _ [25, 26, 12, 13, 14, 9, 15, 16, 57, 58, 59, 60, 61] (by decide +kernel) (by decide +kernel)
set_option maxRecDepth 20000 in
theorem gX0_pressPosts_X2_gradeOf : GoodIn wsX0_pressPosts (wsV RX0 195 RX2 yX2_gradeOf wsX2_gradeOf) := goodIn_app (goodIn_of _ (by decide +kernel)) ggX0_pressPosts_X2_gradeOf
set_option maxRecDepth 20000 in
theorem ggX0_pressPosts_X0_hang : GoodIn wsX0_pressPosts wsX0_hang := goodIn_r _ [31, 32, 33, 34, 35, 45, 46, 47, 48, 49, 50, 51, 52, 53, 54, 55, 56] (by decide +kernel) (by decide +kernel)
set_option maxRecDepth 20000 in
theorem gX0_pressPosts_X0_hang : GoodIn wsX0_pressPosts (wsV RX0 197 RX0 yX0_hang wsX0_hang) := goodIn_app (goodIn_of _ (by decide +kernel)) ggX0_pressPosts_X0_hang
set_option maxRecDepth 20000 in
theorem ggX0_pressPosts_X2_takeOff : GoodIn wsX0_pressPosts wsX2_takeOff := goodIn_r _ [39, 11, 40, 12, 13, 14, 9, 15, 16, 57, 58, 59, 60, 61] (by decide +kernel) (by decide +kernel)
set_option maxRecDepth 20000 in
theorem gX0_pressPosts_X2_takeOff : GoodIn wsX0_pressPosts (wsV RX0 200 RX2 yX2_takeOff wsX2_takeOff) := goodIn_app (goodIn_of _ (by decide +kernel)) ggX0_pressPosts_X2_takeOff
set_option maxRecDepth 20000 in
theorem ggX0_pressPosts_X2_dropEmptyOnes : GoodIn wsX0_pressPosts wsX2_dropEmptyOnes := goodIn_r _ [44, 16, 11, 21, 26, 57, 58, 59, 60, 61] (by decide +kernel) (by decide +kernel)
set_option maxRecDepth 20000 in
theorem gX0_pressPosts_X2_dropEmptyOnes : GoodIn wsX0_pressPosts (wsV RX0 203 RX2 yX2_dropEmptyOnes wsX2_dropEmptyOnes) := goodIn_app (goodIn_of _ (by decide +kernel)) ggX0_pressPosts_X2_dropEmptyOnes
theorem dX0_pressPosts_0 : decode cX0_pressPosts 0 = .ok (.bipush 24, 2) := by decide +kernel
theorem dX0_pressPosts_2 : decode cX0_pressPosts 2 = .ok (.istore_n 1, 1) := by decide +kernel
theorem dX0_pressPosts_3 : decode cX0_pressPosts 3 = .ok (.iconst 0, 1) := by decide +kernel
theorem dX0_pressPosts_4 : decode cX0_pressPosts 4 = .ok (.istore_n 2, 1) := by decide +kernel
theorem dX0_pressPosts_5 : decode cX0_pressPosts 5 = .ok (.iload_n 2, 1) := by decide +kernel
theorem dX0_pressPosts_6 : decode cX0_pressPosts 6 = .ok (.aload_n 0, 1) := by decide +kernel
theorem dX0_pressPosts_7 : decode cX0_pressPosts 7 = .ok (.getfield 58, 3) := by decide +kernel
theorem dX0_pressPosts_10 : decode cX0_pressPosts 10 = .ok (.getfield 101, 3) := by decide +kernel
theorem dX0_pressPosts_13 : decode cX0_pressPosts 13 = .ok (.if_icmp .ge 60, 3) := by decide +kernel
theorem dX0_pressPosts_16 : decode cX0_pressPosts 16 = .ok (.iload_n 1, 1) := by decide +kernel
theorem dX0_pressPosts_17 : decode cX0_pressPosts 17 = .ok (.ifCond .le 56, 3) := by decide +kernel
theorem dX0_pressPosts_20 : decode cX0_pressPosts 20 = .ok (.iload_n 1, 1) := by decide +kernel
theorem dX0_pressPosts_21 : decode cX0_pressPosts 21 = .ok (.aload_n 0, 1) := by decide +kernel
theorem dX0_pressPosts_22 : decode cX0_pressPosts 22 = .ok (.getfield 58, 3) := by decide +kernel
theorem dX0_pressPosts_25 : decode cX0_pressPosts 25 = .ok (.iload_n 2, 1) := by decide +kernel
theorem dX0_pressPosts_26 : decode cX0_pressPosts 26 = .ok (.invokevirtual 193, 3) := by decide +kernel
theorem dX0_pressPosts_29 : decode cX0_pressPosts 29 = .ok (.invokestatic 141, 3) := by decide +kernel
theorem dX0_pressPosts_32 : decode cX0_pressPosts 32 = .ok (.istore_n 3, 1) := by decide +kernel
theorem dX0_pressPosts_33 : decode cX0_pressPosts 33 = .ok (.aload_n 0, 1) := by decide +kernel
theorem dX0_pressPosts_34 : decode cX0_pressPosts 34 = .ok (.aload_n 0, 1) := by decide +kernel
theorem dX0_pressPosts_35 : decode cX0_pressPosts 35 = .ok (.getfield 58, 3) := by decide +kernel
theorem dX0_pressPosts_38 : decode cX0_pressPosts 38 = .ok (.iload_n 2, 1) := by decide +kernel
theorem dX0_pressPosts_39 : decode cX0_pressPosts 39 = .ok (.invokevirtual 194, 3) := by decide +kernel
theorem dX0_pressPosts_42 : decode cX0_pressPosts 42 = .ok (.aload_n 0, 1) := by decide +kernel
theorem dX0_pressPosts_43 : decode cX0_pressPosts 43 = .ok (.getfield 58, 3) := by decide +kernel
theorem dX0_pressPosts_46 : decode cX0_pressPosts 46 = .ok (.iload_n 2, 1) := by decide +kernel
theorem dX0_pressPosts_47 : decode cX0_pressPosts 47 = .ok (.invokevirtual 195, 3) := by decide +kernel
theorem dX0_pressPosts_50 : decode cX0_pressPosts 50 = .ok (.iload_n 3, 1) := by decide +kernel
theorem dX0_pressPosts_51 : decode cX0_pressPosts 51 = .ok (.invokevirtual 197, 3) := by decide +kernel
theorem dX0_pressPosts_54 : decode cX0_pressPosts 54 = .ok (.aload_n 0, 1) := by decide +kernel
theorem dX0_pressPosts_55 : decode cX0_pressPosts 55 = .ok (.getfield 58, 3) := by decide +kernel
theorem dX0_pressPosts_58 : decode cX0_pressPosts 58 = .ok (.iload_n 2, 1) := by decide +kernel
theorem dX0_pressPosts_59 : decode cX0_pressPosts 59 = .ok (.iload_n 3, 1) := by decide +kernel
theorem dX0_pressPosts_60 : decode cX0_pressPosts 60 = .ok (.invokevirtual 200, 3) := by decide +kernel
theorem dX0_pressPosts_63 : decode cX0_pressPosts 63 = .ok (.iload_n 1, 1) := by decide +kernel
theorem dX0_pressPosts_64 : decode cX0_pressPosts 64 = .ok (.iload_n 3, 1) := by decide +kernel
theorem dX0_pressPosts_65 : decode cX0_pressPosts 65 = .ok (.isub, 1) := by decide +kernel
theorem dX0_pressPosts_66 : decode cX0_pressPosts 66 = .ok (.istore_n 1, 1) := by decide +kernel
theorem dX0_pressPosts_67 : decode cX0_pressPosts 67 = .ok (.iinc 2 1, 3) := by decide +kernel
theorem dX0_pressPosts_70 : decode cX0_pressPosts 70 = .ok (.goto (-65), 3) := by decide +kernel
theorem dX0_pressPosts_73 : decode cX0_pressPosts 73 = .ok (.aload_n 0, 1) := by decide +kernel
theorem dX0_pressPosts_74 : decode cX0_pressPosts 74 = .ok (.getfield 58, 3) := by decide +kernel
theorem dX0_pressPosts_77 : decode cX0_pressPosts 77 = .ok (.invokevirtual 203, 3) := by decide +kernel
theorem dX0_pressPosts_80 : decode cX0_pressPosts 80 = .ok (.return_, 1) := by decide +kernel
theorem dX0_allHanging_0 : decode cX0_allHanging 0 = .ok (.iconst 0, 1) := by decide +kernel
theorem dX0_allHanging_1 : decode cX0_allHanging 1 = .ok (.istore_n 1, 1) := by decide +kernel
theorem dX0_allHanging_2 : decode cX0_allHanging 2 = .ok (.iconst 0, 1) := by decide +kernel
theorem dX0_allHanging_3 : decode cX0_allHanging 3 = .ok (.istore_n 2, 1) := by decide +kernel
theorem dX0_allHanging_4 : decode cX0_allHanging 4 = .ok (.iload_n 2, 1) := by decide +kernel
theorem dX0_allHanging_5 : decode cX0_allHanging 5 = .ok (.aload_n 0, 1) := by decide +kernel
theorem dX0_allHanging_6 : decode cX0_allHanging 6 = .ok (.getfield 62, 3) := by decide +kernel
theorem dX0_allHanging_9 : decode cX0_allHanging 9 = .ok (.arraylength, 1) := by decide +kernel
theorem dX0_allHanging_10 : decode cX0_allHanging 10 = .ok (.if_icmp .ge 18, 3) := by decide +kernel
theorem dX0_allHanging_13 : decode cX0_allHanging 13 = .ok (.iload_n 1, 1) := by decide +kernel
theorem dX0_allHanging_14 : decode cX0_allHanging 14 = .ok (.aload_n 0, 1) := by decide +kernel
theorem dX0_allHanging_15 : decode cX0_allHanging 15 = .ok (.getfield 62, 3) := by decide +kernel
theorem dX0_allHanging_18 : decode cX0_allHanging 18 = .ok (.iload_n 2, 1) := by decide +kernel
theorem dX0_allHanging_19 : decode cX0_allHanging 19 = .ok (.iaload, 1) := by decide +kernel
theorem dX0_allHanging_20 : decode cX0_allHanging 20 = .ok (.iadd, 1) := by decide +kernel
theorem dX0_allHanging_21 : decode cX0_allHanging 21 = .ok (.istore_n 1, 1) := by decide +kernel
theorem dX0_allHanging_22 : decode cX0_allHanging 22 = .ok (.iinc 2 1, 3) := by decide +kernel
theorem dX0_allHanging_25 : decode cX0_allHanging 25 = .ok (.goto (-21), 3) := by decide +kernel
theorem dX0_allHanging_28 : decode cX0_allHanging 28 = .ok (.iload_n 1, 1) := by decide +kernel
theorem dX0_allHanging_29 : decode cX0_allHanging 29 = .ok (.ireturn, 1) := by decide +kernel
set_option maxRecDepth 20000 in
theorem ggX0_poundsOf_X5_isBelow : GoodIn wsX0_poundsOf wsX5_isBelow := goodIn_r _ [4] (by decide +kernel) (by decide +kernel)
set_option maxRecDepth 20000 in
theorem gX0_poundsOf_X5_isBelow_n90 : GoodIn wsX0_poundsOf (wsX5_isBelow) := ggX0_poundsOf_X5_isBelow
theorem dX0_poundsOf_0 : decode cX0_poundsOf 0 = .ok (.iload_n 1, 1) := by decide +kernel
theorem dX0_poundsOf_1 : decode cX0_poundsOf 1 = .ok (.iconst 3, 1) := by decide +kernel
theorem dX0_poundsOf_2 : decode cX0_poundsOf 2 = .ok (.invokestatic 90, 3) := by decide +kernel
theorem dX0_poundsOf_5 : decode cX0_poundsOf 5 = .ok (.ifCond .eq 12, 3) := by decide +kernel
theorem dX0_poundsOf_8 : decode cX0_poundsOf 8 = .ok (.aload_n 0, 1) := by decide +kernel
theorem dX0_poundsOf_9 : decode cX0_poundsOf 9 = .ok (.getfield 27, 3) := by decide +kernel
theorem dX0_poundsOf_12 : decode cX0_poundsOf 12 = .ok (.iload_n 1, 1) := by decide +kernel
theorem dX0_poundsOf_13 : decode cX0_poundsOf 13 = .ok (.iaload, 1) := by decide +kernel
theorem dX0_poundsOf_14 : decode cX0_poundsOf 14 = .ok (.goto 4, 3) := by decide +kernel
theorem dX0_poundsOf_17 : decode cX0_poundsOf 17 = .ok (.iconst 0, 1) := by decide +kernel
theorem dX0_poundsOf_18 : decode cX0_poundsOf 18 = .ok (.ireturn, 1) := by decide +kernel
end
section
theorem nmX1 : ∀ a, a < 4 → ∀ b, b < 4 → a ≠ b → (TX1 a).2.1 ≠ (TX1 b).2.1 := by decide +kernel
theorem tyX1_ok : ∀ k, k < 4 → parseFieldDescriptor (TX1 k).2.2.1 = some (tyX1 k) := by decide +kernel
theorem inlX1 : ∀ w ∈ wsX10, w ∈ wsL_law := fun _ h => List.mem_append_left _ (List.mem_append_left _ (List.mem_append_left _ (List.mem_append_left _ (List.mem_append_left _ (List.mem_append_left _ (List.mem_append_right _ h))))))
theorem dX1_init_0 : decode cX1_init 0 = .ok (.aload_n 0, 1) := by decide +kernel
theorem dX1_init_1 : decode cX1_init 1 = .ok (.invokespecial 3, 3) := by decide +kernel
theorem dX1_init_4 : decode cX1_init 4 = .ok (.aload_n 0, 1) := by decide +kernel
theorem dX1_init_5 : decode cX1_init 5 = .ok (.iconst 0, 1) := by decide +kernel
theorem dX1_init_6 : decode cX1_init 6 = .ok (.putfield 9, 3) := by decide +kernel
theorem dX1_init_9 : decode cX1_init 9 = .ok (.aload_n 0, 1) := by decide +kernel
theorem dX1_init_10 : decode cX1_init 10 = .ok (.iconst 5, 1) := by decide +kernel
theorem dX1_init_11 : decode cX1_init 11 = .ok (.newarray .int, 2) := by decide +kernel
theorem dX1_init_13 : decode cX1_init 13 = .ok (.putfield 15, 3) := by decide +kernel
theorem dX1_init_16 : decode cX1_init 16 = .ok (.aload_n 0, 1) := by decide +kernel
theorem dX1_init_17 : decode cX1_init 17 = .ok (.iconst 5, 1) := by decide +kernel
theorem dX1_init_18 : decode cX1_init 18 = .ok (.newarray .int, 2) := by decide +kernel
theorem dX1_init_20 : decode cX1_init 20 = .ok (.putfield 19, 3) := by decide +kernel
theorem dX1_init_23 : decode cX1_init 23 = .ok (.aload_n 0, 1) := by decide +kernel
theorem dX1_init_24 : decode cX1_init 24 = .ok (.iconst 5, 1) := by decide +kernel
theorem dX1_init_25 : decode cX1_init 25 = .ok (.newarray .int, 2) := by decide +kernel
theorem dX1_init_27 : decode cX1_init 27 = .ok (.putfield 22, 3) := by decide +kernel
theorem dX1_init_30 : decode cX1_init 30 = .ok (.return_, 1) := by decide +kernel
theorem dX1_becomeLike_0 : decode cX1_becomeLike 0 = .ok (.aload_n 0, 1) := by decide +kernel
theorem dX1_becomeLike_1 : decode cX1_becomeLike 1 = .ok (.aload_n 1, 1) := by decide +kernel
theorem dX1_becomeLike_2 : decode cX1_becomeLike 2 = .ok (.getfield 9, 3) := by decide +kernel
theorem dX1_becomeLike_5 : decode cX1_becomeLike 5 = .ok (.putfield 9, 3) := by decide +kernel
theorem dX1_becomeLike_8 : decode cX1_becomeLike 8 = .ok (.aload_n 1, 1) := by decide +kernel
theorem dX1_becomeLike_9 : decode cX1_becomeLike 9 = .ok (.getfield 15, 3) := by decide +kernel
theorem dX1_becomeLike_12 : decode cX1_becomeLike 12 = .ok (.iconst 0, 1) := by decide +kernel
theorem dX1_becomeLike_13 : decode cX1_becomeLike 13 = .ok (.aload_n 0, 1) := by decide +kernel
theorem dX1_becomeLike_14 : decode cX1_becomeLike 14 = .ok (.getfield 15, 3) := by decide +kernel
theorem dX1_becomeLike_17 : decode cX1_becomeLike 17 = .ok (.iconst 0, 1) := by decide +kernel
theorem dX1_becomeLike_18 : decode cX1_becomeLike 18 = .ok (.iconst 5, 1) := by decide +kernel
theorem dX1_becomeLike_19 : decode cX1_becomeLike 19 = .ok (.invokestatic 25, 3) := by decide +kernel
theorem dX1_becomeLike_22 : decode cX1_becomeLike 22 = .ok (.aload_n 1, 1) := by decide +kernel
theorem dX1_becomeLike_23 : decode cX1_becomeLike 23 = .ok (.getfield 19, 3) := by decide +kernel
theorem dX1_becomeLike_26 : decode cX1_becomeLike 26 = .ok (.iconst 0, 1) := by decide +kernel
theorem dX1_becomeLike_27 : decode cX1_becomeLike 27 = .ok (.aload_n 0, 1) := by decide +kernel
theorem dX1_becomeLike_28 : decode cX1_becomeLike 28 = .ok (.getfield 19, 3) := by decide +kernel
theorem dX1_becomeLike_31 : decode cX1_becomeLike 31 = .ok (.iconst 0, 1) := by decide +kernel
theorem dX1_becomeLike_32 : decode cX1_becomeLike 32 = .ok (.iconst 5, 1) := by decide +kernel
theorem dX1_becomeLike_33 : decode cX1_becomeLike 33 = .ok (.invokestatic 25, 3) := by decide +kernel
theorem dX1_becomeLike_36 : decode cX1_becomeLike 36 = .ok (.aload_n 1, 1) := by decide +kernel
theorem dX1_becomeLike_37 : decode cX1_becomeLike 37 = .ok (.getfield 22, 3) := by decide +kernel
theorem dX1_becomeLike_40 : decode cX1_becomeLike 40 = .ok (.iconst 0, 1) := by decide +kernel
theorem dX1_becomeLike_41 : decode cX1_becomeLike 41 = .ok (.aload_n 0, 1) := by decide +kernel
theorem dX1_becomeLike_42 : decode cX1_becomeLike 42 = .ok (.getfield 22, 3) := by decide +kernel
theorem dX1_becomeLike_45 : decode cX1_becomeLike 45 = .ok (.iconst 0, 1) := by decide +kernel
theorem dX1_becomeLike_46 : decode cX1_becomeLike 46 = .ok (.iconst 5, 1) := by decide +kernel
theorem dX1_becomeLike_47 : decode cX1_becomeLike 47 = .ok (.invokestatic 25, 3) := by decide +kernel
theorem dX1_becomeLike_50 : decode cX1_becomeLike 50 = .ok (.return_, 1) := by decide +kernel
theorem dX1_has_0 : decode cX1_has 0 = .ok (.iload_n 1, 1) := by decide +kernel
theorem dX1_has_1 : decode cX1_has 1 = .ok (.ifCond .lt 20, 3) := by decide +kernel
theorem dX1_has_4 : decode cX1_has 4 = .ok (.iload_n 1, 1) := by decide +kernel
theorem dX1_has_5 : decode cX1_has 5 = .ok (.aload_n 0, 1) := by decide +kernel
theorem dX1_has_6 : decode cX1_has 6 = .ok (.getfield 9, 3) := by decide +kernel
theorem dX1_has_9 : decode cX1_has 9 = .ok (.if_icmp .ge 12, 3) := by decide +kernel
theorem dX1_has_12 : decode cX1_has 12 = .ok (.iload_n 1, 1) := by decide +kernel
theorem dX1_has_13 : decode cX1_has 13 = .ok (.iconst 5, 1) := by decide +kernel
theorem dX1_has_14 : decode cX1_has 14 = .ok (.if_icmp .ge 7, 3) := by decide +kernel
theorem dX1_has_17 : decode cX1_has 17 = .ok (.iconst 1, 1) := by decide +kernel
theorem dX1_has_18 : decode cX1_has 18 = .ok (.goto 4, 3) := by decide +kernel
theorem dX1_has_21 : decode cX1_has 21 = .ok (.iconst 0, 1) := by decide +kernel
theorem dX1_has_22 : decode cX1_has 22 = .ok (.ireturn, 1) := by decide +kernel
theorem dX1_add_0 : decode cX1_add 0 = .ok (.aload_n 0, 1) := by decide +kernel
theorem dX1_add_1 : decode cX1_add 1 = .ok (.getfield 9, 3) := by decide +kernel
theorem dX1_add_4 : decode cX1_add 4 = .ok (.iconst 5, 1) := by decide +kernel
theorem dX1_add_5 : decode cX1_add 5 = .ok (.if_icmp .lt 5, 3) := by decide +kernel
theorem dX1_add_8 : decode cX1_add 8 = .ok (.iconst (-1), 1) := by decide +kernel
theorem dX1_add_9 : decode cX1_add 9 = .ok (.ireturn, 1) := by decide +kernel
theorem dX1_add_10 : decode cX1_add 10 = .ok (.aload_n 0, 1) := by decide +kernel
theorem dX1_add_11 : decode cX1_add 11 = .ok (.getfield 15, 3) := by decide +kernel
theorem dX1_add_14 : decode cX1_add 14 = .ok (.aload_n 0, 1) := by decide +kernel
theorem dX1_add_15 : decode cX1_add 15 = .ok (.getfield 9, 3) := by decide +kernel
theorem dX1_add_18 : decode cX1_add 18 = .ok (.iload_n 1, 1) := by decide +kernel
theorem dX1_add_19 : decode cX1_add 19 = .ok (.iastore, 1) := by decide +kernel
theorem dX1_add_20 : decode cX1_add 20 = .ok (.aload_n 0, 1) := by decide +kernel
theorem dX1_add_21 : decode cX1_add 21 = .ok (.getfield 19, 3) := by decide +kernel
theorem dX1_add_24 : decode cX1_add 24 = .ok (.aload_n 0, 1) := by decide +kernel
theorem dX1_add_25 : decode cX1_add 25 = .ok (.getfield 9, 3) := by decide +kernel
theorem dX1_add_28 : decode cX1_add 28 = .ok (.iload_n 2, 1) := by decide +kernel
theorem dX1_add_29 : decode cX1_add 29 = .ok (.iastore, 1) := by decide +kernel
theorem dX1_add_30 : decode cX1_add 30 = .ok (.aload_n 0, 1) := by decide +kernel
theorem dX1_add_31 : decode cX1_add 31 = .ok (.getfield 22, 3) := by decide +kernel
theorem dX1_add_34 : decode cX1_add 34 = .ok (.aload_n 0, 1) := by decide +kernel
theorem dX1_add_35 : decode cX1_add 35 = .ok (.getfield 9, 3) := by decide +kernel
theorem dX1_add_38 : decode cX1_add 38 = .ok (.iconst 0, 1) := by decide +kernel
theorem dX1_add_39 : decode cX1_add 39 = .ok (.iastore, 1) := by decide +kernel
theorem dX1_add_40 : decode cX1_add 40 = .ok (.aload_n 0, 1) := by decide +kernel
theorem dX1_add_41 : decode cX1_add 41 = .ok (.dup, 1) := by decide +kernel
theorem dX1_add_42 : decode cX1_add 42 = .ok (.getfield 9, 3) := by decide +kernel
theorem dX1_add_45 : decode cX1_add 45 = .ok (.iconst 1, 1) := by decide +kernel
theorem dX1_add_46 : decode cX1_add 46 = .ok (.iadd, 1) := by decide +kernel
theorem dX1_add_47 : decode cX1_add 47 = .ok (.putfield 9, 3) := by decide +kernel
theorem dX1_add_50 : decode cX1_add 50 = .ok (.aload_n 0, 1) := by decide +kernel
theorem dX1_add_51 : decode cX1_add 51 = .ok (.getfield 9, 3) := by decide +kernel
theorem dX1_add_54 : decode cX1_add 54 = .ok (.iconst 1, 1) := by decide +kernel
theorem dX1_add_55 : decode cX1_add 55 = .ok (.isub, 1) := by decide +kernel
theorem dX1_add_56 : decode cX1_add 56 = .ok (.ireturn, 1) := by decide +kernel
set_option maxRecDepth 20000 in
theorem ggX1_markOf_X1_has : GoodIn wsX1_markOf wsX1_has := goodIn_r _ [6, 7, 8, 9, 10, 11] (by decide +kernel) (by decide +kernel)
set_option maxRecDepth 20000 in
theorem gX1_markOf_X1_has : GoodIn wsX1_markOf (wsV RX1 31 RX1 yX1_has wsX1_has) := goodIn_app (goodIn_of _ (by decide +kernel)) ggX1_markOf_X1_has
theorem dX1_markOf_0 : decode cX1_markOf 0 = .ok (.aload_n 0, 1) := by decide +kernel
theorem dX1_markOf_1 : decode cX1_markOf 1 = .ok (.iload_n 1, 1) := by decide +kernel
theorem dX1_markOf_2 : decode cX1_markOf 2 = .ok (.invokevirtual 31, 3) := by decide +kernel
theorem dX1_markOf_5 : decode cX1_markOf 5 = .ok (.ifCond .eq 12, 3) := by decide +kernel
theorem dX1_markOf_8 : decode cX1_markOf 8 = .ok (.aload_n 0, 1) := by decide +kernel
theorem dX1_markOf_9 : decode cX1_markOf 9 = .ok (.getfield 15, 3) := by decide +kernel
theorem dX1_markOf_12 : decode cX1_markOf 12 = .ok (.iload_n 1, 1) := by decide +kernel
theorem dX1_markOf_13 : decode cX1_markOf 13 = .ok (.iaload, 1) := by decide +kernel
theorem dX1_markOf_14 : decode cX1_markOf 14 = .ok (.goto 4, 3) := by decide +kernel
theorem dX1_markOf_17 : decode cX1_markOf 17 = .ok (.iconst 0, 1) := by decide +kernel
theorem dX1_markOf_18 : decode cX1_markOf 18 = .ok (.ireturn, 1) := by decide +kernel
set_option maxRecDepth 20000 in
theorem ggX1_sizeOf_X1_has : GoodIn wsX1_sizeOf wsX1_has := goodIn_r _ [6, 7, 8, 9, 10, 11] (by decide +kernel) (by decide +kernel)
set_option maxRecDepth 20000 in
theorem gX1_sizeOf_X1_has : GoodIn wsX1_sizeOf (wsV RX1 31 RX1 yX1_has wsX1_has) := goodIn_app (goodIn_of _ (by decide +kernel)) ggX1_sizeOf_X1_has
theorem dX1_sizeOf_0 : decode cX1_sizeOf 0 = .ok (.aload_n 0, 1) := by decide +kernel
theorem dX1_sizeOf_1 : decode cX1_sizeOf 1 = .ok (.iload_n 1, 1) := by decide +kernel
theorem dX1_sizeOf_2 : decode cX1_sizeOf 2 = .ok (.invokevirtual 31, 3) := by decide +kernel
theorem dX1_sizeOf_5 : decode cX1_sizeOf 5 = .ok (.ifCond .eq 12, 3) := by decide +kernel
theorem dX1_sizeOf_8 : decode cX1_sizeOf 8 = .ok (.aload_n 0, 1) := by decide +kernel
theorem dX1_sizeOf_9 : decode cX1_sizeOf 9 = .ok (.getfield 19, 3) := by decide +kernel
theorem dX1_sizeOf_12 : decode cX1_sizeOf 12 = .ok (.iload_n 1, 1) := by decide +kernel
theorem dX1_sizeOf_13 : decode cX1_sizeOf 13 = .ok (.iaload, 1) := by decide +kernel
theorem dX1_sizeOf_14 : decode cX1_sizeOf 14 = .ok (.goto 4, 3) := by decide +kernel
theorem dX1_sizeOf_17 : decode cX1_sizeOf 17 = .ok (.iconst 1, 1) := by decide +kernel
theorem dX1_sizeOf_18 : decode cX1_sizeOf 18 = .ok (.ireturn, 1) := by decide +kernel
set_option maxRecDepth 20000 in
theorem ggX1_wornOf_X1_has : GoodIn wsX1_wornOf wsX1_has := goodIn_r _ [6, 7, 8, 9, 10, 11] (by decide +kernel) (by decide +kernel)
set_option maxRecDepth 20000 in
theorem gX1_wornOf_X1_has : GoodIn wsX1_wornOf (wsV RX1 31 RX1 yX1_has wsX1_has) := goodIn_app (goodIn_of _ (by decide +kernel)) ggX1_wornOf_X1_has
theorem dX1_wornOf_0 : decode cX1_wornOf 0 = .ok (.aload_n 0, 1) := by decide +kernel
theorem dX1_wornOf_1 : decode cX1_wornOf 1 = .ok (.iload_n 1, 1) := by decide +kernel
theorem dX1_wornOf_2 : decode cX1_wornOf 2 = .ok (.invokevirtual 31, 3) := by decide +kernel
theorem dX1_wornOf_5 : decode cX1_wornOf 5 = .ok (.ifCond .eq 12, 3) := by decide +kernel
theorem dX1_wornOf_8 : decode cX1_wornOf 8 = .ok (.aload_n 0, 1) := by decide +kernel
theorem dX1_wornOf_9 : decode cX1_wornOf 9 = .ok (.getfield 22, 3) := by decide +kernel
theorem dX1_wornOf_12 : decode cX1_wornOf 12 = .ok (.iload_n 1, 1) := by decide +kernel
theorem dX1_wornOf_13 : decode cX1_wornOf 13 = .ok (.iaload, 1) := by decide +kernel
theorem dX1_wornOf_14 : decode cX1_wornOf 14 = .ok (.goto 4, 3) := by decide +kernel
theorem dX1_wornOf_17 : decode cX1_wornOf 17 = .ok (.iconst 0, 1) := by decide +kernel
theorem dX1_wornOf_18 : decode cX1_wornOf 18 = .ok (.ireturn, 1) := by decide +kernel
set_option maxRecDepth 20000 in
theorem ggX1_makeNew_X1_has : GoodIn wsX1_makeNew wsX1_has := goodIn_r _ [6, 7, 8, 9, 10, 11] (by decide +kernel) (by decide +kernel)
set_option maxRecDepth 20000 in
theorem gX1_makeNew_X1_has : GoodIn wsX1_makeNew (wsV RX1 31 RX1 yX1_has wsX1_has) := goodIn_app (goodIn_of _ (by decide +kernel)) ggX1_makeNew_X1_has
theorem dX1_makeNew_0 : decode cX1_makeNew 0 = .ok (.aload_n 0, 1) := by decide +kernel
theorem dX1_makeNew_1 : decode cX1_makeNew 1 = .ok (.iload_n 1, 1) := by decide +kernel
theorem dX1_makeNew_2 : decode cX1_makeNew 2 = .ok (.invokevirtual 31, 3) := by decide +kernel
theorem dX1_makeNew_5 : decode cX1_makeNew 5 = .ok (.ifCond .eq 10, 3) := by decide +kernel
theorem dX1_makeNew_8 : decode cX1_makeNew 8 = .ok (.aload_n 0, 1) := by decide +kernel
theorem dX1_makeNew_9 : decode cX1_makeNew 9 = .ok (.getfield 22, 3) := by decide +kernel
theorem dX1_makeNew_12 : decode cX1_makeNew 12 = .ok (.iload_n 1, 1) := by decide +kernel
theorem dX1_makeNew_13 : decode cX1_makeNew 13 = .ok (.iconst 0, 1) := by decide +kernel
theorem dX1_makeNew_14 : decode cX1_makeNew 14 = .ok (.iastore, 1) := by decide +kernel
theorem dX1_makeNew_15 : decode cX1_makeNew 15 = .ok (.return_, 1) := by decide +kernel
set_option maxRecDepth 20000 in
theorem ggX1_wearBySheets_X1_has : GoodIn wsX1_wearBySheets wsX1_has := goodIn_r _ [10, 11, 12, 13, 14, 15] (by decide +kernel) (by decide +kernel)
set_option maxRecDepth 20000 in
theorem gX1_wearBySheets_X1_has : GoodIn wsX1_wearBySheets (wsV RX1 31 RX1 yX1_has wsX1_has) := goodIn_app (goodIn_of _ (by decide +kernel)) ggX1_wearBySheets_X1_has
theorem dX1_wearBySheets_0 : decode cX1_wearBySheets 0 = .ok (.aload_n 0, 1) := by decide +kernel
theorem dX1_wearBySheets_1 : decode cX1_wearBySheets 1 = .ok (.iload_n 1, 1) := by decide +kernel
theorem dX1_wearBySheets_2 : decode cX1_wearBySheets 2 = .ok (.invokevirtual 31, 3) := by decide +kernel
theorem dX1_wearBySheets_5 : decode cX1_wearBySheets 5 = .ok (.ifCond .eq 26, 3) := by decide +kernel
theorem dX1_wearBySheets_8 : decode cX1_wearBySheets 8 = .ok (.aload_n 0, 1) := by decide +kernel
theorem dX1_wearBySheets_9 : decode cX1_wearBySheets 9 = .ok (.getfield 22, 3) := by decide +kernel
theorem dX1_wearBySheets_12 : decode cX1_wearBySheets 12 = .ok (.iload_n 1, 1) := by decide +kernel
theorem dX1_wearBySheets_13 : decode cX1_wearBySheets 13 = .ok (.bipush 50, 2) := by decide +kernel
theorem dX1_wearBySheets_15 : decode cX1_wearBySheets 15 = .ok (.aload_n 0, 1) := by decide +kernel
theorem dX1_wearBySheets_16 : decode cX1_wearBySheets 16 = .ok (.getfield 22, 3) := by decide +kernel
theorem dX1_wearBySheets_19 : decode cX1_wearBySheets 19 = .ok (.iload_n 1, 1) := by decide +kernel
theorem dX1_wearBySheets_20 : decode cX1_wearBySheets 20 = .ok (.iaload, 1) := by decide +kernel
theorem dX1_wearBySheets_21 : decode cX1_wearBySheets 21 = .ok (.iload_n 2, 1) := by decide +kernel
theorem dX1_wearBySheets_22 : decode cX1_wearBySheets 22 = .ok (.iconst 1, 1) := by decide +kernel
theorem dX1_wearBySheets_23 : decode cX1_wearBySheets 23 = .ok (.iadd, 1) := by decide +kernel
theorem dX1_wearBySheets_24 : decode cX1_wearBySheets 24 = .ok (.iconst 2, 1) := by decide +kernel
theorem dX1_wearBySheets_25 : decode cX1_wearBySheets 25 = .ok (.idiv, 1) := by decide +kernel
theorem dX1_wearBySheets_26 : decode cX1_wearBySheets 26 = .ok (.iadd, 1) := by decide +kernel
theorem dX1_wearBySheets_27 : decode cX1_wearBySheets 27 = .ok (.invokestatic 35, 3) := by decide +kernel
theorem dX1_wearBySheets_30 : decode cX1_wearBySheets 30 = .ok (.iastore, 1) := by decide +kernel
theorem dX1_wearBySheets_31 : decode cX1_wearBySheets 31 = .ok (.return_, 1) := by decide +kernel
theorem nmX2 : ∀ a, a < 5 → ∀ b, b < 5 → a ≠ b → (TX2 a).2.1 ≠ (TX2 b).2.1 := by decide +kernel
theorem tyX2_ok : ∀ k, k < 5 → parseFieldDescriptor (TX2 k).2.2.1 = some (tyX2 k) := by decide +kernel
theorem inlX2 : ∀ w ∈ wsX20, w ∈ wsL_law := fun _ h => List.mem_append_left _ (List.mem_append_left _ (List.mem_append_left _ (List.mem_append_left _ (List.mem_append_right _ h))))
theorem dX2_init_0 : decode cX2_init 0 = .ok (.aload_n 0, 1) := by decide +kernel
theorem dX2_init_1 : decode cX2_init 1 = .ok (.invokespecial 3, 3) := by decide +kernel
theorem dX2_init_4 : decode cX2_init 4 = .ok (.aload_n 0, 1) := by decide +kernel
theorem dX2_init_5 : decode cX2_init 5 = .ok (.iconst 0, 1) := by decide +kernel
theorem dX2_init_6 : decode cX2_init 6 = .ok (.putfield 9, 3) := by decide +kernel
theorem dX2_init_9 : decode cX2_init 9 = .ok (.aload_n 0, 1) := by decide +kernel
theorem dX2_init_10 : decode cX2_init 10 = .ok (.iconst 0, 1) := by decide +kernel
theorem dX2_init_11 : decode cX2_init 11 = .ok (.putfield 15, 3) := by decide +kernel
theorem dX2_init_14 : decode cX2_init 14 = .ok (.aload_n 0, 1) := by decide +kernel
theorem dX2_init_15 : decode cX2_init 15 = .ok (.bipush 90, 2) := by decide +kernel
theorem dX2_init_17 : decode cX2_init 17 = .ok (.newarray .int, 2) := by decide +kernel
theorem dX2_init_19 : decode cX2_init 19 = .ok (.putfield 18, 3) := by decide +kernel
theorem dX2_init_22 : decode cX2_init 22 = .ok (.aload_n 0, 1) := by decide +kernel
theorem dX2_init_23 : decode cX2_init 23 = .ok (.bipush 90, 2) := by decide +kernel
theorem dX2_init_25 : decode cX2_init 25 = .ok (.newarray .int, 2) := by decide +kernel
theorem dX2_init_27 : decode cX2_init 27 = .ok (.putfield 22, 3) := by decide +kernel
theorem dX2_init_30 : decode cX2_init 30 = .ok (.aload_n 0, 1) := by decide +kernel
theorem dX2_init_31 : decode cX2_init 31 = .ok (.bipush 90, 2) := by decide +kernel
theorem dX2_init_33 : decode cX2_init 33 = .ok (.newarray .int, 2) := by decide +kernel
theorem dX2_init_35 : decode cX2_init 35 = .ok (.putfield 25, 3) := by decide +kernel
theorem dX2_init_38 : decode cX2_init 38 = .ok (.return_, 1) := by decide +kernel
theorem dX2_becomeLike_0 : decode cX2_becomeLike 0 = .ok (.aload_n 0, 1) := by decide +kernel
theorem dX2_becomeLike_1 : decode cX2_becomeLike 1 = .ok (.aload_n 1, 1) := by decide +kernel
theorem dX2_becomeLike_2 : decode cX2_becomeLike 2 = .ok (.getfield 9, 3) := by decide +kernel
theorem dX2_becomeLike_5 : decode cX2_becomeLike 5 = .ok (.putfield 9, 3) := by decide +kernel
theorem dX2_becomeLike_8 : decode cX2_becomeLike 8 = .ok (.aload_n 0, 1) := by decide +kernel
theorem dX2_becomeLike_9 : decode cX2_becomeLike 9 = .ok (.aload_n 1, 1) := by decide +kernel
theorem dX2_becomeLike_10 : decode cX2_becomeLike 10 = .ok (.getfield 15, 3) := by decide +kernel
theorem dX2_becomeLike_13 : decode cX2_becomeLike 13 = .ok (.putfield 15, 3) := by decide +kernel
theorem dX2_becomeLike_16 : decode cX2_becomeLike 16 = .ok (.aload_n 1, 1) := by decide +kernel
theorem dX2_becomeLike_17 : decode cX2_becomeLike 17 = .ok (.getfield 18, 3) := by decide +kernel
theorem dX2_becomeLike_20 : decode cX2_becomeLike 20 = .ok (.iconst 0, 1) := by decide +kernel
theorem dX2_becomeLike_21 : decode cX2_becomeLike 21 = .ok (.aload_n 0, 1) := by decide +kernel
theorem dX2_becomeLike_22 : decode cX2_becomeLike 22 = .ok (.getfield 18, 3) := by decide +kernel
theorem dX2_becomeLike_25 : decode cX2_becomeLike 25 = .ok (.iconst 0, 1) := by decide +kernel
theorem dX2_becomeLike_26 : decode cX2_becomeLike 26 = .ok (.bipush 90, 2) := by decide +kernel
theorem dX2_becomeLike_28 : decode cX2_becomeLike 28 = .ok (.invokestatic 28, 3) := by decide +kernel
theorem dX2_becomeLike_31 : decode cX2_becomeLike 31 = .ok (.aload_n 1, 1) := by decide +kernel
theorem dX2_becomeLike_32 : decode cX2_becomeLike 32 = .ok (.getfield 22, 3) := by decide +kernel
theorem dX2_becomeLike_35 : decode cX2_becomeLike 35 = .ok (.iconst 0, 1) := by decide +kernel
theorem dX2_becomeLike_36 : decode cX2_becomeLike 36 = .ok (.aload_n 0, 1) := by decide +kernel
theorem dX2_becomeLike_37 : decode cX2_becomeLike 37 = .ok (.getfield 22, 3) := by decide +kernel
theorem dX2_becomeLike_40 : decode cX2_becomeLike 40 = .ok (.iconst 0, 1) := by decide +kernel
theorem dX2_becomeLike_41 : decode cX2_becomeLike 41 = .ok (.bipush 90, 2) := by decide +kernel
theorem dX2_becomeLike_43 : decode cX2_becomeLike 43 = .ok (.invokestatic 28, 3) := by decide +kernel
theorem dX2_becomeLike_46 : decode cX2_becomeLike 46 = .ok (.aload_n 1, 1) := by decide +kernel
theorem dX2_becomeLike_47 : decode cX2_becomeLike 47 = .ok (.getfield 25, 3) := by decide +kernel
theorem dX2_becomeLike_50 : decode cX2_becomeLike 50 = .ok (.iconst 0, 1) := by decide +kernel
theorem dX2_becomeLike_51 : decode cX2_becomeLike 51 = .ok (.aload_n 0, 1) := by decide +kernel
theorem dX2_becomeLike_52 : decode cX2_becomeLike 52 = .ok (.getfield 25, 3) := by decide +kernel
theorem dX2_becomeLike_55 : decode cX2_becomeLike 55 = .ok (.iconst 0, 1) := by decide +kernel
theorem dX2_becomeLike_56 : decode cX2_becomeLike 56 = .ok (.bipush 90, 2) := by decide +kernel
theorem dX2_becomeLike_58 : decode cX2_becomeLike 58 = .ok (.invokestatic 28, 3) := by decide +kernel
theorem dX2_becomeLike_61 : decode cX2_becomeLike 61 = .ok (.return_, 1) := by decide +kernel
theorem dX2_has_0 : decode cX2_has 0 = .ok (.iload_n 1, 1) := by decide +kernel
theorem dX2_has_1 : decode cX2_has 1 = .ok (.ifCond .lt 21, 3) := by decide +kernel
theorem dX2_has_4 : decode cX2_has 4 = .ok (.iload_n 1, 1) := by decide +kernel
theorem dX2_has_5 : decode cX2_has 5 = .ok (.aload_n 0, 1) := by decide +kernel
theorem dX2_has_6 : decode cX2_has 6 = .ok (.getfield 9, 3) := by decide +kernel
theorem dX2_has_9 : decode cX2_has 9 = .ok (.if_icmp .ge 13, 3) := by decide +kernel
theorem dX2_has_12 : decode cX2_has 12 = .ok (.iload_n 1, 1) := by decide +kernel
theorem dX2_has_13 : decode cX2_has 13 = .ok (.bipush 90, 2) := by decide +kernel
theorem dX2_has_15 : decode cX2_has 15 = .ok (.if_icmp .ge 7, 3) := by decide +kernel
theorem dX2_has_18 : decode cX2_has 18 = .ok (.iconst 1, 1) := by decide +kernel
theorem dX2_has_19 : decode cX2_has 19 = .ok (.goto 4, 3) := by decide +kernel
theorem dX2_has_22 : decode cX2_has 22 = .ok (.iconst 0, 1) := by decide +kernel
theorem dX2_has_23 : decode cX2_has 23 = .ok (.ireturn, 1) := by decide +kernel
theorem dX2_add_0 : decode cX2_add 0 = .ok (.aload_n 0, 1) := by decide +kernel
theorem dX2_add_1 : decode cX2_add 1 = .ok (.getfield 9, 3) := by decide +kernel
theorem dX2_add_4 : decode cX2_add 4 = .ok (.bipush 90, 2) := by decide +kernel
theorem dX2_add_6 : decode cX2_add 6 = .ok (.if_icmp .ge 53, 3) := by decide +kernel
theorem dX2_add_9 : decode cX2_add 9 = .ok (.aload_n 0, 1) := by decide +kernel
theorem dX2_add_10 : decode cX2_add 10 = .ok (.getfield 18, 3) := by decide +kernel
theorem dX2_add_13 : decode cX2_add 13 = .ok (.aload_n 0, 1) := by decide +kernel
theorem dX2_add_14 : decode cX2_add 14 = .ok (.getfield 9, 3) := by decide +kernel
theorem dX2_add_17 : decode cX2_add 17 = .ok (.iload_n 1, 1) := by decide +kernel
theorem dX2_add_18 : decode cX2_add 18 = .ok (.iastore, 1) := by decide +kernel
theorem dX2_add_19 : decode cX2_add 19 = .ok (.aload_n 0, 1) := by decide +kernel
theorem dX2_add_20 : decode cX2_add 20 = .ok (.getfield 22, 3) := by decide +kernel
theorem dX2_add_23 : decode cX2_add 23 = .ok (.aload_n 0, 1) := by decide +kernel
theorem dX2_add_24 : decode cX2_add 24 = .ok (.getfield 9, 3) := by decide +kernel
theorem dX2_add_27 : decode cX2_add 27 = .ok (.iload_n 2, 1) := by decide +kernel
theorem dX2_add_28 : decode cX2_add 28 = .ok (.iastore, 1) := by decide +kernel
theorem dX2_add_29 : decode cX2_add 29 = .ok (.aload_n 0, 1) := by decide +kernel
theorem dX2_add_30 : decode cX2_add 30 = .ok (.getfield 25, 3) := by decide +kernel
theorem dX2_add_33 : decode cX2_add 33 = .ok (.aload_n 0, 1) := by decide +kernel
theorem dX2_add_34 : decode cX2_add 34 = .ok (.getfield 9, 3) := by decide +kernel
theorem dX2_add_37 : decode cX2_add 37 = .ok (.iload_n 3, 1) := by decide +kernel
theorem dX2_add_38 : decode cX2_add 38 = .ok (.iastore, 1) := by decide +kernel
theorem dX2_add_39 : decode cX2_add 39 = .ok (.aload_n 0, 1) := by decide +kernel
theorem dX2_add_40 : decode cX2_add 40 = .ok (.dup, 1) := by decide +kernel
theorem dX2_add_41 : decode cX2_add 41 = .ok (.getfield 9, 3) := by decide +kernel
theorem dX2_add_44 : decode cX2_add 44 = .ok (.iconst 1, 1) := by decide +kernel
theorem dX2_add_45 : decode cX2_add 45 = .ok (.iadd, 1) := by decide +kernel
theorem dX2_add_46 : decode cX2_add 46 = .ok (.putfield 9, 3) := by decide +kernel
theorem dX2_add_49 : decode cX2_add 49 = .ok (.aload_n 0, 1) := by decide +kernel
theorem dX2_add_50 : decode cX2_add 50 = .ok (.dup, 1) := by decide +kernel
theorem dX2_add_51 : decode cX2_add 51 = .ok (.getfield 15, 3) := by decide +kernel
theorem dX2_add_54 : decode cX2_add 54 = .ok (.iload_n 3, 1) := by decide +kernel
theorem dX2_add_55 : decode cX2_add 55 = .ok (.iadd, 1) := by decide +kernel
theorem dX2_add_56 : decode cX2_add 56 = .ok (.putfield 15, 3) := by decide +kernel
theorem dX2_add_59 : decode cX2_add 59 = .ok (.return_, 1) := by decide +kernel
set_option maxRecDepth 20000 in
theorem ggX2_tell_X2_markOf : GoodIn wsX2_tell wsX2_markOf := goodIn_r _ [5, 6, 7, 8, 9, 4, 10, 11, 22, 23, 24, 25, 26] (by decide +kernel) (by decide +kernel)
set_option maxRecDepth 20000 in
theorem gX2_tell_X2_markOf : GoodIn wsX2_tell (wsV RX2 34 RX2 yX2_markOf wsX2_markOf) := goodIn_app (goodIn_of _ (by decide +kernel)) ggX2_tell_X2_markOf
set_option maxRecDepth 20000 in
theorem ggX2_tell_X2_gradeOf : GoodIn wsX2_tell wsX2_gradeOf := goodIn_r _ [15, 16, 7, 8, 9, 4, 10, 11, 22, 23, 24, 25, 26] (by decide +kernel) (by decide +kernel)
set_option maxRecDepth 20000 in
theorem gX2_tell_X2_gradeOf : GoodIn wsX2_tell (wsV RX2 38 RX2 yX2_gradeOf wsX2_gradeOf) := goodIn_app (goodIn_of _ (by decide +kernel)) ggX2_tell_X2_gradeOf
set_option maxRecDepth 20000 in
theorem ggX2_tell_X2_sheetsOf : GoodIn wsX2_tell wsX2_sheetsOf := goodIn_r _ [20, 21, 7, 8, 9, 4, 10, 11, 22, 23, 24, 25, 26] (by decide +kernel) (by decide +kernel)
set_option maxRecDepth 20000 in
theorem gX2_tell_X2_sheetsOf : GoodIn wsX2_tell (wsV RX2 41 RX2 yX2_sheetsOf wsX2_sheetsOf) := goodIn_app (goodIn_of _ (by decide +kernel)) ggX2_tell_X2_sheetsOf
theorem dX2_tell_0 : decode cX2_tell 0 = .ok (.iload_n 2, 1) := by decide +kernel
theorem dX2_tell_1 : decode cX2_tell 1 = .ok (.lookupswitch 39 #[(0, 27), (1, 33)], 27) := by decide +kernel
theorem dX2_tell_28 : decode cX2_tell 28 = .ok (.aload_n 0, 1) := by decide +kernel
theorem dX2_tell_29 : decode cX2_tell 29 = .ok (.iload_n 1, 1) := by decide +kernel
theorem dX2_tell_30 : decode cX2_tell 30 = .ok (.invokevirtual 34, 3) := by decide +kernel
theorem dX2_tell_33 : decode cX2_tell 33 = .ok (.ireturn, 1) := by decide +kernel
theorem dX2_tell_34 : decode cX2_tell 34 = .ok (.aload_n 0, 1) := by decide +kernel
theorem dX2_tell_35 : decode cX2_tell 35 = .ok (.iload_n 1, 1) := by decide +kernel
theorem dX2_tell_36 : decode cX2_tell 36 = .ok (.invokevirtual 38, 3) := by decide +kernel
theorem dX2_tell_39 : decode cX2_tell 39 = .ok (.ireturn, 1) := by decide +kernel
theorem dX2_tell_40 : decode cX2_tell 40 = .ok (.aload_n 0, 1) := by decide +kernel
theorem dX2_tell_41 : decode cX2_tell 41 = .ok (.iload_n 1, 1) := by decide +kernel
theorem dX2_tell_42 : decode cX2_tell 42 = .ok (.invokevirtual 41, 3) := by decide +kernel
theorem dX2_tell_45 : decode cX2_tell 45 = .ok (.ireturn, 1) := by decide +kernel
set_option maxRecDepth 20000 in
theorem ggX2_markOf_X2_has : GoodIn wsX2_markOf wsX2_has := goodIn_r _ [6, 7, 8, 9, 10, 11, 12] (by decide +kernel) (by decide +kernel)
set_option maxRecDepth 20000 in
theorem gX2_markOf_X2_has : GoodIn wsX2_markOf (wsV RX2 44 RX2 yX2_has wsX2_has) := goodIn_app (goodIn_of _ (by decide +kernel)) ggX2_markOf_X2_has
theorem dX2_markOf_0 : decode cX2_markOf 0 = .ok (.aload_n 0, 1) := by decide +kernel
theorem dX2_markOf_1 : decode cX2_markOf 1 = .ok (.iload_n 1, 1) := by decide +kernel
theorem dX2_markOf_2 : decode cX2_markOf 2 = .ok (.invokevirtual 44, 3) := by decide +kernel
theorem dX2_markOf_5 : decode cX2_markOf 5 = .ok (.ifCond .eq 12, 3) := by decide +kernel
theorem dX2_markOf_8 : decode cX2_markOf 8 = .ok (.aload_n 0, 1) := by decide +kernel
theorem dX2_markOf_9 : decode cX2_markOf 9 = .ok (.getfield 18, 3) := by decide +kernel
theorem dX2_markOf_12 : decode cX2_markOf 12 = .ok (.iload_n 1, 1) := by decide +kernel
theorem dX2_markOf_13 : decode cX2_markOf 13 = .ok (.iaload, 1) := by decide +kernel
theorem dX2_markOf_14 : decode cX2_markOf 14 = .ok (.goto 4, 3) := by decide +kernel
theorem dX2_markOf_17 : decode cX2_markOf 17 = .ok (.iconst 0, 1) := by decide +kernel
theorem dX2_markOf_18 : decode cX2_markOf 18 = .ok (.ireturn, 1) := by decide +kernel
set_option maxRecDepth 20000 in
theorem ggX2_gradeOf_X2_has : GoodIn wsX2_gradeOf wsX2_has := goodIn_r _ [6, 7, 8, 9, 10, 11, 12] (by decide +kernel) (by decide +kernel)
set_option maxRecDepth 20000 in
theorem gX2_gradeOf_X2_has : GoodIn wsX2_gradeOf (wsV RX2 44 RX2 yX2_has wsX2_has) := goodIn_app (goodIn_of _ (by decide +kernel)) ggX2_gradeOf_X2_has
theorem dX2_gradeOf_0 : decode cX2_gradeOf 0 = .ok (.aload_n 0, 1) := by decide +kernel
theorem dX2_gradeOf_1 : decode cX2_gradeOf 1 = .ok (.iload_n 1, 1) := by decide +kernel
theorem dX2_gradeOf_2 : decode cX2_gradeOf 2 = .ok (.invokevirtual 44, 3) := by decide +kernel
theorem dX2_gradeOf_5 : decode cX2_gradeOf 5 = .ok (.ifCond .eq 12, 3) := by decide +kernel
theorem dX2_gradeOf_8 : decode cX2_gradeOf 8 = .ok (.aload_n 0, 1) := by decide +kernel
theorem dX2_gradeOf_9 : decode cX2_gradeOf 9 = .ok (.getfield 22, 3) := by decide +kernel
theorem dX2_gradeOf_12 : decode cX2_gradeOf 12 = .ok (.iload_n 1, 1) := by decide +kernel
theorem dX2_gradeOf_13 : decode cX2_gradeOf 13 = .ok (.iaload, 1) := by decide +kernel
theorem dX2_gradeOf_14 : decode cX2_gradeOf 14 = .ok (.goto 4, 3) := by decide +kernel
theorem dX2_gradeOf_17 : decode cX2_gradeOf 17 = .ok (.iconst 0, 1) := by decide +kernel
theorem dX2_gradeOf_18 : decode cX2_gradeOf 18 = .ok (.ireturn, 1) := by decide +kernel
set_option maxRecDepth 20000 in
theorem ggX2_sheetsOf_X2_has : GoodIn wsX2_sheetsOf wsX2_has := goodIn_r _ [6, 7, 8, 9, 10, 11, 12] (by decide +kernel) (by decide +kernel)
set_option maxRecDepth 20000 in
theorem gX2_sheetsOf_X2_has : GoodIn wsX2_sheetsOf (wsV RX2 44 RX2 yX2_has wsX2_has) := goodIn_app (goodIn_of _ (by decide +kernel)) ggX2_sheetsOf_X2_has
theorem dX2_sheetsOf_0 : decode cX2_sheetsOf 0 = .ok (.aload_n 0, 1) := by decide +kernel
theorem dX2_sheetsOf_1 : decode cX2_sheetsOf 1 = .ok (.iload_n 1, 1) := by decide +kernel
theorem dX2_sheetsOf_2 : decode cX2_sheetsOf 2 = .ok (.invokevirtual 44, 3) := by decide +kernel
theorem dX2_sheetsOf_5 : decode cX2_sheetsOf 5 = .ok (.ifCond .eq 12, 3) := by decide +kernel
theorem dX2_sheetsOf_8 : decode cX2_sheetsOf 8 = .ok (.aload_n 0, 1) := by decide +kernel
theorem dX2_sheetsOf_9 : decode cX2_sheetsOf 9 = .ok (.getfield 25, 3) := by decide +kernel
theorem dX2_sheetsOf_12 : decode cX2_sheetsOf 12 = .ok (.iload_n 1, 1) := by decide +kernel
theorem dX2_sheetsOf_13 : decode cX2_sheetsOf 13 = .ok (.iaload, 1) := by decide +kernel
theorem dX2_sheetsOf_14 : decode cX2_sheetsOf 14 = .ok (.goto 4, 3) := by decide +kernel
theorem dX2_sheetsOf_17 : decode cX2_sheetsOf 17 = .ok (.iconst 0, 1) := by decide +kernel
theorem dX2_sheetsOf_18 : decode cX2_sheetsOf 18 = .ok (.ireturn, 1) := by decide +kernel
set_option maxRecDepth 20000 in
theorem ggX2_takeOff_X2_has : GoodIn wsX2_takeOff wsX2_has := goodIn_r _ [7, 8, 9, 10, 11, 12, 13] (by decide +kernel) (by decide +kernel)
set_option maxRecDepth 20000 in
theorem gX2_takeOff_X2_has : GoodIn wsX2_takeOff (wsV RX2 44 RX2 yX2_has wsX2_has) := goodIn_app (goodIn_of _ (by decide +kernel)) ggX2_takeOff_X2_has
theorem dX2_takeOff_0 : decode cX2_takeOff 0 = .ok (.aload_n 0, 1) := by decide +kernel
theorem dX2_takeOff_1 : decode cX2_takeOff 1 = .ok (.iload_n 1, 1) := by decide +kernel
theorem dX2_takeOff_2 : decode cX2_takeOff 2 = .ok (.invokevirtual 44, 3) := by decide +kernel
theorem dX2_takeOff_5 : decode cX2_takeOff 5 = .ok (.ifCond .eq 23, 3) := by decide +kernel
theorem dX2_takeOff_8 : decode cX2_takeOff 8 = .ok (.aload_n 0, 1) := by decide +kernel
theorem dX2_takeOff_9 : decode cX2_takeOff 9 = .ok (.getfield 25, 3) := by decide +kernel
theorem dX2_takeOff_12 : decode cX2_takeOff 12 = .ok (.iload_n 1, 1) := by decide +kernel
theorem dX2_takeOff_13 : decode cX2_takeOff 13 = .ok (.dup2, 1) := by decide +kernel
theorem dX2_takeOff_14 : decode cX2_takeOff 14 = .ok (.iaload, 1) := by decide +kernel
theorem dX2_takeOff_15 : decode cX2_takeOff 15 = .ok (.iload_n 2, 1) := by decide +kernel
theorem dX2_takeOff_16 : decode cX2_takeOff 16 = .ok (.isub, 1) := by decide +kernel
theorem dX2_takeOff_17 : decode cX2_takeOff 17 = .ok (.iastore, 1) := by decide +kernel
theorem dX2_takeOff_18 : decode cX2_takeOff 18 = .ok (.aload_n 0, 1) := by decide +kernel
theorem dX2_takeOff_19 : decode cX2_takeOff 19 = .ok (.dup, 1) := by decide +kernel
theorem dX2_takeOff_20 : decode cX2_takeOff 20 = .ok (.getfield 15, 3) := by decide +kernel
theorem dX2_takeOff_23 : decode cX2_takeOff 23 = .ok (.iload_n 2, 1) := by decide +kernel
theorem dX2_takeOff_24 : decode cX2_takeOff 24 = .ok (.isub, 1) := by decide +kernel
theorem dX2_takeOff_25 : decode cX2_takeOff 25 = .ok (.putfield 15, 3) := by decide +kernel
theorem dX2_takeOff_28 : decode cX2_takeOff 28 = .ok (.return_, 1) := by decide +kernel
theorem dX2_dropEmptyOnes_0 : decode cX2_dropEmptyOnes 0 = .ok (.iconst 0, 1) := by decide +kernel
theorem dX2_dropEmptyOnes_1 : decode cX2_dropEmptyOnes 1 = .ok (.istore_n 1, 1) := by decide +kernel
theorem dX2_dropEmptyOnes_2 : decode cX2_dropEmptyOnes 2 = .ok (.iconst 0, 1) := by decide +kernel
theorem dX2_dropEmptyOnes_3 : decode cX2_dropEmptyOnes 3 = .ok (.istore_n 2, 1) := by decide +kernel
theorem dX2_dropEmptyOnes_4 : decode cX2_dropEmptyOnes 4 = .ok (.iload_n 2, 1) := by decide +kernel
theorem dX2_dropEmptyOnes_5 : decode cX2_dropEmptyOnes 5 = .ok (.aload_n 0, 1) := by decide +kernel
theorem dX2_dropEmptyOnes_6 : decode cX2_dropEmptyOnes 6 = .ok (.getfield 9, 3) := by decide +kernel
theorem dX2_dropEmptyOnes_9 : decode cX2_dropEmptyOnes 9 = .ok (.if_icmp .ge 63, 3) := by decide +kernel
theorem dX2_dropEmptyOnes_12 : decode cX2_dropEmptyOnes 12 = .ok (.iload_n 2, 1) := by decide +kernel
theorem dX2_dropEmptyOnes_13 : decode cX2_dropEmptyOnes 13 = .ok (.bipush 90, 2) := by decide +kernel
theorem dX2_dropEmptyOnes_15 : decode cX2_dropEmptyOnes 15 = .ok (.if_icmp .ge 57, 3) := by decide +kernel
theorem dX2_dropEmptyOnes_18 : decode cX2_dropEmptyOnes 18 = .ok (.aload_n 0, 1) := by decide +kernel
theorem dX2_dropEmptyOnes_19 : decode cX2_dropEmptyOnes 19 = .ok (.getfield 25, 3) := by decide +kernel
theorem dX2_dropEmptyOnes_22 : decode cX2_dropEmptyOnes 22 = .ok (.iload_n 2, 1) := by decide +kernel
theorem dX2_dropEmptyOnes_23 : decode cX2_dropEmptyOnes 23 = .ok (.iaload, 1) := by decide +kernel
theorem dX2_dropEmptyOnes_24 : decode cX2_dropEmptyOnes 24 = .ok (.ifCond .le 42, 3) := by decide +kernel
theorem dX2_dropEmptyOnes_27 : decode cX2_dropEmptyOnes 27 = .ok (.aload_n 0, 1) := by decide +kernel
theorem dX2_dropEmptyOnes_28 : decode cX2_dropEmptyOnes 28 = .ok (.getfield 18, 3) := by decide +kernel
theorem dX2_dropEmptyOnes_31 : decode cX2_dropEmptyOnes 31 = .ok (.iload_n 1, 1) := by decide +kernel
theorem dX2_dropEmptyOnes_32 : decode cX2_dropEmptyOnes 32 = .ok (.aload_n 0, 1) := by decide +kernel
theorem dX2_dropEmptyOnes_33 : decode cX2_dropEmptyOnes 33 = .ok (.getfield 18, 3) := by decide +kernel
theorem dX2_dropEmptyOnes_36 : decode cX2_dropEmptyOnes 36 = .ok (.iload_n 2, 1) := by decide +kernel
theorem dX2_dropEmptyOnes_37 : decode cX2_dropEmptyOnes 37 = .ok (.iaload, 1) := by decide +kernel
theorem dX2_dropEmptyOnes_38 : decode cX2_dropEmptyOnes 38 = .ok (.iastore, 1) := by decide +kernel
theorem dX2_dropEmptyOnes_39 : decode cX2_dropEmptyOnes 39 = .ok (.aload_n 0, 1) := by decide +kernel
theorem dX2_dropEmptyOnes_40 : decode cX2_dropEmptyOnes 40 = .ok (.getfield 22, 3) := by decide +kernel
theorem dX2_dropEmptyOnes_43 : decode cX2_dropEmptyOnes 43 = .ok (.iload_n 1, 1) := by decide +kernel
theorem dX2_dropEmptyOnes_44 : decode cX2_dropEmptyOnes 44 = .ok (.aload_n 0, 1) := by decide +kernel
theorem dX2_dropEmptyOnes_45 : decode cX2_dropEmptyOnes 45 = .ok (.getfield 22, 3) := by decide +kernel
theorem dX2_dropEmptyOnes_48 : decode cX2_dropEmptyOnes 48 = .ok (.iload_n 2, 1) := by decide +kernel
theorem dX2_dropEmptyOnes_49 : decode cX2_dropEmptyOnes 49 = .ok (.iaload, 1) := by decide +kernel
theorem dX2_dropEmptyOnes_50 : decode cX2_dropEmptyOnes 50 = .ok (.iastore, 1) := by decide +kernel
theorem dX2_dropEmptyOnes_51 : decode cX2_dropEmptyOnes 51 = .ok (.aload_n 0, 1) := by decide +kernel
theorem dX2_dropEmptyOnes_52 : decode cX2_dropEmptyOnes 52 = .ok (.getfield 25, 3) := by decide +kernel
theorem dX2_dropEmptyOnes_55 : decode cX2_dropEmptyOnes 55 = .ok (.iload_n 1, 1) := by decide +kernel
theorem dX2_dropEmptyOnes_56 : decode cX2_dropEmptyOnes 56 = .ok (.aload_n 0, 1) := by decide +kernel
theorem dX2_dropEmptyOnes_57 : decode cX2_dropEmptyOnes 57 = .ok (.getfield 25, 3) := by decide +kernel
theorem dX2_dropEmptyOnes_60 : decode cX2_dropEmptyOnes 60 = .ok (.iload_n 2, 1) := by decide +kernel
theorem dX2_dropEmptyOnes_61 : decode cX2_dropEmptyOnes 61 = .ok (.iaload, 1) := by decide +kernel
theorem dX2_dropEmptyOnes_62 : decode cX2_dropEmptyOnes 62 = .ok (.iastore, 1) := by decide +kernel
theorem dX2_dropEmptyOnes_63 : decode cX2_dropEmptyOnes 63 = .ok (.iinc 1 1, 3) := by decide +kernel
theorem dX2_dropEmptyOnes_66 : decode cX2_dropEmptyOnes 66 = .ok (.iinc 2 1, 3) := by decide +kernel
theorem dX2_dropEmptyOnes_69 : decode cX2_dropEmptyOnes 69 = .ok (.goto (-65), 3) := by decide +kernel
theorem dX2_dropEmptyOnes_72 : decode cX2_dropEmptyOnes 72 = .ok (.aload_n 0, 1) := by decide +kernel
theorem dX2_dropEmptyOnes_73 : decode cX2_dropEmptyOnes 73 = .ok (.iload_n 1, 1) := by decide +kernel
theorem dX2_dropEmptyOnes_74 : decode cX2_dropEmptyOnes 74 = .ok (.putfield 9, 3) := by decide +kernel
theorem dX2_dropEmptyOnes_77 : decode cX2_dropEmptyOnes 77 = .ok (.return_, 1) := by decide +kernel
theorem nmX3 : ∀ a, a < 4 → ∀ b, b < 4 → a ≠ b → (TX3 a).2.1 ≠ (TX3 b).2.1 := by decide +kernel
theorem tyX3_ok : ∀ k, k < 4 → parseFieldDescriptor (TX3 k).2.2.1 = some (tyX3 k) := by decide +kernel
theorem inlX3 : ∀ w ∈ wsX30, w ∈ wsL_law := fun _ h => List.mem_append_left _ (List.mem_append_left _ (List.mem_append_left _ (List.mem_append_left _ (List.mem_append_left _ (List.mem_append_right _ h)))))
theorem dX3_init_0 : decode cX3_init 0 = .ok (.aload_n 0, 1) := by decide +kernel
theorem dX3_init_1 : decode cX3_init 1 = .ok (.invokespecial 3, 3) := by decide +kernel
theorem dX3_init_4 : decode cX3_init 4 = .ok (.aload_n 0, 1) := by decide +kernel
theorem dX3_init_5 : decode cX3_init 5 = .ok (.iconst 0, 1) := by decide +kernel
theorem dX3_init_6 : decode cX3_init 6 = .ok (.putfield 9, 3) := by decide +kernel
theorem dX3_init_9 : decode cX3_init 9 = .ok (.aload_n 0, 1) := by decide +kernel
theorem dX3_init_10 : decode cX3_init 10 = .ok (.iconst 3, 1) := by decide +kernel
theorem dX3_init_11 : decode cX3_init 11 = .ok (.newarray .int, 2) := by decide +kernel
theorem dX3_init_13 : decode cX3_init 13 = .ok (.putfield 15, 3) := by decide +kernel
theorem dX3_init_16 : decode cX3_init 16 = .ok (.aload_n 0, 1) := by decide +kernel
theorem dX3_init_17 : decode cX3_init 17 = .ok (.iconst 3, 1) := by decide +kernel
theorem dX3_init_18 : decode cX3_init 18 = .ok (.newarray .int, 2) := by decide +kernel
theorem dX3_init_20 : decode cX3_init 20 = .ok (.putfield 19, 3) := by decide +kernel
theorem dX3_init_23 : decode cX3_init 23 = .ok (.aload_n 0, 1) := by decide +kernel
theorem dX3_init_24 : decode cX3_init 24 = .ok (.iconst 3, 1) := by decide +kernel
theorem dX3_init_25 : decode cX3_init 25 = .ok (.newarray .int, 2) := by decide +kernel
theorem dX3_init_27 : decode cX3_init 27 = .ok (.putfield 22, 3) := by decide +kernel
theorem dX3_init_30 : decode cX3_init 30 = .ok (.return_, 1) := by decide +kernel
theorem dX3_becomeLike_0 : decode cX3_becomeLike 0 = .ok (.aload_n 0, 1) := by decide +kernel
theorem dX3_becomeLike_1 : decode cX3_becomeLike 1 = .ok (.aload_n 1, 1) := by decide +kernel
theorem dX3_becomeLike_2 : decode cX3_becomeLike 2 = .ok (.getfield 9, 3) := by decide +kernel
theorem dX3_becomeLike_5 : decode cX3_becomeLike 5 = .ok (.putfield 9, 3) := by decide +kernel
theorem dX3_becomeLike_8 : decode cX3_becomeLike 8 = .ok (.aload_n 1, 1) := by decide +kernel
theorem dX3_becomeLike_9 : decode cX3_becomeLike 9 = .ok (.getfield 15, 3) := by decide +kernel
theorem dX3_becomeLike_12 : decode cX3_becomeLike 12 = .ok (.iconst 0, 1) := by decide +kernel
theorem dX3_becomeLike_13 : decode cX3_becomeLike 13 = .ok (.aload_n 0, 1) := by decide +kernel
theorem dX3_becomeLike_14 : decode cX3_becomeLike 14 = .ok (.getfield 15, 3) := by decide +kernel
theorem dX3_becomeLike_17 : decode cX3_becomeLike 17 = .ok (.iconst 0, 1) := by decide +kernel
theorem dX3_becomeLike_18 : decode cX3_becomeLike 18 = .ok (.iconst 3, 1) := by decide +kernel
theorem dX3_becomeLike_19 : decode cX3_becomeLike 19 = .ok (.invokestatic 25, 3) := by decide +kernel
theorem dX3_becomeLike_22 : decode cX3_becomeLike 22 = .ok (.aload_n 1, 1) := by decide +kernel
theorem dX3_becomeLike_23 : decode cX3_becomeLike 23 = .ok (.getfield 19, 3) := by decide +kernel
theorem dX3_becomeLike_26 : decode cX3_becomeLike 26 = .ok (.iconst 0, 1) := by decide +kernel
theorem dX3_becomeLike_27 : decode cX3_becomeLike 27 = .ok (.aload_n 0, 1) := by decide +kernel
theorem dX3_becomeLike_28 : decode cX3_becomeLike 28 = .ok (.getfield 19, 3) := by decide +kernel
theorem dX3_becomeLike_31 : decode cX3_becomeLike 31 = .ok (.iconst 0, 1) := by decide +kernel
theorem dX3_becomeLike_32 : decode cX3_becomeLike 32 = .ok (.iconst 3, 1) := by decide +kernel
theorem dX3_becomeLike_33 : decode cX3_becomeLike 33 = .ok (.invokestatic 25, 3) := by decide +kernel
theorem dX3_becomeLike_36 : decode cX3_becomeLike 36 = .ok (.aload_n 1, 1) := by decide +kernel
theorem dX3_becomeLike_37 : decode cX3_becomeLike 37 = .ok (.getfield 22, 3) := by decide +kernel
theorem dX3_becomeLike_40 : decode cX3_becomeLike 40 = .ok (.iconst 0, 1) := by decide +kernel
theorem dX3_becomeLike_41 : decode cX3_becomeLike 41 = .ok (.aload_n 0, 1) := by decide +kernel
theorem dX3_becomeLike_42 : decode cX3_becomeLike 42 = .ok (.getfield 22, 3) := by decide +kernel
theorem dX3_becomeLike_45 : decode cX3_becomeLike 45 = .ok (.iconst 0, 1) := by decide +kernel
theorem dX3_becomeLike_46 : decode cX3_becomeLike 46 = .ok (.iconst 3, 1) := by decide +kernel
theorem dX3_becomeLike_47 : decode cX3_becomeLike 47 = .ok (.invokestatic 25, 3) := by decide +kernel
theorem dX3_becomeLike_50 : decode cX3_becomeLike 50 = .ok (.return_, 1) := by decide +kernel
theorem dX3_has_0 : decode cX3_has 0 = .ok (.iload_n 1, 1) := by decide +kernel
theorem dX3_has_1 : decode cX3_has 1 = .ok (.ifCond .lt 20, 3) := by decide +kernel
theorem dX3_has_4 : decode cX3_has 4 = .ok (.iload_n 1, 1) := by decide +kernel
theorem dX3_has_5 : decode cX3_has 5 = .ok (.aload_n 0, 1) := by decide +kernel
theorem dX3_has_6 : decode cX3_has 6 = .ok (.getfield 9, 3) := by decide +kernel
theorem dX3_has_9 : decode cX3_has 9 = .ok (.if_icmp .ge 12, 3) := by decide +kernel
theorem dX3_has_12 : decode cX3_has 12 = .ok (.iload_n 1, 1) := by decide +kernel
theorem dX3_has_13 : decode cX3_has 13 = .ok (.iconst 3, 1) := by decide +kernel
theorem dX3_has_14 : decode cX3_has 14 = .ok (.if_icmp .ge 7, 3) := by decide +kernel
theorem dX3_has_17 : decode cX3_has 17 = .ok (.iconst 1, 1) := by decide +kernel
theorem dX3_has_18 : decode cX3_has 18 = .ok (.goto 4, 3) := by decide +kernel
theorem dX3_has_21 : decode cX3_has 21 = .ok (.iconst 0, 1) := by decide +kernel
theorem dX3_has_22 : decode cX3_has 22 = .ok (.ireturn, 1) := by decide +kernel
theorem dX3_add_0 : decode cX3_add 0 = .ok (.aload_n 0, 1) := by decide +kernel
theorem dX3_add_1 : decode cX3_add 1 = .ok (.getfield 9, 3) := by decide +kernel
theorem dX3_add_4 : decode cX3_add 4 = .ok (.iconst 3, 1) := by decide +kernel
theorem dX3_add_5 : decode cX3_add 5 = .ok (.if_icmp .lt 5, 3) := by decide +kernel
theorem dX3_add_8 : decode cX3_add 8 = .ok (.iconst (-1), 1) := by decide +kernel
theorem dX3_add_9 : decode cX3_add 9 = .ok (.ireturn, 1) := by decide +kernel
theorem dX3_add_10 : decode cX3_add 10 = .ok (.aload_n 0, 1) := by decide +kernel
theorem dX3_add_11 : decode cX3_add 11 = .ok (.getfield 15, 3) := by decide +kernel
theorem dX3_add_14 : decode cX3_add 14 = .ok (.aload_n 0, 1) := by decide +kernel
theorem dX3_add_15 : decode cX3_add 15 = .ok (.getfield 9, 3) := by decide +kernel
theorem dX3_add_18 : decode cX3_add 18 = .ok (.iload_n 1, 1) := by decide +kernel
theorem dX3_add_19 : decode cX3_add 19 = .ok (.iastore, 1) := by decide +kernel
theorem dX3_add_20 : decode cX3_add 20 = .ok (.aload_n 0, 1) := by decide +kernel
theorem dX3_add_21 : decode cX3_add 21 = .ok (.getfield 19, 3) := by decide +kernel
theorem dX3_add_24 : decode cX3_add 24 = .ok (.aload_n 0, 1) := by decide +kernel
theorem dX3_add_25 : decode cX3_add 25 = .ok (.getfield 9, 3) := by decide +kernel
theorem dX3_add_28 : decode cX3_add 28 = .ok (.iconst (-1), 1) := by decide +kernel
theorem dX3_add_29 : decode cX3_add 29 = .ok (.iastore, 1) := by decide +kernel
theorem dX3_add_30 : decode cX3_add 30 = .ok (.aload_n 0, 1) := by decide +kernel
theorem dX3_add_31 : decode cX3_add 31 = .ok (.getfield 22, 3) := by decide +kernel
theorem dX3_add_34 : decode cX3_add 34 = .ok (.aload_n 0, 1) := by decide +kernel
theorem dX3_add_35 : decode cX3_add 35 = .ok (.getfield 9, 3) := by decide +kernel
theorem dX3_add_38 : decode cX3_add 38 = .ok (.iconst (-1), 1) := by decide +kernel
theorem dX3_add_39 : decode cX3_add 39 = .ok (.iastore, 1) := by decide +kernel
theorem dX3_add_40 : decode cX3_add 40 = .ok (.aload_n 0, 1) := by decide +kernel
theorem dX3_add_41 : decode cX3_add 41 = .ok (.dup, 1) := by decide +kernel
theorem dX3_add_42 : decode cX3_add 42 = .ok (.getfield 9, 3) := by decide +kernel
theorem dX3_add_45 : decode cX3_add 45 = .ok (.iconst 1, 1) := by decide +kernel
theorem dX3_add_46 : decode cX3_add 46 = .ok (.iadd, 1) := by decide +kernel
theorem dX3_add_47 : decode cX3_add 47 = .ok (.putfield 9, 3) := by decide +kernel
theorem dX3_add_50 : decode cX3_add 50 = .ok (.aload_n 0, 1) := by decide +kernel
theorem dX3_add_51 : decode cX3_add 51 = .ok (.getfield 9, 3) := by decide +kernel
theorem dX3_add_54 : decode cX3_add 54 = .ok (.iconst 1, 1) := by decide +kernel
theorem dX3_add_55 : decode cX3_add 55 = .ok (.isub, 1) := by decide +kernel
theorem dX3_add_56 : decode cX3_add 56 = .ok (.ireturn, 1) := by decide +kernel
set_option maxRecDepth 20000 in
theorem ggX3_skillOf_X3_has : GoodIn wsX3_skillOf wsX3_has := goodIn_r _ [6, 7, 8, 9, 10, 11] (by decide +kernel) (by decide +kernel)
set_option maxRecDepth 20000 in
theorem gX3_skillOf_X3_has : GoodIn wsX3_skillOf (wsV RX3 31 RX3 yX3_has wsX3_has) := goodIn_app (goodIn_of _ (by decide +kernel)) ggX3_skillOf_X3_has
theorem dX3_skillOf_0 : decode cX3_skillOf 0 = .ok (.aload_n 0, 1) := by decide +kernel
theorem dX3_skillOf_1 : decode cX3_skillOf 1 = .ok (.iload_n 1, 1) := by decide +kernel
theorem dX3_skillOf_2 : decode cX3_skillOf 2 = .ok (.invokevirtual 31, 3) := by decide +kernel
theorem dX3_skillOf_5 : decode cX3_skillOf 5 = .ok (.ifCond .eq 12, 3) := by decide +kernel
theorem dX3_skillOf_8 : decode cX3_skillOf 8 = .ok (.aload_n 0, 1) := by decide +kernel
theorem dX3_skillOf_9 : decode cX3_skillOf 9 = .ok (.getfield 15, 3) := by decide +kernel
theorem dX3_skillOf_12 : decode cX3_skillOf 12 = .ok (.iload_n 1, 1) := by decide +kernel
theorem dX3_skillOf_13 : decode cX3_skillOf 13 = .ok (.iaload, 1) := by decide +kernel
theorem dX3_skillOf_14 : decode cX3_skillOf 14 = .ok (.goto 4, 3) := by decide +kernel
theorem dX3_skillOf_17 : decode cX3_skillOf 17 = .ok (.iconst 0, 1) := by decide +kernel
theorem dX3_skillOf_18 : decode cX3_skillOf 18 = .ok (.ireturn, 1) := by decide +kernel
set_option maxRecDepth 20000 in
theorem ggX3_vatOf_X3_has : GoodIn wsX3_vatOf wsX3_has := goodIn_r _ [6, 7, 8, 9, 10, 11] (by decide +kernel) (by decide +kernel)
set_option maxRecDepth 20000 in
theorem gX3_vatOf_X3_has : GoodIn wsX3_vatOf (wsV RX3 31 RX3 yX3_has wsX3_has) := goodIn_app (goodIn_of _ (by decide +kernel)) ggX3_vatOf_X3_has
theorem dX3_vatOf_0 : decode cX3_vatOf 0 = .ok (.aload_n 0, 1) := by decide +kernel
theorem dX3_vatOf_1 : decode cX3_vatOf 1 = .ok (.iload_n 1, 1) := by decide +kernel
theorem dX3_vatOf_2 : decode cX3_vatOf 2 = .ok (.invokevirtual 31, 3) := by decide +kernel
theorem dX3_vatOf_5 : decode cX3_vatOf 5 = .ok (.ifCond .eq 12, 3) := by decide +kernel
theorem dX3_vatOf_8 : decode cX3_vatOf 8 = .ok (.aload_n 0, 1) := by decide +kernel
theorem dX3_vatOf_9 : decode cX3_vatOf 9 = .ok (.getfield 19, 3) := by decide +kernel
theorem dX3_vatOf_12 : decode cX3_vatOf 12 = .ok (.iload_n 1, 1) := by decide +kernel
theorem dX3_vatOf_13 : decode cX3_vatOf 13 = .ok (.iaload, 1) := by decide +kernel
theorem dX3_vatOf_14 : decode cX3_vatOf 14 = .ok (.goto 4, 3) := by decide +kernel
theorem dX3_vatOf_17 : decode cX3_vatOf 17 = .ok (.iconst (-1), 1) := by decide +kernel
theorem dX3_vatOf_18 : decode cX3_vatOf 18 = .ok (.ireturn, 1) := by decide +kernel
set_option maxRecDepth 20000 in
theorem ggX3_pairOf_X3_has : GoodIn wsX3_pairOf wsX3_has := goodIn_r _ [6, 7, 8, 9, 10, 11] (by decide +kernel) (by decide +kernel)
set_option maxRecDepth 20000 in
theorem gX3_pairOf_X3_has : GoodIn wsX3_pairOf (wsV RX3 31 RX3 yX3_has wsX3_has) := goodIn_app (goodIn_of _ (by decide +kernel)) ggX3_pairOf_X3_has
theorem dX3_pairOf_0 : decode cX3_pairOf 0 = .ok (.aload_n 0, 1) := by decide +kernel
theorem dX3_pairOf_1 : decode cX3_pairOf 1 = .ok (.iload_n 1, 1) := by decide +kernel
theorem dX3_pairOf_2 : decode cX3_pairOf 2 = .ok (.invokevirtual 31, 3) := by decide +kernel
theorem dX3_pairOf_5 : decode cX3_pairOf 5 = .ok (.ifCond .eq 12, 3) := by decide +kernel
theorem dX3_pairOf_8 : decode cX3_pairOf 8 = .ok (.aload_n 0, 1) := by decide +kernel
theorem dX3_pairOf_9 : decode cX3_pairOf 9 = .ok (.getfield 22, 3) := by decide +kernel
theorem dX3_pairOf_12 : decode cX3_pairOf 12 = .ok (.iload_n 1, 1) := by decide +kernel
theorem dX3_pairOf_13 : decode cX3_pairOf 13 = .ok (.iaload, 1) := by decide +kernel
theorem dX3_pairOf_14 : decode cX3_pairOf 14 = .ok (.goto 4, 3) := by decide +kernel
theorem dX3_pairOf_17 : decode cX3_pairOf 17 = .ok (.iconst (-1), 1) := by decide +kernel
theorem dX3_pairOf_18 : decode cX3_pairOf 18 = .ok (.ireturn, 1) := by decide +kernel
set_option maxRecDepth 20000 in
theorem ggX3_send_X3_has : GoodIn wsX3_send wsX3_has := goodIn_r _ [7, 8, 9, 10, 11, 12] (by decide +kernel) (by decide +kernel)
set_option maxRecDepth 20000 in
theorem gX3_send_X3_has : GoodIn wsX3_send (wsV RX3 31 RX3 yX3_has wsX3_has) := goodIn_app (goodIn_of _ (by decide +kernel)) ggX3_send_X3_has
theorem dX3_send_0 : decode cX3_send 0 = .ok (.aload_n 0, 1) := by decide +kernel
theorem dX3_send_1 : decode cX3_send 1 = .ok (.iload_n 1, 1) := by decide +kernel
theorem dX3_send_2 : decode cX3_send 2 = .ok (.invokevirtual 31, 3) := by decide +kernel
theorem dX3_send_5 : decode cX3_send 5 = .ok (.ifCond .eq 17, 3) := by decide +kernel
theorem dX3_send_8 : decode cX3_send 8 = .ok (.aload_n 0, 1) := by decide +kernel
theorem dX3_send_9 : decode cX3_send 9 = .ok (.getfield 19, 3) := by decide +kernel
theorem dX3_send_12 : decode cX3_send 12 = .ok (.iload_n 1, 1) := by decide +kernel
theorem dX3_send_13 : decode cX3_send 13 = .ok (.iload_n 2, 1) := by decide +kernel
theorem dX3_send_14 : decode cX3_send 14 = .ok (.iastore, 1) := by decide +kernel
theorem dX3_send_15 : decode cX3_send 15 = .ok (.aload_n 0, 1) := by decide +kernel
theorem dX3_send_16 : decode cX3_send 16 = .ok (.getfield 22, 3) := by decide +kernel
theorem dX3_send_19 : decode cX3_send 19 = .ok (.iload_n 1, 1) := by decide +kernel
theorem dX3_send_20 : decode cX3_send 20 = .ok (.iload_n 3, 1) := by decide +kernel
theorem dX3_send_21 : decode cX3_send 21 = .ok (.iastore, 1) := by decide +kernel
theorem dX3_send_22 : decode cX3_send 22 = .ok (.return_, 1) := by decide +kernel
set_option maxRecDepth 20000 in
theorem ggX3_holderOf_X3_pairOf : GoodIn wsX3_holderOf wsX3_pairOf := goodIn_r _ [6, 7, 8, 9, 10, 5, 11, 1, 12, 13, 14, 15] (by decide +kernel) (by decide +kernel)
set_option maxRecDepth 20000 in
theorem gX3_holderOf_X3_pairOf : GoodIn wsX3_holderOf (wsV RX3 35 RX3 yX3_pairOf wsX3_pairOf) := goodIn_app (goodIn_of _ (by decide +kernel)) ggX3_holderOf_X3_pairOf
theorem dX3_holderOf_0 : decode cX3_holderOf 0 = .ok (.iload_n 1, 1) := by decide +kernel
theorem dX3_holderOf_1 : decode cX3_holderOf 1 = .ok (.iconst (-1), 1) := by decide +kernel
theorem dX3_holderOf_2 : decode cX3_holderOf 2 = .ok (.if_icmp .ne 5, 3) := by decide +kernel
theorem dX3_holderOf_5 : decode cX3_holderOf 5 = .ok (.iconst (-1), 1) := by decide +kernel
theorem dX3_holderOf_6 : decode cX3_holderOf 6 = .ok (.ireturn, 1) := by decide +kernel
theorem dX3_holderOf_7 : decode cX3_holderOf 7 = .ok (.iconst 0, 1) := by decide +kernel
theorem dX3_holderOf_8 : decode cX3_holderOf 8 = .ok (.istore_n 2, 1) := by decide +kernel
theorem dX3_holderOf_9 : decode cX3_holderOf 9 = .ok (.iload_n 2, 1) := by decide +kernel
theorem dX3_holderOf_10 : decode cX3_holderOf 10 = .ok (.aload_n 0, 1) := by decide +kernel
theorem dX3_holderOf_11 : decode cX3_holderOf 11 = .ok (.getfield 9, 3) := by decide +kernel
theorem dX3_holderOf_14 : decode cX3_holderOf 14 = .ok (.if_icmp .ge 20, 3) := by decide +kernel
theorem dX3_holderOf_17 : decode cX3_holderOf 17 = .ok (.aload_n 0, 1) := by decide +kernel
theorem dX3_holderOf_18 : decode cX3_holderOf 18 = .ok (.iload_n 2, 1) := by decide +kernel
theorem dX3_holderOf_19 : decode cX3_holderOf 19 = .ok (.invokevirtual 35, 3) := by decide +kernel
theorem dX3_holderOf_22 : decode cX3_holderOf 22 = .ok (.iload_n 1, 1) := by decide +kernel
theorem dX3_holderOf_23 : decode cX3_holderOf 23 = .ok (.if_icmp .ne 5, 3) := by decide +kernel
theorem dX3_holderOf_26 : decode cX3_holderOf 26 = .ok (.iload_n 2, 1) := by decide +kernel
theorem dX3_holderOf_27 : decode cX3_holderOf 27 = .ok (.ireturn, 1) := by decide +kernel
theorem dX3_holderOf_28 : decode cX3_holderOf 28 = .ok (.iinc 2 1, 3) := by decide +kernel
theorem dX3_holderOf_31 : decode cX3_holderOf 31 = .ok (.goto (-22), 3) := by decide +kernel
theorem dX3_holderOf_34 : decode cX3_holderOf 34 = .ok (.iconst (-1), 1) := by decide +kernel
theorem dX3_holderOf_35 : decode cX3_holderOf 35 = .ok (.ireturn, 1) := by decide +kernel
end
section
theorem nmX4 : ∀ a, a < 3 → ∀ b, b < 3 → a ≠ b → (TX4 a).2.1 ≠ (TX4 b).2.1 := by decide +kernel
theorem tyX4_ok : ∀ k, k < 3 → parseFieldDescriptor (TX4 k).2.2.1 = some (tyX4 k) := by decide +kernel
theorem inlX4 : ∀ w ∈ wsX40, w ∈ wsL_law := fun _ h => List.mem_append_left _ (List.mem_append_left _ (List.mem_append_left _ (List.mem_append_left _ (List.mem_append_left _ (List.mem_append_left _ (List.mem_append_left _ (List.mem_append_right _ h)))))))
set_option maxRecDepth 20000 in
theorem ggX4_init_J7_fill_53178 : GoodIn wsX4_init wsJ7_fill_53178 := goodIn_r _ [11] (by decide +kernel) (by decide +kernel)
set_option maxRecDepth 20000 in
theorem gX4_init_J7_fill_53178 : GoodIn wsX4_init (va_wsS RX4 21 yJ7_fill_53178 wsJ7_fill_53178) := goodIn_app (goodIn_of _ (by decide +kernel)) ggX4_init_J7_fill_53178
theorem dX4_init_0 : decode cX4_init 0 = .ok (.aload_n 0, 1) := by decide +kernel
theorem dX4_init_1 : decode cX4_init 1 = .ok (.invokespecial 3, 3) := by decide +kernel
theorem dX4_init_4 : decode cX4_init 4 = .ok (.aload_n 0, 1) := by decide +kernel
theorem dX4_init_5 : decode cX4_init 5 = .ok (.iconst 4, 1) := by decide +kernel
theorem dX4_init_6 : decode cX4_init 6 = .ok (.newarray .int, 2) := by decide +kernel
theorem dX4_init_8 : decode cX4_init 8 = .ok (.putfield 9, 3) := by decide +kernel
theorem dX4_init_11 : decode cX4_init 11 = .ok (.aload_n 0, 1) := by decide +kernel
theorem dX4_init_12 : decode cX4_init 12 = .ok (.iconst 4, 1) := by decide +kernel
theorem dX4_init_13 : decode cX4_init 13 = .ok (.newarray .int, 2) := by decide +kernel
theorem dX4_init_15 : decode cX4_init 15 = .ok (.putfield 15, 3) := by decide +kernel
theorem dX4_init_18 : decode cX4_init 18 = .ok (.aload_n 0, 1) := by decide +kernel
theorem dX4_init_19 : decode cX4_init 19 = .ok (.iconst 4, 1) := by decide +kernel
theorem dX4_init_20 : decode cX4_init 20 = .ok (.newarray .int, 2) := by decide +kernel
theorem dX4_init_22 : decode cX4_init 22 = .ok (.putfield 18, 3) := by decide +kernel
theorem dX4_init_25 : decode cX4_init 25 = .ok (.aload_n 0, 1) := by decide +kernel
theorem dX4_init_26 : decode cX4_init 26 = .ok (.getfield 18, 3) := by decide +kernel
theorem dX4_init_29 : decode cX4_init 29 = .ok (.iconst (-1), 1) := by decide +kernel
theorem dX4_init_30 : decode cX4_init 30 = .ok (.invokestatic 21, 3) := by decide +kernel
theorem dX4_init_33 : decode cX4_init 33 = .ok (.return_, 1) := by decide +kernel
theorem dX4_becomeLike_0 : decode cX4_becomeLike 0 = .ok (.aload_n 1, 1) := by decide +kernel
theorem dX4_becomeLike_1 : decode cX4_becomeLike 1 = .ok (.getfield 9, 3) := by decide +kernel
theorem dX4_becomeLike_4 : decode cX4_becomeLike 4 = .ok (.iconst 0, 1) := by decide +kernel
theorem dX4_becomeLike_5 : decode cX4_becomeLike 5 = .ok (.aload_n 0, 1) := by decide +kernel
theorem dX4_becomeLike_6 : decode cX4_becomeLike 6 = .ok (.getfield 9, 3) := by decide +kernel
theorem dX4_becomeLike_9 : decode cX4_becomeLike 9 = .ok (.iconst 0, 1) := by decide +kernel
theorem dX4_becomeLike_10 : decode cX4_becomeLike 10 = .ok (.iconst 4, 1) := by decide +kernel
theorem dX4_becomeLike_11 : decode cX4_becomeLike 11 = .ok (.invokestatic 27, 3) := by decide +kernel
theorem dX4_becomeLike_14 : decode cX4_becomeLike 14 = .ok (.aload_n 1, 1) := by decide +kernel
theorem dX4_becomeLike_15 : decode cX4_becomeLike 15 = .ok (.getfield 15, 3) := by decide +kernel
theorem dX4_becomeLike_18 : decode cX4_becomeLike 18 = .ok (.iconst 0, 1) := by decide +kernel
theorem dX4_becomeLike_19 : decode cX4_becomeLike 19 = .ok (.aload_n 0, 1) := by decide +kernel
theorem dX4_becomeLike_20 : decode cX4_becomeLike 20 = .ok (.getfield 15, 3) := by decide +kernel
theorem dX4_becomeLike_23 : decode cX4_becomeLike 23 = .ok (.iconst 0, 1) := by decide +kernel
theorem dX4_becomeLike_24 : decode cX4_becomeLike 24 = .ok (.iconst 4, 1) := by decide +kernel
theorem dX4_becomeLike_25 : decode cX4_becomeLike 25 = .ok (.invokestatic 27, 3) := by decide +kernel
theorem dX4_becomeLike_28 : decode cX4_becomeLike 28 = .ok (.aload_n 1, 1) := by decide +kernel
theorem dX4_becomeLike_29 : decode cX4_becomeLike 29 = .ok (.getfield 18, 3) := by decide +kernel
theorem dX4_becomeLike_32 : decode cX4_becomeLike 32 = .ok (.iconst 0, 1) := by decide +kernel
theorem dX4_becomeLike_33 : decode cX4_becomeLike 33 = .ok (.aload_n 0, 1) := by decide +kernel
theorem dX4_becomeLike_34 : decode cX4_becomeLike 34 = .ok (.getfield 18, 3) := by decide +kernel
theorem dX4_becomeLike_37 : decode cX4_becomeLike 37 = .ok (.iconst 0, 1) := by decide +kernel
theorem dX4_becomeLike_38 : decode cX4_becomeLike 38 = .ok (.iconst 4, 1) := by decide +kernel
theorem dX4_becomeLike_39 : decode cX4_becomeLike 39 = .ok (.invokestatic 27, 3) := by decide +kernel
theorem dX4_becomeLike_42 : decode cX4_becomeLike 42 = .ok (.return_, 1) := by decide +kernel
set_option maxRecDepth 20000 in
theorem ggX4_pulpOf_X5_isBelow : GoodIn wsX4_pulpOf wsX5_isBelow := goodIn_r _ [4] (by decide +kernel) (by decide +kernel)
set_option maxRecDepth 20000 in
theorem gX4_pulpOf_X5_isBelow_n33 : GoodIn wsX4_pulpOf (wsX5_isBelow) := ggX4_pulpOf_X5_isBelow
theorem dX4_pulpOf_0 : decode cX4_pulpOf 0 = .ok (.iload_n 1, 1) := by decide +kernel
theorem dX4_pulpOf_1 : decode cX4_pulpOf 1 = .ok (.iconst 4, 1) := by decide +kernel
theorem dX4_pulpOf_2 : decode cX4_pulpOf 2 = .ok (.invokestatic 33, 3) := by decide +kernel
theorem dX4_pulpOf_5 : decode cX4_pulpOf 5 = .ok (.ifCond .eq 12, 3) := by decide +kernel
theorem dX4_pulpOf_8 : decode cX4_pulpOf 8 = .ok (.aload_n 0, 1) := by decide +kernel
theorem dX4_pulpOf_9 : decode cX4_pulpOf 9 = .ok (.getfield 9, 3) := by decide +kernel
theorem dX4_pulpOf_12 : decode cX4_pulpOf 12 = .ok (.iload_n 1, 1) := by decide +kernel
theorem dX4_pulpOf_13 : decode cX4_pulpOf 13 = .ok (.iaload, 1) := by decide +kernel
theorem dX4_pulpOf_14 : decode cX4_pulpOf 14 = .ok (.goto 4, 3) := by decide +kernel
theorem dX4_pulpOf_17 : decode cX4_pulpOf 17 = .ok (.iconst 0, 1) := by decide +kernel
theorem dX4_pulpOf_18 : decode cX4_pulpOf 18 = .ok (.ireturn, 1) := by decide +kernel
set_option maxRecDepth 20000 in
theorem ggX4_beatOf_X5_isBelow : GoodIn wsX4_beatOf wsX5_isBelow := goodIn_r _ [4] (by decide +kernel) (by decide +kernel)
set_option maxRecDepth 20000 in
theorem gX4_beatOf_X5_isBelow_n33 : GoodIn wsX4_beatOf (wsX5_isBelow) := ggX4_beatOf_X5_isBelow
theorem dX4_beatOf_0 : decode cX4_beatOf 0 = .ok (.iload_n 1, 1) := by decide +kernel
theorem dX4_beatOf_1 : decode cX4_beatOf 1 = .ok (.iconst 4, 1) := by decide +kernel
theorem dX4_beatOf_2 : decode cX4_beatOf 2 = .ok (.invokestatic 33, 3) := by decide +kernel
theorem dX4_beatOf_5 : decode cX4_beatOf 5 = .ok (.ifCond .eq 12, 3) := by decide +kernel
theorem dX4_beatOf_8 : decode cX4_beatOf 8 = .ok (.aload_n 0, 1) := by decide +kernel
theorem dX4_beatOf_9 : decode cX4_beatOf 9 = .ok (.getfield 15, 3) := by decide +kernel
theorem dX4_beatOf_12 : decode cX4_beatOf 12 = .ok (.iload_n 1, 1) := by decide +kernel
theorem dX4_beatOf_13 : decode cX4_beatOf 13 = .ok (.iaload, 1) := by decide +kernel
theorem dX4_beatOf_14 : decode cX4_beatOf 14 = .ok (.goto 4, 3) := by decide +kernel
theorem dX4_beatOf_17 : decode cX4_beatOf 17 = .ok (.iconst 0, 1) := by decide +kernel
theorem dX4_beatOf_18 : decode cX4_beatOf 18 = .ok (.ireturn, 1) := by decide +kernel
set_option maxRecDepth 20000 in
theorem ggX4_sortOf_X5_isBelow : GoodIn wsX4_sortOf wsX5_isBelow := goodIn_r _ [4] (by decide +kernel) (by decide +kernel)
set_option maxRecDepth 20000 in
theorem gX4_sortOf_X5_isBelow_n33 : GoodIn wsX4_sortOf (wsX5_isBelow) := ggX4_sortOf_X5_isBelow
theorem dX4_sortOf_0 : decode cX4_sortOf 0 = .ok (.iload_n 1, 1) := by decide +kernel
theorem dX4_sortOf_1 : decode cX4_sortOf 1 = .ok (.iconst 4, 1) := by decide +kernel
theorem dX4_sortOf_2 : decode cX4_sortOf 2 = .ok (.invokestatic 33, 3) := by decide +kernel
theorem dX4_sortOf_5 : decode cX4_sortOf 5 = .ok (.ifCond .eq 12, 3) := by decide +kernel
theorem dX4_sortOf_8 : decode cX4_sortOf 8 = .ok (.aload_n 0, 1) := by decide +kernel
theorem dX4_sortOf_9 : decode cX4_sortOf 9 = .ok (.getfield 18, 3) := by decide +kernel
theorem dX4_sortOf_12 : decode cX4_sortOf 12 = .ok (.iload_n 1, 1) := by decide +kernel
theorem dX4_sortOf_13 : decode cX4_sortOf 13 = .ok (.iaload, 1) := by decide +kernel
theorem dX4_sortOf_14 : decode cX4_sortOf 14 = .ok (.goto 4, 3) := by decide +kernel
theorem dX4_sortOf_17 : decode cX4_sortOf 17 = .ok (.iconst (-1), 1) := by decide +kernel
theorem dX4_sortOf_18 : decode cX4_sortOf 18 = .ok (.ireturn, 1) := by decide +kernel
set_option maxRecDepth 20000 in
theorem ggX4_tell_X4_pulpOf : GoodIn wsX4_tell wsX4_pulpOf := goodIn_r _ [5, 6, 7, 8, 9, 20, 21, 22] (by decide +kernel) (by decide +kernel)
set_option maxRecDepth 20000 in
theorem gX4_tell_X4_pulpOf : GoodIn wsX4_tell (wsV RX4 37 RX4 yX4_pulpOf wsX4_pulpOf) := goodIn_app (goodIn_of _ (by decide +kernel)) ggX4_tell_X4_pulpOf
set_option maxRecDepth 20000 in
theorem ggX4_tell_X4_beatOf : GoodIn wsX4_tell wsX4_beatOf := goodIn_r _ [13, 14, 7, 8, 9, 20, 21, 22] (by decide +kernel) (by decide +kernel)
set_option maxRecDepth 20000 in
theorem gX4_tell_X4_beatOf : GoodIn wsX4_tell (wsV RX4 41 RX4 yX4_beatOf wsX4_beatOf) := goodIn_app (goodIn_of _ (by decide +kernel)) ggX4_tell_X4_beatOf
set_option maxRecDepth 20000 in
theorem ggX4_tell_X4_sortOf : GoodIn wsX4_tell wsX4_sortOf := goodIn_r _ [18, 19, 7, 8, 9, 20, 21, 22] (by decide +kernel) (by decide +kernel)
set_option maxRecDepth 20000 in
theorem gX4_tell_X4_sortOf : GoodIn wsX4_tell (wsV RX4 44 RX4 yX4_sortOf wsX4_sortOf) := goodIn_app (goodIn_of _ (by decide +kernel)) ggX4_tell_X4_sortOf
theorem dX4_tell_0 : decode cX4_tell 0 = .ok (.iload_n 2, 1) := by decide +kernel
theorem dX4_tell_1 : decode cX4_tell 1 = .ok (.lookupswitch 39 #[(0, 27), (1, 33)], 27) := by decide +kernel
theorem dX4_tell_28 : decode cX4_tell 28 = .ok (.aload_n 0, 1) := by decide +kernel
theorem dX4_tell_29 : decode cX4_tell 29 = .ok (.iload_n 1, 1) := by decide +kernel
theorem dX4_tell_30 : decode cX4_tell 30 = .ok (.invokevirtual 37, 3) := by decide +kernel
theorem dX4_tell_33 : decode cX4_tell 33 = .ok (.ireturn, 1) := by decide +kernel
theorem dX4_tell_34 : decode cX4_tell 34 = .ok (.aload_n 0, 1) := by decide +kernel
theorem dX4_tell_35 : decode cX4_tell 35 = .ok (.iload_n 1, 1) := by decide +kernel
theorem dX4_tell_36 : decode cX4_tell 36 = .ok (.invokevirtual 41, 3) := by decide +kernel
theorem dX4_tell_39 : decode cX4_tell 39 = .ok (.ireturn, 1) := by decide +kernel
theorem dX4_tell_40 : decode cX4_tell 40 = .ok (.aload_n 0, 1) := by decide +kernel
theorem dX4_tell_41 : decode cX4_tell 41 = .ok (.iload_n 1, 1) := by decide +kernel
theorem dX4_tell_42 : decode cX4_tell 42 = .ok (.invokevirtual 44, 3) := by decide +kernel
theorem dX4_tell_45 : decode cX4_tell 45 = .ok (.ireturn, 1) := by decide +kernel
set_option maxRecDepth 20000 in
theorem ggX4_charge_X5_isBelow : GoodIn wsX4_charge wsX5_isBelow := goodIn_r _ [6] (by decide +kernel) (by decide +kernel)
set_option maxRecDepth 20000 in
theorem gX4_charge_X5_isBelow_n33 : GoodIn wsX4_charge (wsX5_isBelow) := ggX4_charge_X5_isBelow
theorem dX4_charge_0 : decode cX4_charge 0 = .ok (.iload_n 1, 1) := by decide +kernel
theorem dX4_charge_1 : decode cX4_charge 1 = .ok (.iconst 4, 1) := by decide +kernel
theorem dX4_charge_2 : decode cX4_charge 2 = .ok (.invokestatic 33, 3) := by decide +kernel
theorem dX4_charge_5 : decode cX4_charge 5 = .ok (.ifCond .eq 24, 3) := by decide +kernel
theorem dX4_charge_8 : decode cX4_charge 8 = .ok (.aload_n 0, 1) := by decide +kernel
theorem dX4_charge_9 : decode cX4_charge 9 = .ok (.getfield 9, 3) := by decide +kernel
theorem dX4_charge_12 : decode cX4_charge 12 = .ok (.iload_n 1, 1) := by decide +kernel
theorem dX4_charge_13 : decode cX4_charge 13 = .ok (.iload_n 3, 1) := by decide +kernel
theorem dX4_charge_14 : decode cX4_charge 14 = .ok (.iastore, 1) := by decide +kernel
theorem dX4_charge_15 : decode cX4_charge 15 = .ok (.aload_n 0, 1) := by decide +kernel
theorem dX4_charge_16 : decode cX4_charge 16 = .ok (.getfield 15, 3) := by decide +kernel
theorem dX4_charge_19 : decode cX4_charge 19 = .ok (.iload_n 1, 1) := by decide +kernel
theorem dX4_charge_20 : decode cX4_charge 20 = .ok (.iconst 0, 1) := by decide +kernel
theorem dX4_charge_21 : decode cX4_charge 21 = .ok (.iastore, 1) := by decide +kernel
theorem dX4_charge_22 : decode cX4_charge 22 = .ok (.aload_n 0, 1) := by decide +kernel
theorem dX4_charge_23 : decode cX4_charge 23 = .ok (.getfield 18, 3) := by decide +kernel
theorem dX4_charge_26 : decode cX4_charge 26 = .ok (.iload_n 1, 1) := by decide +kernel
theorem dX4_charge_27 : decode cX4_charge 27 = .ok (.iload_n 2, 1) := by decide +kernel
theorem dX4_charge_28 : decode cX4_charge 28 = .ok (.iastore, 1) := by decide +kernel
theorem dX4_charge_29 : decode cX4_charge 29 = .ok (.return_, 1) := by decide +kernel
set_option maxRecDepth 20000 in
theorem ggX4_takeOut_X5_isBelow : GoodIn wsX4_takeOut wsX5_isBelow := goodIn_r _ [4] (by decide +kernel) (by decide +kernel)
set_option maxRecDepth 20000 in
theorem gX4_takeOut_X5_isBelow_n33 : GoodIn wsX4_takeOut (wsX5_isBelow) := ggX4_takeOut_X5_isBelow
set_option maxRecDepth 20000 in
theorem ggX4_takeOut_X4_charge : GoodIn wsX4_takeOut wsX4_charge := goodIn_r _ [9, 1, 10, 11, 2, 3, 4, 12, 13, 14] (by decide +kernel) (by decide +kernel)
set_option maxRecDepth 20000 in
theorem gX4_takeOut_X4_charge : GoodIn wsX4_takeOut (wsV RX4 47 RX4 yX4_charge wsX4_charge) := goodIn_app (goodIn_of _ (by decide +kernel)) ggX4_takeOut_X4_charge
theorem dX4_takeOut_0 : decode cX4_takeOut 0 = .ok (.iload_n 1, 1) := by decide +kernel
theorem dX4_takeOut_1 : decode cX4_takeOut 1 = .ok (.iconst 4, 1) := by decide +kernel
theorem dX4_takeOut_2 : decode cX4_takeOut 2 = .ok (.invokestatic 33, 3) := by decide +kernel
theorem dX4_takeOut_5 : decode cX4_takeOut 5 = .ok (.ifCond .ne 4, 3) := by decide +kernel
theorem dX4_takeOut_8 : decode cX4_takeOut 8 = .ok (.return_, 1) := by decide +kernel
theorem dX4_takeOut_9 : decode cX4_takeOut 9 = .ok (.aload_n 0, 1) := by decide +kernel
theorem dX4_takeOut_10 : decode cX4_takeOut 10 = .ok (.getfield 9, 3) := by decide +kernel
theorem dX4_takeOut_13 : decode cX4_takeOut 13 = .ok (.iload_n 1, 1) := by decide +kernel
theorem dX4_takeOut_14 : decode cX4_takeOut 14 = .ok (.dup2, 1) := by decide +kernel
theorem dX4_takeOut_15 : decode cX4_takeOut 15 = .ok (.iaload, 1) := by decide +kernel
theorem dX4_takeOut_16 : decode cX4_takeOut 16 = .ok (.iload_n 2, 1) := by decide +kernel
theorem dX4_takeOut_17 : decode cX4_takeOut 17 = .ok (.isub, 1) := by decide +kernel
theorem dX4_takeOut_18 : decode cX4_takeOut 18 = .ok (.iastore, 1) := by decide +kernel
theorem dX4_takeOut_19 : decode cX4_takeOut 19 = .ok (.aload_n 0, 1) := by decide +kernel
theorem dX4_takeOut_20 : decode cX4_takeOut 20 = .ok (.getfield 9, 3) := by decide +kernel
theorem dX4_takeOut_23 : decode cX4_takeOut 23 = .ok (.iload_n 1, 1) := by decide +kernel
theorem dX4_takeOut_24 : decode cX4_takeOut 24 = .ok (.iaload, 1) := by decide +kernel
theorem dX4_takeOut_25 : decode cX4_takeOut 25 = .ok (.ifCond .gt 10, 3) := by decide +kernel
theorem dX4_takeOut_28 : decode cX4_takeOut 28 = .ok (.aload_n 0, 1) := by decide +kernel
theorem dX4_takeOut_29 : decode cX4_takeOut 29 = .ok (.iload_n 1, 1) := by decide +kernel
theorem dX4_takeOut_30 : decode cX4_takeOut 30 = .ok (.iconst (-1), 1) := by decide +kernel
theorem dX4_takeOut_31 : decode cX4_takeOut 31 = .ok (.iconst 0, 1) := by decide +kernel
theorem dX4_takeOut_32 : decode cX4_takeOut 32 = .ok (.invokevirtual 47, 3) := by decide +kernel
theorem dX4_takeOut_35 : decode cX4_takeOut 35 = .ok (.return_, 1) := by decide +kernel
theorem dX4_allPulp_0 : decode cX4_allPulp 0 = .ok (.iconst 0, 1) := by decide +kernel
theorem dX4_allPulp_1 : decode cX4_allPulp 1 = .ok (.istore_n 1, 1) := by decide +kernel
theorem dX4_allPulp_2 : decode cX4_allPulp 2 = .ok (.iconst 0, 1) := by decide +kernel
theorem dX4_allPulp_3 : decode cX4_allPulp 3 = .ok (.istore_n 2, 1) := by decide +kernel
theorem dX4_allPulp_4 : decode cX4_allPulp 4 = .ok (.iload_n 2, 1) := by decide +kernel
theorem dX4_allPulp_5 : decode cX4_allPulp 5 = .ok (.iconst 4, 1) := by decide +kernel
theorem dX4_allPulp_6 : decode cX4_allPulp 6 = .ok (.if_icmp .ge 18, 3) := by decide +kernel
theorem dX4_allPulp_9 : decode cX4_allPulp 9 = .ok (.iload_n 1, 1) := by decide +kernel
theorem dX4_allPulp_10 : decode cX4_allPulp 10 = .ok (.aload_n 0, 1) := by decide +kernel
theorem dX4_allPulp_11 : decode cX4_allPulp 11 = .ok (.getfield 9, 3) := by decide +kernel
theorem dX4_allPulp_14 : decode cX4_allPulp 14 = .ok (.iload_n 2, 1) := by decide +kernel
theorem dX4_allPulp_15 : decode cX4_allPulp 15 = .ok (.iaload, 1) := by decide +kernel
theorem dX4_allPulp_16 : decode cX4_allPulp 16 = .ok (.iadd, 1) := by decide +kernel
theorem dX4_allPulp_17 : decode cX4_allPulp 17 = .ok (.istore_n 1, 1) := by decide +kernel
theorem dX4_allPulp_18 : decode cX4_allPulp 18 = .ok (.iinc 2 1, 3) := by decide +kernel
theorem dX4_allPulp_21 : decode cX4_allPulp 21 = .ok (.goto (-17), 3) := by decide +kernel
theorem dX4_allPulp_24 : decode cX4_allPulp 24 = .ok (.iload_n 1, 1) := by decide +kernel
theorem dX4_allPulp_25 : decode cX4_allPulp 25 = .ok (.ireturn, 1) := by decide +kernel
set_option maxRecDepth 20000 in
theorem ggX4_beatAll_X4_numberWithPulp : GoodIn wsX4_beatAll wsX4_numberWithPulp := goodIn_r _ [11, 1, 12, 13, 14] (by decide +kernel) (by decide +kernel)
set_option maxRecDepth 20000 in
theorem gX4_beatAll_X4_numberWithPulp : GoodIn wsX4_beatAll (wsV RX4 51 RX4 yX4_numberWithPulp wsX4_numberWithPulp) := goodIn_app (goodIn_of _ (by decide +kernel)) ggX4_beatAll_X4_numberWithPulp
theorem dX4_beatAll_0 : decode cX4_beatAll 0 = .ok (.aload_n 0, 1) := by decide +kernel
theorem dX4_beatAll_1 : decode cX4_beatAll 1 = .ok (.invokevirtual 51, 3) := by decide +kernel
theorem dX4_beatAll_4 : decode cX4_beatAll 4 = .ok (.istore_n 2, 1) := by decide +kernel
theorem dX4_beatAll_5 : decode cX4_beatAll 5 = .ok (.iload_n 2, 1) := by decide +kernel
theorem dX4_beatAll_6 : decode cX4_beatAll 6 = .ok (.ifCond .ne 4, 3) := by decide +kernel
theorem dX4_beatAll_9 : decode cX4_beatAll 9 = .ok (.return_, 1) := by decide +kernel
theorem dX4_beatAll_10 : decode cX4_beatAll 10 = .ok (.iconst 3, 1) := by decide +kernel
theorem dX4_beatAll_11 : decode cX4_beatAll 11 = .ok (.iload_n 1, 1) := by decide +kernel
theorem dX4_beatAll_12 : decode cX4_beatAll 12 = .ok (.imul, 1) := by decide +kernel
theorem dX4_beatAll_13 : decode cX4_beatAll 13 = .ok (.iload_n 2, 1) := by decide +kernel
theorem dX4_beatAll_14 : decode cX4_beatAll 14 = .ok (.idiv, 1) := by decide +kernel
theorem dX4_beatAll_15 : decode cX4_beatAll 15 = .ok (.istore_n 3, 1) := by decide +kernel
theorem dX4_beatAll_16 : decode cX4_beatAll 16 = .ok (.iconst 0, 1) := by decide +kernel
theorem dX4_beatAll_17 : decode cX4_beatAll 17 = .ok (.istore 4, 2) := by decide +kernel
theorem dX4_beatAll_19 : decode cX4_beatAll 19 = .ok (.iload 4, 2) := by decide +kernel
theorem dX4_beatAll_21 : decode cX4_beatAll 21 = .ok (.iconst 4, 1) := by decide +kernel
theorem dX4_beatAll_22 : decode cX4_beatAll 22 = .ok (.if_icmp .ge 40, 3) := by decide +kernel
theorem dX4_beatAll_25 : decode cX4_beatAll 25 = .ok (.aload_n 0, 1) := by decide +kernel
theorem dX4_beatAll_26 : decode cX4_beatAll 26 = .ok (.getfield 9, 3) := by decide +kernel
theorem dX4_beatAll_29 : decode cX4_beatAll 29 = .ok (.iload 4, 2) := by decide +kernel
theorem dX4_beatAll_31 : decode cX4_beatAll 31 = .ok (.iaload, 1) := by decide +kernel
theorem dX4_beatAll_32 : decode cX4_beatAll 32 = .ok (.ifCond .le 24, 3) := by decide +kernel
theorem dX4_beatAll_35 : decode cX4_beatAll 35 = .ok (.aload_n 0, 1) := by decide +kernel
theorem dX4_beatAll_36 : decode cX4_beatAll 36 = .ok (.getfield 15, 3) := by decide +kernel
theorem dX4_beatAll_39 : decode cX4_beatAll 39 = .ok (.iload 4, 2) := by decide +kernel
theorem dX4_beatAll_41 : decode cX4_beatAll 41 = .ok (.bipush 99, 2) := by decide +kernel
theorem dX4_beatAll_43 : decode cX4_beatAll 43 = .ok (.aload_n 0, 1) := by decide +kernel
theorem dX4_beatAll_44 : decode cX4_beatAll 44 = .ok (.getfield 15, 3) := by decide +kernel
theorem dX4_beatAll_47 : decode cX4_beatAll 47 = .ok (.iload 4, 2) := by decide +kernel
theorem dX4_beatAll_49 : decode cX4_beatAll 49 = .ok (.iaload, 1) := by decide +kernel
theorem dX4_beatAll_50 : decode cX4_beatAll 50 = .ok (.iload_n 3, 1) := by decide +kernel
theorem dX4_beatAll_51 : decode cX4_beatAll 51 = .ok (.iadd, 1) := by decide +kernel
theorem dX4_beatAll_52 : decode cX4_beatAll 52 = .ok (.invokestatic 55, 3) := by decide +kernel
theorem dX4_beatAll_55 : decode cX4_beatAll 55 = .ok (.iastore, 1) := by decide +kernel
theorem dX4_beatAll_56 : decode cX4_beatAll 56 = .ok (.iinc 4 1, 3) := by decide +kernel
theorem dX4_beatAll_59 : decode cX4_beatAll 59 = .ok (.goto (-40), 3) := by decide +kernel
theorem dX4_beatAll_62 : decode cX4_beatAll 62 = .ok (.return_, 1) := by decide +kernel
theorem dX4_numberWithPulp_0 : decode cX4_numberWithPulp 0 = .ok (.iconst 0, 1) := by decide +kernel
theorem dX4_numberWithPulp_1 : decode cX4_numberWithPulp 1 = .ok (.istore_n 1, 1) := by decide +kernel
theorem dX4_numberWithPulp_2 : decode cX4_numberWithPulp 2 = .ok (.iconst 0, 1) := by decide +kernel
theorem dX4_numberWithPulp_3 : decode cX4_numberWithPulp 3 = .ok (.istore_n 2, 1) := by decide +kernel
theorem dX4_numberWithPulp_4 : decode cX4_numberWithPulp 4 = .ok (.iload_n 2, 1) := by decide +kernel
theorem dX4_numberWithPulp_5 : decode cX4_numberWithPulp 5 = .ok (.iconst 4, 1) := by decide +kernel
theorem dX4_numberWithPulp_6 : decode cX4_numberWithPulp 6 = .ok (.if_icmp .ge 21, 3) := by decide +kernel
theorem dX4_numberWithPulp_9 : decode cX4_numberWithPulp 9 = .ok (.aload_n 0, 1) := by decide +kernel
theorem dX4_numberWithPulp_10 : decode cX4_numberWithPulp 10 = .ok (.getfield 9, 3) := by decide +kernel
theorem dX4_numberWithPulp_13 : decode cX4_numberWithPulp 13 = .ok (.iload_n 2, 1) := by decide +kernel
theorem dX4_numberWithPulp_14 : decode cX4_numberWithPulp 14 = .ok (.iaload, 1) := by decide +kernel
theorem dX4_numberWithPulp_15 : decode cX4_numberWithPulp 15 = .ok (.ifCond .le 6, 3) := by decide +kernel
theorem dX4_numberWithPulp_18 : decode cX4_numberWithPulp 18 = .ok (.iinc 1 1, 3) := by decide +kernel
theorem dX4_numberWithPulp_21 : decode cX4_numberWithPulp 21 = .ok (.iinc 2 1, 3) := by decide +kernel
theorem dX4_numberWithPulp_24 : decode cX4_numberWithPulp 24 = .ok (.goto (-20), 3) := by decide +kernel
theorem dX4_numberWithPulp_27 : decode cX4_numberWithPulp 27 = .ok (.iload_n 1, 1) := by decide +kernel
theorem dX4_numberWithPulp_28 : decode cX4_numberWithPulp 28 = .ok (.ireturn, 1) := by decide +kernel
theorem nmX5 : ∀ a, a < 2 → ∀ b, b < 2 → a ≠ b → (TX5 a).2.1 ≠ (TX5 b).2.1 := by decide +kernel
theorem tyX5_ok : ∀ k, k < 2 → parseFieldDescriptor (TX5 k).2.2.1 = some (tyX5 k) := by decide +kernel
theorem inlX5 : ∀ w ∈ wsX50, w ∈ wsL_law := fun _ h => List.mem_append_left _ (List.mem_append_left _ (List.mem_append_left _ (List.mem_append_left _ (List.mem_append_left _ (List.mem_append_left _ (List.mem_append_left _ (List.mem_append_left _ (List.mem_append_left _ (List.mem_append_left _ (List.mem_append_right _ h))))))))))
set_option maxRecDepth 20000 in
theorem ggX5_init_X0_init : GoodIn wsX5_init wsX0_init := goodIn_r _ [11, 12, 2, 3, 13, 14, 15, 16, 17, 18, 19, 20, 21, 22, 23, 24, 25, 26, 27, 28, 29, 30, 31, 32, 33, 34, 35, 36, 37, 38, 39, 40, 41, 42, 43, 44, 45, 46, 47, 48, 49, 50, 51, 52, 53, 54, 55, 56, 57, 58, 59, 60, 61, 62, 63, 64, 65, 66, 67, 68, 69, 70, 71, 72, 73, 74, 75, 76, 77, 78, 79, 80, 81, 82, 83, 86, 87, 88, 89, 90, 91, 92, 93, 94, 95, 96, 97, 98, 99, 100, 101] (by decide +kernel) (by decide +kernel)
set_option maxRecDepth 20000 in
theorem gX5_init_X0_init : GoodIn wsX5_init (wsX0_init) := ggX5_init_X0_init
theorem dX5_init_0 : decode cX5_init 0 = .ok (.aload_n 0, 1) := by decide +kernel
theorem dX5_init_1 : decode cX5_init 1 = .ok (.invokespecial 1, 3) := by decide +kernel
theorem dX5_init_4 : decode cX5_init 4 = .ok (.aload_n 0, 1) := by decide +kernel
theorem dX5_init_5 : decode cX5_init 5 = .ok (.new 7, 3) := by decide +kernel
theorem dX5_init_8 : decode cX5_init 8 = .ok (.dup, 1) := by decide +kernel
theorem dX5_init_9 : decode cX5_init 9 = .ok (.invokespecial 9, 3) := by decide +kernel
theorem dX5_init_12 : decode cX5_init 12 = .ok (.putfield 10, 3) := by decide +kernel
theorem dX5_init_15 : decode cX5_init 15 = .ok (.aload_n 0, 1) := by decide +kernel
theorem dX5_init_16 : decode cX5_init 16 = .ok (.new 7, 3) := by decide +kernel
theorem dX5_init_19 : decode cX5_init 19 = .ok (.dup, 1) := by decide +kernel
theorem dX5_init_20 : decode cX5_init 20 = .ok (.invokespecial 9, 3) := by decide +kernel
theorem dX5_init_23 : decode cX5_init 23 = .ok (.putfield 16, 3) := by decide +kernel
theorem dX5_init_26 : decode cX5_init 26 = .ok (.return_, 1) := by decide +kernel
set_option maxRecDepth 20000 in
theorem ggX5_buy_X5_isBelow : GoodIn wsX5_buy wsX5_isBelow := goodIn_r _ [12] (by decide +kernel) (by decide +kernel)
set_option maxRecDepth 20000 in
theorem gX5_buy_X5_isBelow : GoodIn wsX5_buy (va_wsS RX5 19 yX5_isBelow wsX5_isBelow) := goodIn_app (goodIn_of _ (by decide +kernel)) ggX5_buy_X5_isBelow
set_option maxRecDepth 20000 in
theorem ggX5_buy_X5_isFrom1To : GoodIn wsX5_buy wsX5_isFrom1To := goodIn_r _ [15] (by decide +kernel) (by decide +kernel)
set_option maxRecDepth 20000 in
theorem gX5_buy_X5_isFrom1To : GoodIn wsX5_buy (va_wsS RX5 30 yX5_isFrom1To wsX5_isFrom1To) := goodIn_app (goodIn_of _ (by decide +kernel)) ggX5_buy_X5_isFrom1To
set_option maxRecDepth 20000 in
theorem ggX5_buy_X0_takeIn : GoodIn wsX5_buy wsX0_takeIn := goodIn_r _ [20, 21, 22, 10, 11, 12, 25, 26, 27, 28, 29, 30, 31, 32, 33, 34, 35, 36] (by decide +kernel) (by decide +kernel)
set_option maxRecDepth 20000 in
theorem gX5_buy_X0_takeIn : GoodIn wsX5_buy (wsV RX5 56 RX0 yX0_takeIn wsX0_takeIn) := goodIn_app (goodIn_of _ (by decide +kernel)) ggX5_buy_X0_takeIn
theorem dX5_buy_0 : decode cX5_buy 0 = .ok (.iload_n 1, 1) := by decide +kernel
theorem dX5_buy_1 : decode cX5_buy 1 = .ok (.iconst 4, 1) := by decide +kernel
theorem dX5_buy_2 : decode cX5_buy 2 = .ok (.invokestatic 19, 3) := by decide +kernel
theorem dX5_buy_5 : decode cX5_buy 5 = .ok (.ifCond .ne 13, 3) := by decide +kernel
theorem dX5_buy_8 : decode cX5_buy 8 = .ok (.new 23, 3) := by decide +kernel
theorem dX5_buy_11 : decode cX5_buy 11 = .ok (.dup, 1) := by decide +kernel
theorem dX5_buy_12 : decode cX5_buy 12 = .ok (.ldc 25, 2) := by decide +kernel
theorem dX5_buy_14 : decode cX5_buy 14 = .ok (.invokespecial 27, 3) := by decide +kernel
theorem dX5_buy_17 : decode cX5_buy 17 = .ok (.athrow, 1) := by decide +kernel
theorem dX5_buy_18 : decode cX5_buy 18 = .ok (.iload_n 2, 1) := by decide +kernel
theorem dX5_buy_19 : decode cX5_buy 19 = .ok (.bipush 99, 2) := by decide +kernel
theorem dX5_buy_21 : decode cX5_buy 21 = .ok (.invokestatic 30, 3) := by decide +kernel
theorem dX5_buy_24 : decode cX5_buy 24 = .ok (.ifCond .ne 13, 3) := by decide +kernel
theorem dX5_buy_27 : decode cX5_buy 27 = .ok (.new 33, 3) := by decide +kernel
theorem dX5_buy_30 : decode cX5_buy 30 = .ok (.dup, 1) := by decide +kernel
theorem dX5_buy_31 : decode cX5_buy 31 = .ok (.ldc 35, 2) := by decide +kernel
theorem dX5_buy_33 : decode cX5_buy 33 = .ok (.invokespecial 37, 3) := by decide +kernel
theorem dX5_buy_36 : decode cX5_buy 36 = .ok (.athrow, 1) := by decide +kernel
theorem dX5_buy_37 : decode cX5_buy 37 = .ok (.getstatic 38, 3) := by decide +kernel
theorem dX5_buy_40 : decode cX5_buy 40 = .ok (.iload_n 1, 1) := by decide +kernel
theorem dX5_buy_41 : decode cX5_buy 41 = .ok (.iaload, 1) := by decide +kernel
theorem dX5_buy_42 : decode cX5_buy 42 = .ok (.iload_n 2, 1) := by decide +kernel
theorem dX5_buy_43 : decode cX5_buy 43 = .ok (.imul, 1) := by decide +kernel
theorem dX5_buy_44 : decode cX5_buy 44 = .ok (.istore_n 3, 1) := by decide +kernel
theorem dX5_buy_45 : decode cX5_buy 45 = .ok (.aload_n 0, 1) := by decide +kernel
theorem dX5_buy_46 : decode cX5_buy 46 = .ok (.getfield 10, 3) := by decide +kernel
theorem dX5_buy_49 : decode cX5_buy 49 = .ok (.getfield 42, 3) := by decide +kernel
theorem dX5_buy_52 : decode cX5_buy 52 = .ok (.iload_n 3, 1) := by decide +kernel
theorem dX5_buy_53 : decode cX5_buy 53 = .ok (.if_icmp .ge 13, 3) := by decide +kernel
theorem dX5_buy_56 : decode cX5_buy 56 = .ok (.new 46, 3) := by decide +kernel
theorem dX5_buy_59 : decode cX5_buy 59 = .ok (.dup, 1) := by decide +kernel
theorem dX5_buy_60 : decode cX5_buy 60 = .ok (.ldc 48, 2) := by decide +kernel
theorem dX5_buy_62 : decode cX5_buy 62 = .ok (.invokespecial 50, 3) := by decide +kernel
theorem dX5_buy_65 : decode cX5_buy 65 = .ok (.athrow, 1) := by decide +kernel
theorem dX5_buy_66 : decode cX5_buy 66 = .ok (.iload_n 1, 1) := by decide +kernel
theorem dX5_buy_67 : decode cX5_buy 67 = .ok (.iconst 3, 1) := by decide +kernel
theorem dX5_buy_68 : decode cX5_buy 68 = .ok (.if_icmp .ne 27, 3) := by decide +kernel
theorem dX5_buy_71 : decode cX5_buy 71 = .ok (.aload_n 0, 1) := by decide +kernel
theorem dX5_buy_72 : decode cX5_buy 72 = .ok (.getfield 10, 3) := by decide +kernel
theorem dX5_buy_75 : decode cX5_buy 75 = .ok (.getfield 51, 3) := by decide +kernel
theorem dX5_buy_78 : decode cX5_buy 78 = .ok (.iload_n 2, 1) := by decide +kernel
theorem dX5_buy_79 : decode cX5_buy 79 = .ok (.iadd, 1) := by decide +kernel
theorem dX5_buy_80 : decode cX5_buy 80 = .ok (.bipush 90, 2) := by decide +kernel
theorem dX5_buy_82 : decode cX5_buy 82 = .ok (.if_icmp .le 13, 3) := by decide +kernel
theorem dX5_buy_85 : decode cX5_buy 85 = .ok (.new 46, 3) := by decide +kernel
theorem dX5_buy_88 : decode cX5_buy 88 = .ok (.dup, 1) := by decide +kernel
theorem dX5_buy_89 : decode cX5_buy 89 = .ok (.ldc 54, 2) := by decide +kernel
theorem dX5_buy_91 : decode cX5_buy 91 = .ok (.invokespecial 50, 3) := by decide +kernel
theorem dX5_buy_94 : decode cX5_buy 94 = .ok (.athrow, 1) := by decide +kernel
theorem dX5_buy_95 : decode cX5_buy 95 = .ok (.aload_n 0, 1) := by decide +kernel
theorem dX5_buy_96 : decode cX5_buy 96 = .ok (.getfield 10, 3) := by decide +kernel
theorem dX5_buy_99 : decode cX5_buy 99 = .ok (.dup, 1) := by decide +kernel
theorem dX5_buy_100 : decode cX5_buy 100 = .ok (.getfield 42, 3) := by decide +kernel
theorem dX5_buy_103 : decode cX5_buy 103 = .ok (.iload_n 3, 1) := by decide +kernel
theorem dX5_buy_104 : decode cX5_buy 104 = .ok (.isub, 1) := by decide +kernel
theorem dX5_buy_105 : decode cX5_buy 105 = .ok (.putfield 42, 3) := by decide +kernel
theorem dX5_buy_108 : decode cX5_buy 108 = .ok (.aload_n 0, 1) := by decide +kernel
theorem dX5_buy_109 : decode cX5_buy 109 = .ok (.getfield 10, 3) := by decide +kernel
theorem dX5_buy_112 : decode cX5_buy 112 = .ok (.iload_n 1, 1) := by decide +kernel
theorem dX5_buy_113 : decode cX5_buy 113 = .ok (.iload_n 2, 1) := by decide +kernel
theorem dX5_buy_114 : decode cX5_buy 114 = .ok (.invokevirtual 56, 3) := by decide +kernel
theorem dX5_buy_117 : decode cX5_buy 117 = .ok (.ireturn, 1) := by decide +kernel
set_option maxRecDepth 20000 in
theorem ggX5_sell_X5_isBelow : GoodIn wsX5_sell wsX5_isBelow := goodIn_r _ [11] (by decide +kernel) (by decide +kernel)
set_option maxRecDepth 20000 in
theorem gX5_sell_X5_isBelow : GoodIn wsX5_sell (va_wsS RX5 19 yX5_isBelow wsX5_isBelow) := goodIn_app (goodIn_of _ (by decide +kernel)) ggX5_sell_X5_isBelow
set_option maxRecDepth 20000 in
theorem ggX5_sell_X5_isFrom1To : GoodIn wsX5_sell wsX5_isFrom1To := goodIn_r _ [14] (by decide +kernel) (by decide +kernel)
set_option maxRecDepth 20000 in
theorem gX5_sell_X5_isFrom1To : GoodIn wsX5_sell (va_wsS RX5 30 yX5_isFrom1To wsX5_isFrom1To) := goodIn_app (goodIn_of _ (by decide +kernel)) ggX5_sell_X5_isFrom1To
set_option maxRecDepth 20000 in
theorem ggX5_sell_X0_hanging : GoodIn wsX5_sell wsX0_hanging := goodIn_r _ [19, 20, 9, 10, 11, 31, 32, 33, 34, 35, 36, 37, 38, 39, 40, 41, 42] (by decide +kernel) (by decide +kernel)
set_option maxRecDepth 20000 in
theorem gX5_sell_X0_hanging : GoodIn wsX5_sell (wsV RX5 64 RX0 yX0_hanging wsX0_hanging) := goodIn_app (goodIn_of _ (by decide +kernel)) ggX5_sell_X0_hanging
set_option maxRecDepth 20000 in
theorem ggX5_sell_X5_worthOf : GoodIn wsX5_sell wsX5_worthOf := goodIn_r _ [23, 24, 8, 9, 10, 11] (by decide +kernel) (by decide +kernel)
set_option maxRecDepth 20000 in
theorem gX5_sell_X5_worthOf : GoodIn wsX5_sell (va_wsS RX5 69 yX5_worthOf wsX5_worthOf) := goodIn_app (goodIn_of _ (by decide +kernel)) ggX5_sell_X5_worthOf
set_option maxRecDepth 20000 in
theorem ggX5_sell_X0_hang : GoodIn wsX5_sell wsX0_hang := goodIn_r _ [28, 20, 9, 10, 11, 31, 32, 33, 34, 35, 36, 37, 38, 39, 40, 41, 42] (by decide +kernel) (by decide +kernel)
set_option maxRecDepth 20000 in
theorem gX5_sell_X0_hang : GoodIn wsX5_sell (wsV RX5 73 RX0 yX0_hang wsX0_hang) := goodIn_app (goodIn_of _ (by decide +kernel)) ggX5_sell_X0_hang
theorem dX5_sell_0 : decode cX5_sell 0 = .ok (.iload_n 1, 1) := by decide +kernel
theorem dX5_sell_1 : decode cX5_sell 1 = .ok (.bipush 10, 2) := by decide +kernel
theorem dX5_sell_3 : decode cX5_sell 3 = .ok (.invokestatic 19, 3) := by decide +kernel
theorem dX5_sell_6 : decode cX5_sell 6 = .ok (.ifCond .eq 11, 3) := by decide +kernel
theorem dX5_sell_9 : decode cX5_sell 9 = .ok (.iload_n 2, 1) := by decide +kernel
theorem dX5_sell_10 : decode cX5_sell 10 = .ok (.iconst 3, 1) := by decide +kernel
theorem dX5_sell_11 : decode cX5_sell 11 = .ok (.invokestatic 19, 3) := by decide +kernel
theorem dX5_sell_14 : decode cX5_sell 14 = .ok (.ifCond .ne 13, 3) := by decide +kernel
theorem dX5_sell_17 : decode cX5_sell 17 = .ok (.new 23, 3) := by decide +kernel
theorem dX5_sell_20 : decode cX5_sell 20 = .ok (.dup, 1) := by decide +kernel
theorem dX5_sell_21 : decode cX5_sell 21 = .ok (.ldc 60, 2) := by decide +kernel
theorem dX5_sell_23 : decode cX5_sell 23 = .ok (.invokespecial 27, 3) := by decide +kernel
theorem dX5_sell_26 : decode cX5_sell 26 = .ok (.athrow, 1) := by decide +kernel
theorem dX5_sell_27 : decode cX5_sell 27 = .ok (.iload_n 3, 1) := by decide +kernel
theorem dX5_sell_28 : decode cX5_sell 28 = .ok (.bipush 9, 2) := by decide +kernel
theorem dX5_sell_30 : decode cX5_sell 30 = .ok (.invokestatic 30, 3) := by decide +kernel
theorem dX5_sell_33 : decode cX5_sell 33 = .ok (.ifCond .ne 13, 3) := by decide +kernel
theorem dX5_sell_36 : decode cX5_sell 36 = .ok (.new 33, 3) := by decide +kernel
theorem dX5_sell_39 : decode cX5_sell 39 = .ok (.dup, 1) := by decide +kernel
theorem dX5_sell_40 : decode cX5_sell 40 = .ok (.ldc 62, 2) := by decide +kernel
theorem dX5_sell_42 : decode cX5_sell 42 = .ok (.invokespecial 37, 3) := by decide +kernel
theorem dX5_sell_45 : decode cX5_sell 45 = .ok (.athrow, 1) := by decide +kernel
theorem dX5_sell_46 : decode cX5_sell 46 = .ok (.iload_n 3, 1) := by decide +kernel
theorem dX5_sell_47 : decode cX5_sell 47 = .ok (.bipush 24, 2) := by decide +kernel
theorem dX5_sell_49 : decode cX5_sell 49 = .ok (.imul, 1) := by decide +kernel
theorem dX5_sell_50 : decode cX5_sell 50 = .ok (.istore 4, 2) := by decide +kernel
theorem dX5_sell_52 : decode cX5_sell 52 = .ok (.aload_n 0, 1) := by decide +kernel
theorem dX5_sell_53 : decode cX5_sell 53 = .ok (.getfield 10, 3) := by decide +kernel
theorem dX5_sell_56 : decode cX5_sell 56 = .ok (.iload_n 1, 1) := by decide +kernel
theorem dX5_sell_57 : decode cX5_sell 57 = .ok (.iload_n 2, 1) := by decide +kernel
theorem dX5_sell_58 : decode cX5_sell 58 = .ok (.invokevirtual 64, 3) := by decide +kernel
theorem dX5_sell_61 : decode cX5_sell 61 = .ok (.iload 4, 2) := by decide +kernel
theorem dX5_sell_63 : decode cX5_sell 63 = .ok (.if_icmp .ge 13, 3) := by decide +kernel
theorem dX5_sell_66 : decode cX5_sell 66 = .ok (.new 46, 3) := by decide +kernel
theorem dX5_sell_69 : decode cX5_sell 69 = .ok (.dup, 1) := by decide +kernel
theorem dX5_sell_70 : decode cX5_sell 70 = .ok (.ldc 67, 2) := by decide +kernel
theorem dX5_sell_72 : decode cX5_sell 72 = .ok (.invokespecial 50, 3) := by decide +kernel
theorem dX5_sell_75 : decode cX5_sell 75 = .ok (.athrow, 1) := by decide +kernel
theorem dX5_sell_76 : decode cX5_sell 76 = .ok (.iload_n 3, 1) := by decide +kernel
theorem dX5_sell_77 : decode cX5_sell 77 = .ok (.iload_n 2, 1) := by decide +kernel
theorem dX5_sell_78 : decode cX5_sell 78 = .ok (.invokestatic 69, 3) := by decide +kernel
theorem dX5_sell_81 : decode cX5_sell 81 = .ok (.imul, 1) := by decide +kernel
theorem dX5_sell_82 : decode cX5_sell 82 = .ok (.istore 5, 2) := by decide +kernel
theorem dX5_sell_84 : decode cX5_sell 84 = .ok (.aload_n 0, 1) := by decide +kernel
theorem dX5_sell_85 : decode cX5_sell 85 = .ok (.getfield 10, 3) := by decide +kernel
theorem dX5_sell_88 : decode cX5_sell 88 = .ok (.iload_n 1, 1) := by decide +kernel
theorem dX5_sell_89 : decode cX5_sell 89 = .ok (.iload_n 2, 1) := by decide +kernel
theorem dX5_sell_90 : decode cX5_sell 90 = .ok (.iload 4, 2) := by decide +kernel
theorem dX5_sell_92 : decode cX5_sell 92 = .ok (.ineg, 1) := by decide +kernel
theorem dX5_sell_93 : decode cX5_sell 93 = .ok (.invokevirtual 73, 3) := by decide +kernel
theorem dX5_sell_96 : decode cX5_sell 96 = .ok (.aload_n 0, 1) := by decide +kernel
theorem dX5_sell_97 : decode cX5_sell 97 = .ok (.getfield 10, 3) := by decide +kernel
theorem dX5_sell_100 : decode cX5_sell 100 = .ok (.dup, 1) := by decide +kernel
theorem dX5_sell_101 : decode cX5_sell 101 = .ok (.getfield 42, 3) := by decide +kernel
theorem dX5_sell_104 : decode cX5_sell 104 = .ok (.iload 5, 2) := by decide +kernel
theorem dX5_sell_106 : decode cX5_sell 106 = .ok (.iadd, 1) := by decide +kernel
theorem dX5_sell_107 : decode cX5_sell 107 = .ok (.putfield 42, 3) := by decide +kernel
theorem dX5_sell_110 : decode cX5_sell 110 = .ok (.iload 5, 2) := by decide +kernel
theorem dX5_sell_112 : decode cX5_sell 112 = .ok (.ireturn, 1) := by decide +kernel
set_option maxRecDepth 20000 in
theorem ggX5_fill_X5_isBelow : GoodIn wsX5_fill wsX5_isBelow := goodIn_r _ [11] (by decide +kernel) (by decide +kernel)
set_option maxRecDepth 20000 in
theorem gX5_fill_X5_isBelow : GoodIn wsX5_fill (va_wsS RX5 19 yX5_isBelow wsX5_isBelow) := goodIn_app (goodIn_of _ (by decide +kernel)) ggX5_fill_X5_isBelow
set_option maxRecDepth 20000 in
theorem ggX5_fill_X5_isFrom1To : GoodIn wsX5_fill wsX5_isFrom1To := goodIn_r _ [14] (by decide +kernel) (by decide +kernel)
set_option maxRecDepth 20000 in
theorem gX5_fill_X5_isFrom1To : GoodIn wsX5_fill (va_wsS RX5 30 yX5_isFrom1To wsX5_isFrom1To) := goodIn_app (goodIn_of _ (by decide +kernel)) ggX5_fill_X5_isFrom1To
set_option maxRecDepth 20000 in
theorem ggX5_fill_X4_pulpOf : GoodIn wsX5_fill wsX4_pulpOf := goodIn_r _ [19, 20, 9, 10, 11, 41, 42, 43] (by decide +kernel) (by decide +kernel)
set_option maxRecDepth 20000 in
theorem gX5_fill_X4_pulpOf : GoodIn wsX5_fill (wsV RX5 85 RX4 yX4_pulpOf wsX4_pulpOf) := goodIn_app (goodIn_of _ (by decide +kernel)) ggX5_fill_X4_pulpOf
set_option maxRecDepth 20000 in
theorem ggX5_fill_X4_charge : GoodIn wsX5_fill wsX4_charge := goodIn_r _ [24, 20, 25, 26, 9, 10, 11, 41, 42, 43] (by decide +kernel) (by decide +kernel)
set_option maxRecDepth 20000 in
theorem gX5_fill_X4_charge : GoodIn wsX5_fill (wsV RX5 97 RX4 yX4_charge wsX4_charge) := goodIn_app (goodIn_of _ (by decide +kernel)) ggX5_fill_X4_charge
theorem dX5_fill_0 : decode cX5_fill 0 = .ok (.iload_n 1, 1) := by decide +kernel
theorem dX5_fill_1 : decode cX5_fill 1 = .ok (.iconst 4, 1) := by decide +kernel
theorem dX5_fill_2 : decode cX5_fill 2 = .ok (.invokestatic 19, 3) := by decide +kernel
theorem dX5_fill_5 : decode cX5_fill 5 = .ok (.ifCond .eq 11, 3) := by decide +kernel
theorem dX5_fill_8 : decode cX5_fill 8 = .ok (.iload_n 2, 1) := by decide +kernel
theorem dX5_fill_9 : decode cX5_fill 9 = .ok (.iconst 3, 1) := by decide +kernel
theorem dX5_fill_10 : decode cX5_fill 10 = .ok (.invokestatic 19, 3) := by decide +kernel
theorem dX5_fill_13 : decode cX5_fill 13 = .ok (.ifCond .ne 13, 3) := by decide +kernel
theorem dX5_fill_16 : decode cX5_fill 16 = .ok (.new 23, 3) := by decide +kernel
theorem dX5_fill_19 : decode cX5_fill 19 = .ok (.dup, 1) := by decide +kernel
theorem dX5_fill_20 : decode cX5_fill 20 = .ok (.ldc 77, 2) := by decide +kernel
theorem dX5_fill_22 : decode cX5_fill 22 = .ok (.invokespecial 27, 3) := by decide +kernel
theorem dX5_fill_25 : decode cX5_fill 25 = .ok (.athrow, 1) := by decide +kernel
theorem dX5_fill_26 : decode cX5_fill 26 = .ok (.iload_n 3, 1) := by decide +kernel
theorem dX5_fill_27 : decode cX5_fill 27 = .ok (.bipush 40, 2) := by decide +kernel
theorem dX5_fill_29 : decode cX5_fill 29 = .ok (.invokestatic 30, 3) := by decide +kernel
theorem dX5_fill_32 : decode cX5_fill 32 = .ok (.ifCond .ne 13, 3) := by decide +kernel
theorem dX5_fill_35 : decode cX5_fill 35 = .ok (.new 33, 3) := by decide +kernel
theorem dX5_fill_38 : decode cX5_fill 38 = .ok (.dup, 1) := by decide +kernel
theorem dX5_fill_39 : decode cX5_fill 39 = .ok (.ldc 79, 2) := by decide +kernel
theorem dX5_fill_41 : decode cX5_fill 41 = .ok (.invokespecial 37, 3) := by decide +kernel
theorem dX5_fill_44 : decode cX5_fill 44 = .ok (.athrow, 1) := by decide +kernel
theorem dX5_fill_45 : decode cX5_fill 45 = .ok (.aload_n 0, 1) := by decide +kernel
theorem dX5_fill_46 : decode cX5_fill 46 = .ok (.getfield 10, 3) := by decide +kernel
theorem dX5_fill_49 : decode cX5_fill 49 = .ok (.getfield 81, 3) := by decide +kernel
theorem dX5_fill_52 : decode cX5_fill 52 = .ok (.iload_n 1, 1) := by decide +kernel
theorem dX5_fill_53 : decode cX5_fill 53 = .ok (.invokevirtual 85, 3) := by decide +kernel
theorem dX5_fill_56 : decode cX5_fill 56 = .ok (.ifCond .le 13, 3) := by decide +kernel
theorem dX5_fill_59 : decode cX5_fill 59 = .ok (.new 46, 3) := by decide +kernel
theorem dX5_fill_62 : decode cX5_fill 62 = .ok (.dup, 1) := by decide +kernel
theorem dX5_fill_63 : decode cX5_fill 63 = .ok (.ldc 90, 2) := by decide +kernel
theorem dX5_fill_65 : decode cX5_fill 65 = .ok (.invokespecial 50, 3) := by decide +kernel
theorem dX5_fill_68 : decode cX5_fill 68 = .ok (.athrow, 1) := by decide +kernel
theorem dX5_fill_69 : decode cX5_fill 69 = .ok (.aload_n 0, 1) := by decide +kernel
theorem dX5_fill_70 : decode cX5_fill 70 = .ok (.getfield 10, 3) := by decide +kernel
theorem dX5_fill_73 : decode cX5_fill 73 = .ok (.getfield 92, 3) := by decide +kernel
theorem dX5_fill_76 : decode cX5_fill 76 = .ok (.iload_n 2, 1) := by decide +kernel
theorem dX5_fill_77 : decode cX5_fill 77 = .ok (.iaload, 1) := by decide +kernel
theorem dX5_fill_78 : decode cX5_fill 78 = .ok (.iload_n 3, 1) := by decide +kernel
theorem dX5_fill_79 : decode cX5_fill 79 = .ok (.if_icmp .ge 13, 3) := by decide +kernel
theorem dX5_fill_82 : decode cX5_fill 82 = .ok (.new 46, 3) := by decide +kernel
theorem dX5_fill_85 : decode cX5_fill 85 = .ok (.dup, 1) := by decide +kernel
theorem dX5_fill_86 : decode cX5_fill 86 = .ok (.ldc 95, 2) := by decide +kernel
theorem dX5_fill_88 : decode cX5_fill 88 = .ok (.invokespecial 50, 3) := by decide +kernel
theorem dX5_fill_91 : decode cX5_fill 91 = .ok (.athrow, 1) := by decide +kernel
theorem dX5_fill_92 : decode cX5_fill 92 = .ok (.aload_n 0, 1) := by decide +kernel
theorem dX5_fill_93 : decode cX5_fill 93 = .ok (.getfield 10, 3) := by decide +kernel
theorem dX5_fill_96 : decode cX5_fill 96 = .ok (.getfield 92, 3) := by decide +kernel
theorem dX5_fill_99 : decode cX5_fill 99 = .ok (.iload_n 2, 1) := by decide +kernel
theorem dX5_fill_100 : decode cX5_fill 100 = .ok (.dup2, 1) := by decide +kernel
theorem dX5_fill_101 : decode cX5_fill 101 = .ok (.iaload, 1) := by decide +kernel
theorem dX5_fill_102 : decode cX5_fill 102 = .ok (.iload_n 3, 1) := by decide +kernel
theorem dX5_fill_103 : decode cX5_fill 103 = .ok (.isub, 1) := by decide +kernel
theorem dX5_fill_104 : decode cX5_fill 104 = .ok (.iastore, 1) := by decide +kernel
theorem dX5_fill_105 : decode cX5_fill 105 = .ok (.aload_n 0, 1) := by decide +kernel
theorem dX5_fill_106 : decode cX5_fill 106 = .ok (.getfield 10, 3) := by decide +kernel
theorem dX5_fill_109 : decode cX5_fill 109 = .ok (.getfield 81, 3) := by decide +kernel
theorem dX5_fill_112 : decode cX5_fill 112 = .ok (.iload_n 1, 1) := by decide +kernel
theorem dX5_fill_113 : decode cX5_fill 113 = .ok (.iload_n 2, 1) := by decide +kernel
theorem dX5_fill_114 : decode cX5_fill 114 = .ok (.iload_n 3, 1) := by decide +kernel
theorem dX5_fill_115 : decode cX5_fill 115 = .ok (.invokevirtual 97, 3) := by decide +kernel
theorem dX5_fill_118 : decode cX5_fill 118 = .ok (.aload_n 0, 1) := by decide +kernel
theorem dX5_fill_119 : decode cX5_fill 119 = .ok (.getfield 10, 3) := by decide +kernel
theorem dX5_fill_122 : decode cX5_fill 122 = .ok (.getfield 92, 3) := by decide +kernel
theorem dX5_fill_125 : decode cX5_fill 125 = .ok (.iload_n 2, 1) := by decide +kernel
theorem dX5_fill_126 : decode cX5_fill 126 = .ok (.iaload, 1) := by decide +kernel
theorem dX5_fill_127 : decode cX5_fill 127 = .ok (.ireturn, 1) := by decide +kernel
set_option maxRecDepth 20000 in
theorem ggX5_drain_X5_isBelow : GoodIn wsX5_drain wsX5_isBelow := goodIn_r _ [9] (by decide +kernel) (by decide +kernel)
set_option maxRecDepth 20000 in
theorem gX5_drain_X5_isBelow : GoodIn wsX5_drain (va_wsS RX5 19 yX5_isBelow wsX5_isBelow) := goodIn_app (goodIn_of _ (by decide +kernel)) ggX5_drain_X5_isBelow
set_option maxRecDepth 20000 in
theorem ggX5_drain_X4_pulpOf : GoodIn wsX5_drain wsX4_pulpOf := goodIn_r _ [14, 15, 7, 8, 9, 40, 41, 42] (by decide +kernel) (by decide +kernel)
set_option maxRecDepth 20000 in
theorem gX5_drain_X4_pulpOf : GoodIn wsX5_drain (wsV RX5 85 RX4 yX4_pulpOf wsX4_pulpOf) := goodIn_app (goodIn_of _ (by decide +kernel)) ggX5_drain_X4_pulpOf
set_option maxRecDepth 20000 in
theorem ggX5_drain_X4_takeOut : GoodIn wsX5_drain wsX4_takeOut := goodIn_r _ [19, 15, 7, 8, 9, 20, 21, 22, 13, 23, 24, 25, 40, 41, 42] (by decide +kernel) (by decide +kernel)
set_option maxRecDepth 20000 in
theorem gX5_drain_X4_takeOut : GoodIn wsX5_drain (wsV RX5 104 RX4 yX4_takeOut wsX4_takeOut) := goodIn_app (goodIn_of _ (by decide +kernel)) ggX5_drain_X4_takeOut
theorem dX5_drain_0 : decode cX5_drain 0 = .ok (.iload_n 1, 1) := by decide +kernel
theorem dX5_drain_1 : decode cX5_drain 1 = .ok (.iconst 4, 1) := by decide +kernel
theorem dX5_drain_2 : decode cX5_drain 2 = .ok (.invokestatic 19, 3) := by decide +kernel
theorem dX5_drain_5 : decode cX5_drain 5 = .ok (.ifCond .ne 13, 3) := by decide +kernel
theorem dX5_drain_8 : decode cX5_drain 8 = .ok (.new 23, 3) := by decide +kernel
theorem dX5_drain_11 : decode cX5_drain 11 = .ok (.dup, 1) := by decide +kernel
theorem dX5_drain_12 : decode cX5_drain 12 = .ok (.ldc 100, 2) := by decide +kernel
theorem dX5_drain_14 : decode cX5_drain 14 = .ok (.invokespecial 27, 3) := by decide +kernel
theorem dX5_drain_17 : decode cX5_drain 17 = .ok (.athrow, 1) := by decide +kernel
theorem dX5_drain_18 : decode cX5_drain 18 = .ok (.aload_n 0, 1) := by decide +kernel
theorem dX5_drain_19 : decode cX5_drain 19 = .ok (.getfield 10, 3) := by decide +kernel
theorem dX5_drain_22 : decode cX5_drain 22 = .ok (.getfield 81, 3) := by decide +kernel
theorem dX5_drain_25 : decode cX5_drain 25 = .ok (.iload_n 1, 1) := by decide +kernel
theorem dX5_drain_26 : decode cX5_drain 26 = .ok (.invokevirtual 85, 3) := by decide +kernel
theorem dX5_drain_29 : decode cX5_drain 29 = .ok (.istore_n 2, 1) := by decide +kernel
theorem dX5_drain_30 : decode cX5_drain 30 = .ok (.iload_n 2, 1) := by decide +kernel
theorem dX5_drain_31 : decode cX5_drain 31 = .ok (.ifCond .ne 13, 3) := by decide +kernel
theorem dX5_drain_34 : decode cX5_drain 34 = .ok (.new 46, 3) := by decide +kernel
theorem dX5_drain_37 : decode cX5_drain 37 = .ok (.dup, 1) := by decide +kernel
theorem dX5_drain_38 : decode cX5_drain 38 = .ok (.ldc 102, 2) := by decide +kernel
theorem dX5_drain_40 : decode cX5_drain 40 = .ok (.invokespecial 50, 3) := by decide +kernel
theorem dX5_drain_43 : decode cX5_drain 43 = .ok (.athrow, 1) := by decide +kernel
theorem dX5_drain_44 : decode cX5_drain 44 = .ok (.aload_n 0, 1) := by decide +kernel
theorem dX5_drain_45 : decode cX5_drain 45 = .ok (.getfield 10, 3) := by decide +kernel
theorem dX5_drain_48 : decode cX5_drain 48 = .ok (.getfield 81, 3) := by decide +kernel
theorem dX5_drain_51 : decode cX5_drain 51 = .ok (.iload_n 1, 1) := by decide +kernel
theorem dX5_drain_52 : decode cX5_drain 52 = .ok (.iload_n 2, 1) := by decide +kernel
theorem dX5_drain_53 : decode cX5_drain 53 = .ok (.invokevirtual 104, 3) := by decide +kernel
theorem dX5_drain_56 : decode cX5_drain 56 = .ok (.iload_n 2, 1) := by decide +kernel
theorem dX5_drain_57 : decode cX5_drain 57 = .ok (.ireturn, 1) := by decide +kernel
set_option maxRecDepth 20000 in
theorem ggX5_pair_X5_isBelow : GoodIn wsX5_pair wsX5_isBelow := goodIn_r _ [11] (by decide +kernel) (by decide +kernel)
set_option maxRecDepth 20000 in
theorem gX5_pair_X5_isBelow : GoodIn wsX5_pair (va_wsS RX5 19 yX5_isBelow wsX5_isBelow) := goodIn_app (goodIn_of _ (by decide +kernel)) ggX5_pair_X5_isBelow
set_option maxRecDepth 20000 in
theorem ggX5_pair_X5_isFrom1To : GoodIn wsX5_pair wsX5_isFrom1To := goodIn_r _ [14] (by decide +kernel) (by decide +kernel)
set_option maxRecDepth 20000 in
theorem gX5_pair_X5_isFrom1To : GoodIn wsX5_pair (va_wsS RX5 30 yX5_isFrom1To wsX5_isFrom1To) := goodIn_app (goodIn_of _ (by decide +kernel)) ggX5_pair_X5_isFrom1To
set_option maxRecDepth 20000 in
theorem ggX5_pair_X1_add : GoodIn wsX5_pair wsX1_add := goodIn_r _ [19, 20, 21, 22, 23, 38, 39, 40, 41] (by decide +kernel) (by decide +kernel)
set_option maxRecDepth 20000 in
theorem gX5_pair_X1_add : GoodIn wsX5_pair (wsV RX5 123 RX1 yX1_add wsX1_add) := goodIn_app (goodIn_of _ (by decide +kernel)) ggX5_pair_X1_add
theorem dX5_pair_0 : decode cX5_pair 0 = .ok (.iload_n 1, 1) := by decide +kernel
theorem dX5_pair_1 : decode cX5_pair 1 = .ok (.bipush 10, 2) := by decide +kernel
theorem dX5_pair_3 : decode cX5_pair 3 = .ok (.invokestatic 19, 3) := by decide +kernel
theorem dX5_pair_6 : decode cX5_pair 6 = .ok (.ifCond .ne 13, 3) := by decide +kernel
theorem dX5_pair_9 : decode cX5_pair 9 = .ok (.new 23, 3) := by decide +kernel
theorem dX5_pair_12 : decode cX5_pair 12 = .ok (.dup, 1) := by decide +kernel
theorem dX5_pair_13 : decode cX5_pair 13 = .ok (.ldc 108, 2) := by decide +kernel
theorem dX5_pair_15 : decode cX5_pair 15 = .ok (.invokespecial 27, 3) := by decide +kernel
theorem dX5_pair_18 : decode cX5_pair 18 = .ok (.athrow, 1) := by decide +kernel
theorem dX5_pair_19 : decode cX5_pair 19 = .ok (.iload_n 2, 1) := by decide +kernel
theorem dX5_pair_20 : decode cX5_pair 20 = .ok (.iconst 3, 1) := by decide +kernel
theorem dX5_pair_21 : decode cX5_pair 21 = .ok (.invokestatic 30, 3) := by decide +kernel
theorem dX5_pair_24 : decode cX5_pair 24 = .ok (.ifCond .ne 13, 3) := by decide +kernel
theorem dX5_pair_27 : decode cX5_pair 27 = .ok (.new 33, 3) := by decide +kernel
theorem dX5_pair_30 : decode cX5_pair 30 = .ok (.dup, 1) := by decide +kernel
theorem dX5_pair_31 : decode cX5_pair 31 = .ok (.ldc 110, 2) := by decide +kernel
theorem dX5_pair_33 : decode cX5_pair 33 = .ok (.invokespecial 37, 3) := by decide +kernel
theorem dX5_pair_36 : decode cX5_pair 36 = .ok (.athrow, 1) := by decide +kernel
theorem dX5_pair_37 : decode cX5_pair 37 = .ok (.aload_n 0, 1) := by decide +kernel
theorem dX5_pair_38 : decode cX5_pair 38 = .ok (.getfield 10, 3) := by decide +kernel
theorem dX5_pair_41 : decode cX5_pair 41 = .ok (.getfield 112, 3) := by decide +kernel
theorem dX5_pair_44 : decode cX5_pair 44 = .ok (.getfield 116, 3) := by decide +kernel
theorem dX5_pair_47 : decode cX5_pair 47 = .ok (.iconst 5, 1) := by decide +kernel
theorem dX5_pair_48 : decode cX5_pair 48 = .ok (.if_icmp .lt 13, 3) := by decide +kernel
theorem dX5_pair_51 : decode cX5_pair 51 = .ok (.new 46, 3) := by decide +kernel
theorem dX5_pair_54 : decode cX5_pair 54 = .ok (.dup, 1) := by decide +kernel
theorem dX5_pair_55 : decode cX5_pair 55 = .ok (.ldc 121, 2) := by decide +kernel
theorem dX5_pair_57 : decode cX5_pair 57 = .ok (.invokespecial 50, 3) := by decide +kernel
theorem dX5_pair_60 : decode cX5_pair 60 = .ok (.athrow, 1) := by decide +kernel
theorem dX5_pair_61 : decode cX5_pair 61 = .ok (.aload_n 0, 1) := by decide +kernel
theorem dX5_pair_62 : decode cX5_pair 62 = .ok (.getfield 10, 3) := by decide +kernel
theorem dX5_pair_65 : decode cX5_pair 65 = .ok (.getfield 112, 3) := by decide +kernel
theorem dX5_pair_68 : decode cX5_pair 68 = .ok (.iload_n 1, 1) := by decide +kernel
theorem dX5_pair_69 : decode cX5_pair 69 = .ok (.iload_n 2, 1) := by decide +kernel
theorem dX5_pair_70 : decode cX5_pair 70 = .ok (.invokevirtual 123, 3) := by decide +kernel
theorem dX5_pair_73 : decode cX5_pair 73 = .ok (.ireturn, 1) := by decide +kernel
set_option maxRecDepth 20000 in
theorem ggX5_wire_X1_has : GoodIn wsX5_wire wsX1_has := goodIn_r _ [10, 11, 36, 37, 38, 39] (by decide +kernel) (by decide +kernel)
set_option maxRecDepth 20000 in
theorem gX5_wire_X1_has : GoodIn wsX5_wire (wsV RX5 126 RX1 yX1_has wsX1_has) := goodIn_app (goodIn_of _ (by decide +kernel)) ggX5_wire_X1_has
set_option maxRecDepth 20000 in
theorem ggX5_wire_X1_wornOf : GoodIn wsX5_wire wsX1_wornOf := goodIn_r _ [15, 16, 17, 7, 8, 9, 10, 11, 36, 37, 38, 39] (by decide +kernel) (by decide +kernel)
set_option maxRecDepth 20000 in
theorem gX5_wire_X1_wornOf : GoodIn wsX5_wire (wsV RX5 132 RX1 yX1_wornOf wsX1_wornOf) := goodIn_app (goodIn_of _ (by decide +kernel)) ggX5_wire_X1_wornOf
set_option maxRecDepth 20000 in
theorem ggX5_wire_X1_makeNew : GoodIn wsX5_wire wsX1_makeNew := goodIn_r _ [21, 16, 17, 7, 8, 9, 10, 11, 36, 37, 38, 39] (by decide +kernel) (by decide +kernel)
set_option maxRecDepth 20000 in
theorem gX5_wire_X1_makeNew : GoodIn wsX5_wire (wsV RX5 137 RX1 yX1_makeNew wsX1_makeNew) := goodIn_app (goodIn_of _ (by decide +kernel)) ggX5_wire_X1_makeNew
theorem dX5_wire_0 : decode cX5_wire 0 = .ok (.aload_n 0, 1) := by decide +kernel
theorem dX5_wire_1 : decode cX5_wire 1 = .ok (.getfield 10, 3) := by decide +kernel
theorem dX5_wire_4 : decode cX5_wire 4 = .ok (.getfield 112, 3) := by decide +kernel
theorem dX5_wire_7 : decode cX5_wire 7 = .ok (.iload_n 1, 1) := by decide +kernel
theorem dX5_wire_8 : decode cX5_wire 8 = .ok (.invokevirtual 126, 3) := by decide +kernel
theorem dX5_wire_11 : decode cX5_wire 11 = .ok (.ifCond .ne 13, 3) := by decide +kernel
theorem dX5_wire_14 : decode cX5_wire 14 = .ok (.new 23, 3) := by decide +kernel
theorem dX5_wire_17 : decode cX5_wire 17 = .ok (.dup, 1) := by decide +kernel
theorem dX5_wire_18 : decode cX5_wire 18 = .ok (.ldc 130, 2) := by decide +kernel
theorem dX5_wire_20 : decode cX5_wire 20 = .ok (.invokespecial 27, 3) := by decide +kernel
theorem dX5_wire_23 : decode cX5_wire 23 = .ok (.athrow, 1) := by decide +kernel
theorem dX5_wire_24 : decode cX5_wire 24 = .ok (.aload_n 0, 1) := by decide +kernel
theorem dX5_wire_25 : decode cX5_wire 25 = .ok (.getfield 10, 3) := by decide +kernel
theorem dX5_wire_28 : decode cX5_wire 28 = .ok (.getfield 112, 3) := by decide +kernel
theorem dX5_wire_31 : decode cX5_wire 31 = .ok (.iload_n 1, 1) := by decide +kernel
theorem dX5_wire_32 : decode cX5_wire 32 = .ok (.invokevirtual 132, 3) := by decide +kernel
theorem dX5_wire_35 : decode cX5_wire 35 = .ok (.istore_n 2, 1) := by decide +kernel
theorem dX5_wire_36 : decode cX5_wire 36 = .ok (.iload_n 2, 1) := by decide +kernel
theorem dX5_wire_37 : decode cX5_wire 37 = .ok (.ifCond .ne 13, 3) := by decide +kernel
theorem dX5_wire_40 : decode cX5_wire 40 = .ok (.new 46, 3) := by decide +kernel
theorem dX5_wire_43 : decode cX5_wire 43 = .ok (.dup, 1) := by decide +kernel
theorem dX5_wire_44 : decode cX5_wire 44 = .ok (.ldc 135, 2) := by decide +kernel
theorem dX5_wire_46 : decode cX5_wire 46 = .ok (.invokespecial 50, 3) := by decide +kernel
theorem dX5_wire_49 : decode cX5_wire 49 = .ok (.athrow, 1) := by decide +kernel
theorem dX5_wire_50 : decode cX5_wire 50 = .ok (.aload_n 0, 1) := by decide +kernel
theorem dX5_wire_51 : decode cX5_wire 51 = .ok (.getfield 10, 3) := by decide +kernel
theorem dX5_wire_54 : decode cX5_wire 54 = .ok (.getfield 42, 3) := by decide +kernel
theorem dX5_wire_57 : decode cX5_wire 57 = .ok (.iconst 5, 1) := by decide +kernel
theorem dX5_wire_58 : decode cX5_wire 58 = .ok (.if_icmp .ge 13, 3) := by decide +kernel
theorem dX5_wire_61 : decode cX5_wire 61 = .ok (.new 46, 3) := by decide +kernel
theorem dX5_wire_64 : decode cX5_wire 64 = .ok (.dup, 1) := by decide +kernel
theorem dX5_wire_65 : decode cX5_wire 65 = .ok (.ldc 48, 2) := by decide +kernel
theorem dX5_wire_67 : decode cX5_wire 67 = .ok (.invokespecial 50, 3) := by decide +kernel
theorem dX5_wire_70 : decode cX5_wire 70 = .ok (.athrow, 1) := by decide +kernel
theorem dX5_wire_71 : decode cX5_wire 71 = .ok (.aload_n 0, 1) := by decide +kernel
theorem dX5_wire_72 : decode cX5_wire 72 = .ok (.getfield 10, 3) := by decide +kernel
theorem dX5_wire_75 : decode cX5_wire 75 = .ok (.dup, 1) := by decide +kernel
theorem dX5_wire_76 : decode cX5_wire 76 = .ok (.getfield 42, 3) := by decide +kernel
theorem dX5_wire_79 : decode cX5_wire 79 = .ok (.iconst 5, 1) := by decide +kernel
theorem dX5_wire_80 : decode cX5_wire 80 = .ok (.isub, 1) := by decide +kernel
theorem dX5_wire_81 : decode cX5_wire 81 = .ok (.putfield 42, 3) := by decide +kernel
theorem dX5_wire_84 : decode cX5_wire 84 = .ok (.aload_n 0, 1) := by decide +kernel
theorem dX5_wire_85 : decode cX5_wire 85 = .ok (.getfield 10, 3) := by decide +kernel
theorem dX5_wire_88 : decode cX5_wire 88 = .ok (.getfield 112, 3) := by decide +kernel
theorem dX5_wire_91 : decode cX5_wire 91 = .ok (.iload_n 1, 1) := by decide +kernel
theorem dX5_wire_92 : decode cX5_wire 92 = .ok (.invokevirtual 137, 3) := by decide +kernel
theorem dX5_wire_95 : decode cX5_wire 95 = .ok (.iload_n 2, 1) := by decide +kernel
theorem dX5_wire_96 : decode cX5_wire 96 = .ok (.ireturn, 1) := by decide +kernel
set_option maxRecDepth 20000 in
theorem ggX5_team_X5_isFrom1To : GoodIn wsX5_team wsX5_isFrom1To := goodIn_r _ [9] (by decide +kernel) (by decide +kernel)
set_option maxRecDepth 20000 in
theorem gX5_team_X5_isFrom1To : GoodIn wsX5_team (va_wsS RX5 30 yX5_isFrom1To wsX5_isFrom1To) := goodIn_app (goodIn_of _ (by decide +kernel)) ggX5_team_X5_isFrom1To
set_option maxRecDepth 20000 in
theorem ggX5_team_X3_add : GoodIn wsX5_team wsX3_add := goodIn_r _ [14, 15, 16, 17, 18, 33, 34, 35, 36] (by decide +kernel) (by decide +kernel)
set_option maxRecDepth 20000 in
theorem gX5_team_X3_add : GoodIn wsX5_team (wsV RX5 152 RX3 yX3_add wsX3_add) := goodIn_app (goodIn_of _ (by decide +kernel)) ggX5_team_X3_add
theorem dX5_team_0 : decode cX5_team 0 = .ok (.iload_n 1, 1) := by decide +kernel
theorem dX5_team_1 : decode cX5_team 1 = .ok (.bipush 12, 2) := by decide +kernel
theorem dX5_team_3 : decode cX5_team 3 = .ok (.invokestatic 30, 3) := by decide +kernel
theorem dX5_team_6 : decode cX5_team 6 = .ok (.ifCond .ne 13, 3) := by decide +kernel
theorem dX5_team_9 : decode cX5_team 9 = .ok (.new 33, 3) := by decide +kernel
theorem dX5_team_12 : decode cX5_team 12 = .ok (.dup, 1) := by decide +kernel
theorem dX5_team_13 : decode cX5_team 13 = .ok (.ldc 141, 2) := by decide +kernel
theorem dX5_team_15 : decode cX5_team 15 = .ok (.invokespecial 37, 3) := by decide +kernel
theorem dX5_team_18 : decode cX5_team 18 = .ok (.athrow, 1) := by decide +kernel
theorem dX5_team_19 : decode cX5_team 19 = .ok (.aload_n 0, 1) := by decide +kernel
theorem dX5_team_20 : decode cX5_team 20 = .ok (.getfield 10, 3) := by decide +kernel
theorem dX5_team_23 : decode cX5_team 23 = .ok (.getfield 143, 3) := by decide +kernel
theorem dX5_team_26 : decode cX5_team 26 = .ok (.getfield 147, 3) := by decide +kernel
theorem dX5_team_29 : decode cX5_team 29 = .ok (.iconst 3, 1) := by decide +kernel
theorem dX5_team_30 : decode cX5_team 30 = .ok (.if_icmp .lt 13, 3) := by decide +kernel
theorem dX5_team_33 : decode cX5_team 33 = .ok (.new 46, 3) := by decide +kernel
theorem dX5_team_36 : decode cX5_team 36 = .ok (.dup, 1) := by decide +kernel
theorem dX5_team_37 : decode cX5_team 37 = .ok (.ldc 150, 2) := by decide +kernel
theorem dX5_team_39 : decode cX5_team 39 = .ok (.invokespecial 50, 3) := by decide +kernel
theorem dX5_team_42 : decode cX5_team 42 = .ok (.athrow, 1) := by decide +kernel
theorem dX5_team_43 : decode cX5_team 43 = .ok (.aload_n 0, 1) := by decide +kernel
theorem dX5_team_44 : decode cX5_team 44 = .ok (.getfield 10, 3) := by decide +kernel
theorem dX5_team_47 : decode cX5_team 47 = .ok (.getfield 143, 3) := by decide +kernel
theorem dX5_team_50 : decode cX5_team 50 = .ok (.iload_n 1, 1) := by decide +kernel
theorem dX5_team_51 : decode cX5_team 51 = .ok (.invokevirtual 152, 3) := by decide +kernel
theorem dX5_team_54 : decode cX5_team 54 = .ok (.ireturn, 1) := by decide +kernel
set_option maxRecDepth 20000 in
theorem ggX5_place_X3_has : GoodIn wsX5_place wsX3_has := goodIn_r _ [10, 11, 96, 97, 98, 99] (by decide +kernel) (by decide +kernel)
set_option maxRecDepth 20000 in
theorem gX5_place_X3_has : GoodIn wsX5_place (wsV RX5 154 RX3 yX3_has wsX3_has) := goodIn_app (goodIn_of _ (by decide +kernel)) ggX5_place_X3_has
set_option maxRecDepth 20000 in
theorem ggX5_place_X5_isBelow : GoodIn wsX5_place wsX5_isBelow := goodIn_r _ [15] (by decide +kernel) (by decide +kernel)
set_option maxRecDepth 20000 in
theorem gX5_place_X5_isBelow : GoodIn wsX5_place (va_wsS RX5 19 yX5_isBelow wsX5_isBelow) := goodIn_app (goodIn_of _ (by decide +kernel)) ggX5_place_X5_isBelow
set_option maxRecDepth 20000 in
theorem ggX5_place_X1_has : GoodIn wsX5_place wsX1_has := goodIn_r _ [20, 21, 100, 101, 102, 103] (by decide +kernel) (by decide +kernel)
set_option maxRecDepth 20000 in
theorem gX5_place_X1_has : GoodIn wsX5_place (wsV RX5 126 RX1 yX1_has wsX1_has) := goodIn_app (goodIn_of _ (by decide +kernel)) ggX5_place_X1_has
set_option maxRecDepth 20000 in
theorem ggX5_place_X3_holderOf : GoodIn wsX5_place wsX3_holderOf := goodIn_r _ [25, 11, 26, 27, 28, 9, 29, 30, 31, 7, 8, 10, 96, 97, 98, 99] (by decide +kernel) (by decide +kernel)
set_option maxRecDepth 20000 in
theorem gX5_place_X3_holderOf : GoodIn wsX5_place (wsV RX5 157 RX3 yX3_holderOf wsX3_holderOf) := goodIn_app (goodIn_of _ (by decide +kernel)) ggX5_place_X3_holderOf
set_option maxRecDepth 20000 in
theorem ggX5_place_X3_send : GoodIn wsX5_place wsX3_send := goodIn_r _ [35, 36, 30, 31, 7, 8, 9, 10, 11, 96, 97, 98, 99] (by decide +kernel) (by decide +kernel)
set_option maxRecDepth 20000 in
theorem gX5_place_X3_send : GoodIn wsX5_place (wsV RX5 162 RX3 yX3_send wsX3_send) := goodIn_app (goodIn_of _ (by decide +kernel)) ggX5_place_X3_send
set_option maxRecDepth 20000 in
theorem ggX5_place_X0_sheetsOf : GoodIn wsX5_place wsX0_sheetsOf := goodIn_r _ [41, 42, 43, 44, 45, 46, 47, 48, 49, 50, 51, 9, 52, 36, 31, 7, 8, 10, 11, 53, 27, 28, 29, 30, 54, 55, 56, 57, 58, 59, 13, 14, 15, 60, 61, 62, 19, 63, 64, 65, 17, 18, 20, 21, 66, 67, 68, 69, 70, 71, 72, 73, 40, 74, 75, 76, 77, 78, 79, 80, 81, 84, 85, 86, 87, 88, 89, 90, 91, 92, 93, 94, 95, 96, 97, 98, 99, 104, 105, 106, 100, 101, 102, 103, 107, 108, 109, 110, 111] (by decide +kernel) (by decide +kernel)
set_option maxRecDepth 20000 in
theorem gX5_place_X0_sheetsOf : GoodIn wsX5_place (wsV RX5 165 RX0 yX0_sheetsOf wsX0_sheetsOf) := goodIn_app (goodIn_of _ (by decide +kernel)) ggX5_place_X0_sheetsOf
theorem dX5_place_0 : decode cX5_place 0 = .ok (.aload_n 0, 1) := by decide +kernel
theorem dX5_place_1 : decode cX5_place 1 = .ok (.getfield 10, 3) := by decide +kernel
theorem dX5_place_4 : decode cX5_place 4 = .ok (.getfield 143, 3) := by decide +kernel
theorem dX5_place_7 : decode cX5_place 7 = .ok (.iload_n 1, 1) := by decide +kernel
theorem dX5_place_8 : decode cX5_place 8 = .ok (.invokevirtual 154, 3) := by decide +kernel
theorem dX5_place_11 : decode cX5_place 11 = .ok (.ifCond .ne 13, 3) := by decide +kernel
theorem dX5_place_14 : decode cX5_place 14 = .ok (.new 23, 3) := by decide +kernel
theorem dX5_place_17 : decode cX5_place 17 = .ok (.dup, 1) := by decide +kernel
theorem dX5_place_18 : decode cX5_place 18 = .ok (.ldc 155, 2) := by decide +kernel
theorem dX5_place_20 : decode cX5_place 20 = .ok (.invokespecial 27, 3) := by decide +kernel
theorem dX5_place_23 : decode cX5_place 23 = .ok (.athrow, 1) := by decide +kernel
theorem dX5_place_24 : decode cX5_place 24 = .ok (.iload_n 2, 1) := by decide +kernel
theorem dX5_place_25 : decode cX5_place 25 = .ok (.iconst (-1), 1) := by decide +kernel
theorem dX5_place_26 : decode cX5_place 26 = .ok (.if_icmp .eq 21, 3) := by decide +kernel
theorem dX5_place_29 : decode cX5_place 29 = .ok (.iload_n 2, 1) := by decide +kernel
theorem dX5_place_30 : decode cX5_place 30 = .ok (.iconst 4, 1) := by decide +kernel
theorem dX5_place_31 : decode cX5_place 31 = .ok (.invokestatic 19, 3) := by decide +kernel
theorem dX5_place_34 : decode cX5_place 34 = .ok (.ifCond .ne 13, 3) := by decide +kernel
theorem dX5_place_37 : decode cX5_place 37 = .ok (.new 23, 3) := by decide +kernel
theorem dX5_place_40 : decode cX5_place 40 = .ok (.dup, 1) := by decide +kernel
theorem dX5_place_41 : decode cX5_place 41 = .ok (.ldc 100, 2) := by decide +kernel
theorem dX5_place_43 : decode cX5_place 43 = .ok (.invokespecial 27, 3) := by decide +kernel
theorem dX5_place_46 : decode cX5_place 46 = .ok (.athrow, 1) := by decide +kernel
theorem dX5_place_47 : decode cX5_place 47 = .ok (.iload_n 3, 1) := by decide +kernel
theorem dX5_place_48 : decode cX5_place 48 = .ok (.iconst (-1), 1) := by decide +kernel
theorem dX5_place_49 : decode cX5_place 49 = .ok (.if_icmp .eq 27, 3) := by decide +kernel
theorem dX5_place_52 : decode cX5_place 52 = .ok (.aload_n 0, 1) := by decide +kernel
theorem dX5_place_53 : decode cX5_place 53 = .ok (.getfield 10, 3) := by decide +kernel
theorem dX5_place_56 : decode cX5_place 56 = .ok (.getfield 112, 3) := by decide +kernel
theorem dX5_place_59 : decode cX5_place 59 = .ok (.iload_n 3, 1) := by decide +kernel
theorem dX5_place_60 : decode cX5_place 60 = .ok (.invokevirtual 126, 3) := by decide +kernel
theorem dX5_place_63 : decode cX5_place 63 = .ok (.ifCond .ne 13, 3) := by decide +kernel
theorem dX5_place_66 : decode cX5_place 66 = .ok (.new 23, 3) := by decide +kernel
theorem dX5_place_69 : decode cX5_place 69 = .ok (.dup, 1) := by decide +kernel
theorem dX5_place_70 : decode cX5_place 70 = .ok (.ldc 130, 2) := by decide +kernel
theorem dX5_place_72 : decode cX5_place 72 = .ok (.invokespecial 27, 3) := by decide +kernel
theorem dX5_place_75 : decode cX5_place 75 = .ok (.athrow, 1) := by decide +kernel
theorem dX5_place_76 : decode cX5_place 76 = .ok (.aload_n 0, 1) := by decide +kernel
theorem dX5_place_77 : decode cX5_place 77 = .ok (.getfield 10, 3) := by decide +kernel
theorem dX5_place_80 : decode cX5_place 80 = .ok (.getfield 143, 3) := by decide +kernel
theorem dX5_place_83 : decode cX5_place 83 = .ok (.iload_n 3, 1) := by decide +kernel
theorem dX5_place_84 : decode cX5_place 84 = .ok (.invokevirtual 157, 3) := by decide +kernel
theorem dX5_place_87 : decode cX5_place 87 = .ok (.istore 4, 2) := by decide +kernel
theorem dX5_place_89 : decode cX5_place 89 = .ok (.iload 4, 2) := by decide +kernel
theorem dX5_place_91 : decode cX5_place 91 = .ok (.iconst (-1), 1) := by decide +kernel
theorem dX5_place_92 : decode cX5_place 92 = .ok (.if_icmp .eq 19, 3) := by decide +kernel
theorem dX5_place_95 : decode cX5_place 95 = .ok (.iload 4, 2) := by decide +kernel
theorem dX5_place_97 : decode cX5_place 97 = .ok (.iload_n 1, 1) := by decide +kernel
theorem dX5_place_98 : decode cX5_place 98 = .ok (.if_icmp .eq 13, 3) := by decide +kernel
theorem dX5_place_101 : decode cX5_place 101 = .ok (.new 46, 3) := by decide +kernel
theorem dX5_place_104 : decode cX5_place 104 = .ok (.dup, 1) := by decide +kernel
theorem dX5_place_105 : decode cX5_place 105 = .ok (.ldc 160, 2) := by decide +kernel
theorem dX5_place_107 : decode cX5_place 107 = .ok (.invokespecial 50, 3) := by decide +kernel
theorem dX5_place_110 : decode cX5_place 110 = .ok (.athrow, 1) := by decide +kernel
theorem dX5_place_111 : decode cX5_place 111 = .ok (.aload_n 0, 1) := by decide +kernel
theorem dX5_place_112 : decode cX5_place 112 = .ok (.getfield 10, 3) := by decide +kernel
theorem dX5_place_115 : decode cX5_place 115 = .ok (.getfield 143, 3) := by decide +kernel
theorem dX5_place_118 : decode cX5_place 118 = .ok (.iload_n 1, 1) := by decide +kernel
theorem dX5_place_119 : decode cX5_place 119 = .ok (.iload_n 2, 1) := by decide +kernel
theorem dX5_place_120 : decode cX5_place 120 = .ok (.iload_n 3, 1) := by decide +kernel
theorem dX5_place_121 : decode cX5_place 121 = .ok (.invokevirtual 162, 3) := by decide +kernel
theorem dX5_place_124 : decode cX5_place 124 = .ok (.aload_n 0, 1) := by decide +kernel
theorem dX5_place_125 : decode cX5_place 125 = .ok (.getfield 10, 3) := by decide +kernel
theorem dX5_place_128 : decode cX5_place 128 = .ok (.iload_n 1, 1) := by decide +kernel
theorem dX5_place_129 : decode cX5_place 129 = .ok (.invokevirtual 165, 3) := by decide +kernel
theorem dX5_place_132 : decode cX5_place 132 = .ok (.ireturn, 1) := by decide +kernel
set_option maxRecDepth 20000 in
theorem ggX5_setWater_X5_isBelow : GoodIn wsX5_setWater wsX5_isBelow := goodIn_r _ [9] (by decide +kernel) (by decide +kernel)
set_option maxRecDepth 20000 in
theorem gX5_setWater_X5_isBelow : GoodIn wsX5_setWater (va_wsS RX5 19 yX5_isBelow wsX5_isBelow) := goodIn_app (goodIn_of _ (by decide +kernel)) ggX5_setWater_X5_isBelow
theorem dX5_setWater_0 : decode cX5_setWater 0 = .ok (.iload_n 1, 1) := by decide +kernel
theorem dX5_setWater_1 : decode cX5_setWater 1 = .ok (.bipush 7, 2) := by decide +kernel
theorem dX5_setWater_3 : decode cX5_setWater 3 = .ok (.invokestatic 19, 3) := by decide +kernel
theorem dX5_setWater_6 : decode cX5_setWater 6 = .ok (.ifCond .ne 13, 3) := by decide +kernel
theorem dX5_setWater_9 : decode cX5_setWater 9 = .ok (.new 23, 3) := by decide +kernel
theorem dX5_setWater_12 : decode cX5_setWater 12 = .ok (.dup, 1) := by decide +kernel
theorem dX5_setWater_13 : decode cX5_setWater 13 = .ok (.ldc 168, 2) := by decide +kernel
theorem dX5_setWater_15 : decode cX5_setWater 15 = .ok (.invokespecial 27, 3) := by decide +kernel
theorem dX5_setWater_18 : decode cX5_setWater 18 = .ok (.athrow, 1) := by decide +kernel
theorem dX5_setWater_19 : decode cX5_setWater 19 = .ok (.iload_n 2, 1) := by decide +kernel
theorem dX5_setWater_20 : decode cX5_setWater 20 = .ok (.ifCond .lt 9, 3) := by decide +kernel
theorem dX5_setWater_23 : decode cX5_setWater 23 = .ok (.iload_n 2, 1) := by decide +kernel
theorem dX5_setWater_24 : decode cX5_setWater 24 = .ok (.bipush 9, 2) := by decide +kernel
theorem dX5_setWater_26 : decode cX5_setWater 26 = .ok (.if_icmp .le 13, 3) := by decide +kernel
theorem dX5_setWater_29 : decode cX5_setWater 29 = .ok (.new 33, 3) := by decide +kernel
theorem dX5_setWater_32 : decode cX5_setWater 32 = .ok (.dup, 1) := by decide +kernel
theorem dX5_setWater_33 : decode cX5_setWater 33 = .ok (.ldc 170, 2) := by decide +kernel
theorem dX5_setWater_35 : decode cX5_setWater 35 = .ok (.invokespecial 37, 3) := by decide +kernel
theorem dX5_setWater_38 : decode cX5_setWater 38 = .ok (.athrow, 1) := by decide +kernel
theorem dX5_setWater_39 : decode cX5_setWater 39 = .ok (.aload_n 0, 1) := by decide +kernel
theorem dX5_setWater_40 : decode cX5_setWater 40 = .ok (.getfield 10, 3) := by decide +kernel
theorem dX5_setWater_43 : decode cX5_setWater 43 = .ok (.getfield 172, 3) := by decide +kernel
theorem dX5_setWater_46 : decode cX5_setWater 46 = .ok (.iload_n 1, 1) := by decide +kernel
theorem dX5_setWater_47 : decode cX5_setWater 47 = .ok (.iaload, 1) := by decide +kernel
theorem dX5_setWater_48 : decode cX5_setWater 48 = .ok (.istore_n 3, 1) := by decide +kernel
theorem dX5_setWater_49 : decode cX5_setWater 49 = .ok (.aload_n 0, 1) := by decide +kernel
theorem dX5_setWater_50 : decode cX5_setWater 50 = .ok (.getfield 10, 3) := by decide +kernel
theorem dX5_setWater_53 : decode cX5_setWater 53 = .ok (.getfield 172, 3) := by decide +kernel
theorem dX5_setWater_56 : decode cX5_setWater 56 = .ok (.iload_n 1, 1) := by decide +kernel
theorem dX5_setWater_57 : decode cX5_setWater 57 = .ok (.iload_n 2, 1) := by decide +kernel
theorem dX5_setWater_58 : decode cX5_setWater 58 = .ok (.iastore, 1) := by decide +kernel
theorem dX5_setWater_59 : decode cX5_setWater 59 = .ok (.iload_n 3, 1) := by decide +kernel
theorem dX5_setWater_60 : decode cX5_setWater 60 = .ok (.ireturn, 1) := by decide +kernel
set_option maxRecDepth 20000 in
theorem ggX5_about_X5_isBelow : GoodIn wsX5_about wsX5_isBelow := goodIn_r _ [7] (by decide +kernel) (by decide +kernel)
set_option maxRecDepth 20000 in
theorem gX5_about_X5_isBelow : GoodIn wsX5_about (va_wsS RX5 19 yX5_isBelow wsX5_isBelow) := goodIn_app (goodIn_of _ (by decide +kernel)) ggX5_about_X5_isBelow
set_option maxRecDepth 20000 in
theorem ggX5_about_X4_tell : GoodIn wsX5_about wsX4_tell := goodIn_r _ [12, 13, 14, 15, 11, 16, 17, 5, 6, 7, 18, 19, 20, 21, 22, 23, 24, 25, 26, 27, 42, 43, 44] (by decide +kernel) (by decide +kernel)
set_option maxRecDepth 20000 in
theorem gX5_about_X4_tell : GoodIn wsX5_about (wsV RX5 177 RX4 yX4_tell wsX4_tell) := goodIn_app (goodIn_of _ (by decide +kernel)) ggX5_about_X4_tell
theorem dX5_about_0 : decode cX5_about 0 = .ok (.iload_n 1, 1) := by decide +kernel
theorem dX5_about_1 : decode cX5_about 1 = .ok (.iconst 4, 1) := by decide +kernel
theorem dX5_about_2 : decode cX5_about 2 = .ok (.invokestatic 19, 3) := by decide +kernel
theorem dX5_about_5 : decode cX5_about 5 = .ok (.ifCond .eq 11, 3) := by decide +kernel
theorem dX5_about_8 : decode cX5_about 8 = .ok (.iload_n 2, 1) := by decide +kernel
theorem dX5_about_9 : decode cX5_about 9 = .ok (.iconst 3, 1) := by decide +kernel
theorem dX5_about_10 : decode cX5_about 10 = .ok (.invokestatic 19, 3) := by decide +kernel
theorem dX5_about_13 : decode cX5_about 13 = .ok (.ifCond .ne 13, 3) := by decide +kernel
theorem dX5_about_16 : decode cX5_about 16 = .ok (.new 23, 3) := by decide +kernel
theorem dX5_about_19 : decode cX5_about 19 = .ok (.dup, 1) := by decide +kernel
theorem dX5_about_20 : decode cX5_about 20 = .ok (.ldc 175, 2) := by decide +kernel
theorem dX5_about_22 : decode cX5_about 22 = .ok (.invokespecial 27, 3) := by decide +kernel
theorem dX5_about_25 : decode cX5_about 25 = .ok (.athrow, 1) := by decide +kernel
theorem dX5_about_26 : decode cX5_about 26 = .ok (.aload_n 0, 1) := by decide +kernel
theorem dX5_about_27 : decode cX5_about 27 = .ok (.getfield 10, 3) := by decide +kernel
theorem dX5_about_30 : decode cX5_about 30 = .ok (.getfield 81, 3) := by decide +kernel
theorem dX5_about_33 : decode cX5_about 33 = .ok (.iload_n 1, 1) := by decide +kernel
theorem dX5_about_34 : decode cX5_about 34 = .ok (.iload_n 2, 1) := by decide +kernel
theorem dX5_about_35 : decode cX5_about 35 = .ok (.invokevirtual 177, 3) := by decide +kernel
theorem dX5_about_38 : decode cX5_about 38 = .ok (.ireturn, 1) := by decide +kernel
set_option maxRecDepth 20000 in
theorem ggX5_mould_X1_has : GoodIn wsX5_mould wsX1_has := goodIn_r _ [8, 9, 66, 67, 68, 69] (by decide +kernel) (by decide +kernel)
set_option maxRecDepth 20000 in
theorem gX5_mould_X1_has : GoodIn wsX5_mould (wsV RX5 126 RX1 yX1_has wsX1_has) := goodIn_app (goodIn_of _ (by decide +kernel)) ggX5_mould_X1_has
set_option maxRecDepth 20000 in
theorem ggX5_mould_X5_isBelow : GoodIn wsX5_mould wsX5_isBelow := goodIn_r _ [13] (by decide +kernel) (by decide +kernel)
set_option maxRecDepth 20000 in
theorem gX5_mould_X5_isBelow : GoodIn wsX5_mould (va_wsS RX5 19 yX5_isBelow wsX5_isBelow) := goodIn_app (goodIn_of _ (by decide +kernel)) ggX5_mould_X5_isBelow
set_option maxRecDepth 20000 in
theorem ggX5_mould_X0_tellPair : GoodIn wsX5_mould wsX0_tellPair := goodIn_r _ [18, 19, 20, 21, 22, 23, 7, 24, 25, 26, 5, 6, 8, 9, 27, 28, 29, 30, 31, 32, 33, 34, 35, 36, 37, 38, 39, 40, 41, 42, 43, 44, 45, 46, 47, 48, 49, 50, 51, 54, 55, 56, 57, 58, 59, 60, 61, 62, 63, 64, 65, 66, 67, 68, 69, 70, 71, 72, 73] (by decide +kernel) (by decide +kernel)
set_option maxRecDepth 20000 in
theorem gX5_mould_X0_tellPair : GoodIn wsX5_mould (wsV RX5 182 RX0 yX0_tellPair wsX0_tellPair) := goodIn_app (goodIn_of _ (by decide +kernel)) ggX5_mould_X0_tellPair
theorem dX5_mould_0 : decode cX5_mould 0 = .ok (.aload_n 0, 1) := by decide +kernel
theorem dX5_mould_1 : decode cX5_mould 1 = .ok (.getfield 10, 3) := by decide +kernel
theorem dX5_mould_4 : decode cX5_mould 4 = .ok (.getfield 112, 3) := by decide +kernel
theorem dX5_mould_7 : decode cX5_mould 7 = .ok (.iload_n 1, 1) := by decide +kernel
theorem dX5_mould_8 : decode cX5_mould 8 = .ok (.invokevirtual 126, 3) := by decide +kernel
theorem dX5_mould_11 : decode cX5_mould 11 = .ok (.ifCond .eq 11, 3) := by decide +kernel
theorem dX5_mould_14 : decode cX5_mould 14 = .ok (.iload_n 2, 1) := by decide +kernel
theorem dX5_mould_15 : decode cX5_mould 15 = .ok (.iconst 4, 1) := by decide +kernel
theorem dX5_mould_16 : decode cX5_mould 16 = .ok (.invokestatic 19, 3) := by decide +kernel
theorem dX5_mould_19 : decode cX5_mould 19 = .ok (.ifCond .ne 13, 3) := by decide +kernel
theorem dX5_mould_22 : decode cX5_mould 22 = .ok (.new 23, 3) := by decide +kernel
theorem dX5_mould_25 : decode cX5_mould 25 = .ok (.dup, 1) := by decide +kernel
theorem dX5_mould_26 : decode cX5_mould 26 = .ok (.ldc 180, 2) := by decide +kernel
theorem dX5_mould_28 : decode cX5_mould 28 = .ok (.invokespecial 27, 3) := by decide +kernel
theorem dX5_mould_31 : decode cX5_mould 31 = .ok (.athrow, 1) := by decide +kernel
theorem dX5_mould_32 : decode cX5_mould 32 = .ok (.aload_n 0, 1) := by decide +kernel
theorem dX5_mould_33 : decode cX5_mould 33 = .ok (.getfield 10, 3) := by decide +kernel
theorem dX5_mould_36 : decode cX5_mould 36 = .ok (.iload_n 1, 1) := by decide +kernel
theorem dX5_mould_37 : decode cX5_mould 37 = .ok (.iload_n 2, 1) := by decide +kernel
theorem dX5_mould_38 : decode cX5_mould 38 = .ok (.invokevirtual 182, 3) := by decide +kernel
theorem dX5_mould_41 : decode cX5_mould 41 = .ok (.ireturn, 1) := by decide +kernel
set_option maxRecDepth 20000 in
theorem ggX5_told_X3_has : GoodIn wsX5_told wsX3_has := goodIn_r _ [8, 9, 88, 89, 90, 91] (by decide +kernel) (by decide +kernel)
set_option maxRecDepth 20000 in
theorem gX5_told_X3_has : GoodIn wsX5_told (wsV RX5 154 RX3 yX3_has wsX3_has) := goodIn_app (goodIn_of _ (by decide +kernel)) ggX5_told_X3_has
set_option maxRecDepth 20000 in
theorem ggX5_told_X5_isBelow : GoodIn wsX5_told wsX5_isBelow := goodIn_r _ [13] (by decide +kernel) (by decide +kernel)
set_option maxRecDepth 20000 in
theorem gX5_told_X5_isBelow : GoodIn wsX5_told (va_wsS RX5 19 yX5_isBelow wsX5_isBelow) := goodIn_app (goodIn_of _ (by decide +kernel)) ggX5_told_X5_isBelow
set_option maxRecDepth 20000 in
theorem ggX5_told_X0_tellTeam : GoodIn wsX5_told wsX0_tellTeam := goodIn_r _ [18, 19, 20, 21, 22, 7, 23, 24, 25, 5, 6, 8, 9, 26, 27, 28, 29, 30, 31, 32, 33, 34, 35, 36, 37, 38, 17, 39, 40, 41, 42, 43, 44, 45, 46, 47, 48, 49, 50, 51, 11, 12, 13, 52, 53, 54, 55, 56, 57, 58, 59, 60, 61, 62, 63, 64, 65, 66, 67, 68, 69, 70, 71, 72, 73, 76, 77, 78, 79, 80, 81, 82, 83, 84, 85, 86, 87, 88, 89, 90, 91, 92, 93, 94, 95, 96, 97, 98, 99, 100, 101, 102, 103] (by decide +kernel) (by decide +kernel)
set_option maxRecDepth 20000 in
theorem gX5_told_X0_tellTeam : GoodIn wsX5_told (wsV RX5 187 RX0 yX0_tellTeam wsX0_tellTeam) := goodIn_app (goodIn_of _ (by decide +kernel)) ggX5_told_X0_tellTeam
theorem dX5_told_0 : decode cX5_told 0 = .ok (.aload_n 0, 1) := by decide +kernel
theorem dX5_told_1 : decode cX5_told 1 = .ok (.getfield 10, 3) := by decide +kernel
theorem dX5_told_4 : decode cX5_told 4 = .ok (.getfield 143, 3) := by decide +kernel
theorem dX5_told_7 : decode cX5_told 7 = .ok (.iload_n 1, 1) := by decide +kernel
theorem dX5_told_8 : decode cX5_told 8 = .ok (.invokevirtual 154, 3) := by decide +kernel
theorem dX5_told_11 : decode cX5_told 11 = .ok (.ifCond .eq 11, 3) := by decide +kernel
theorem dX5_told_14 : decode cX5_told 14 = .ok (.iload_n 2, 1) := by decide +kernel
theorem dX5_told_15 : decode cX5_told 15 = .ok (.iconst 4, 1) := by decide +kernel
theorem dX5_told_16 : decode cX5_told 16 = .ok (.invokestatic 19, 3) := by decide +kernel
theorem dX5_told_19 : decode cX5_told 19 = .ok (.ifCond .ne 13, 3) := by decide +kernel
theorem dX5_told_22 : decode cX5_told 22 = .ok (.new 23, 3) := by decide +kernel
theorem dX5_told_25 : decode cX5_told 25 = .ok (.dup, 1) := by decide +kernel
theorem dX5_told_26 : decode cX5_told 26 = .ok (.ldc 185, 2) := by decide +kernel
theorem dX5_told_28 : decode cX5_told 28 = .ok (.invokespecial 27, 3) := by decide +kernel
theorem dX5_told_31 : decode cX5_told 31 = .ok (.athrow, 1) := by decide +kernel
theorem dX5_told_32 : decode cX5_told 32 = .ok (.aload_n 0, 1) := by decide +kernel
theorem dX5_told_33 : decode cX5_told 33 = .ok (.getfield 10, 3) := by decide +kernel
theorem dX5_told_36 : decode cX5_told 36 = .ok (.iload_n 1, 1) := by decide +kernel
theorem dX5_told_37 : decode cX5_told 37 = .ok (.iload_n 2, 1) := by decide +kernel
theorem dX5_told_38 : decode cX5_told 38 = .ok (.invokevirtual 187, 3) := by decide +kernel
theorem dX5_told_41 : decode cX5_told 41 = .ok (.ireturn, 1) := by decide +kernel
set_option maxRecDepth 20000 in
theorem ggX5_post_X2_has : GoodIn wsX5_post wsX2_has := goodIn_r _ [8, 9, 48, 49, 50, 51, 52] (by decide +kernel) (by decide +kernel)
set_option maxRecDepth 20000 in
theorem gX5_post_X2_has : GoodIn wsX5_post (wsV RX5 194 RX2 yX2_has wsX2_has) := goodIn_app (goodIn_of _ (by decide +kernel)) ggX5_post_X2_has
set_option maxRecDepth 20000 in
theorem ggX5_post_X5_isBelow : GoodIn wsX5_post wsX5_isBelow := goodIn_r _ [13] (by decide +kernel) (by decide +kernel)
set_option maxRecDepth 20000 in
theorem gX5_post_X5_isBelow : GoodIn wsX5_post (va_wsS RX5 19 yX5_isBelow wsX5_isBelow) := goodIn_app (goodIn_of _ (by decide +kernel)) ggX5_post_X5_isBelow
set_option maxRecDepth 20000 in
theorem ggX5_post_X2_tell : GoodIn wsX5_post wsX2_tell := goodIn_r _ [17, 18, 19, 20, 7, 21, 22, 23, 5, 6, 8, 9, 24, 25, 26, 27, 28, 29, 30, 31, 32, 33, 48, 49, 50, 51, 52] (by decide +kernel) (by decide +kernel)
set_option maxRecDepth 20000 in
theorem gX5_post_X2_tell : GoodIn wsX5_post (wsV RX5 199 RX2 yX2_tell wsX2_tell) := goodIn_app (goodIn_of _ (by decide +kernel)) ggX5_post_X2_tell
theorem dX5_post_0 : decode cX5_post 0 = .ok (.aload_n 0, 1) := by decide +kernel
theorem dX5_post_1 : decode cX5_post 1 = .ok (.getfield 10, 3) := by decide +kernel
theorem dX5_post_4 : decode cX5_post 4 = .ok (.getfield 190, 3) := by decide +kernel
theorem dX5_post_7 : decode cX5_post 7 = .ok (.iload_n 1, 1) := by decide +kernel
theorem dX5_post_8 : decode cX5_post 8 = .ok (.invokevirtual 194, 3) := by decide +kernel
theorem dX5_post_11 : decode cX5_post 11 = .ok (.ifCond .eq 11, 3) := by decide +kernel
theorem dX5_post_14 : decode cX5_post 14 = .ok (.iload_n 2, 1) := by decide +kernel
theorem dX5_post_15 : decode cX5_post 15 = .ok (.iconst 3, 1) := by decide +kernel
theorem dX5_post_16 : decode cX5_post 16 = .ok (.invokestatic 19, 3) := by decide +kernel
theorem dX5_post_19 : decode cX5_post 19 = .ok (.ifCond .ne 13, 3) := by decide +kernel
theorem dX5_post_22 : decode cX5_post 22 = .ok (.new 23, 3) := by decide +kernel
theorem dX5_post_25 : decode cX5_post 25 = .ok (.dup, 1) := by decide +kernel
theorem dX5_post_26 : decode cX5_post 26 = .ok (.ldc 197, 2) := by decide +kernel
theorem dX5_post_28 : decode cX5_post 28 = .ok (.invokespecial 27, 3) := by decide +kernel
theorem dX5_post_31 : decode cX5_post 31 = .ok (.athrow, 1) := by decide +kernel
theorem dX5_post_32 : decode cX5_post 32 = .ok (.aload_n 0, 1) := by decide +kernel
theorem dX5_post_33 : decode cX5_post 33 = .ok (.getfield 10, 3) := by decide +kernel
theorem dX5_post_36 : decode cX5_post 36 = .ok (.getfield 190, 3) := by decide +kernel
theorem dX5_post_39 : decode cX5_post 39 = .ok (.iload_n 1, 1) := by decide +kernel
theorem dX5_post_40 : decode cX5_post 40 = .ok (.iload_n 2, 1) := by decide +kernel
theorem dX5_post_41 : decode cX5_post 41 = .ok (.invokevirtual 199, 3) := by decide +kernel
theorem dX5_post_44 : decode cX5_post 44 = .ok (.ireturn, 1) := by decide +kernel
set_option maxRecDepth 20000 in
theorem ggX5_loft_X5_isBelow : GoodIn wsX5_loft wsX5_isBelow := goodIn_r _ [7] (by decide +kernel) (by decide +kernel)
set_option maxRecDepth 20000 in
theorem gX5_loft_X5_isBelow : GoodIn wsX5_loft (va_wsS RX5 19 yX5_isBelow wsX5_isBelow) := goodIn_app (goodIn_of _ (by decide +kernel)) ggX5_loft_X5_isBelow
set_option maxRecDepth 20000 in
theorem ggX5_loft_X0_hanging : GoodIn wsX5_loft wsX0_hanging := goodIn_r _ [12, 13, 5, 6, 7, 16, 17, 18, 19, 20, 21, 22, 23, 24, 25, 26, 27] (by decide +kernel) (by decide +kernel)
set_option maxRecDepth 20000 in
theorem gX5_loft_X0_hanging : GoodIn wsX5_loft (wsV RX5 64 RX0 yX0_hanging wsX0_hanging) := goodIn_app (goodIn_of _ (by decide +kernel)) ggX5_loft_X0_hanging
theorem dX5_loft_0 : decode cX5_loft 0 = .ok (.iload_n 1, 1) := by decide +kernel
theorem dX5_loft_1 : decode cX5_loft 1 = .ok (.bipush 10, 2) := by decide +kernel
theorem dX5_loft_3 : decode cX5_loft 3 = .ok (.invokestatic 19, 3) := by decide +kernel
theorem dX5_loft_6 : decode cX5_loft 6 = .ok (.ifCond .eq 11, 3) := by decide +kernel
theorem dX5_loft_9 : decode cX5_loft 9 = .ok (.iload_n 2, 1) := by decide +kernel
theorem dX5_loft_10 : decode cX5_loft 10 = .ok (.iconst 3, 1) := by decide +kernel
theorem dX5_loft_11 : decode cX5_loft 11 = .ok (.invokestatic 19, 3) := by decide +kernel
theorem dX5_loft_14 : decode cX5_loft 14 = .ok (.ifCond .ne 13, 3) := by decide +kernel
theorem dX5_loft_17 : decode cX5_loft 17 = .ok (.new 23, 3) := by decide +kernel
theorem dX5_loft_20 : decode cX5_loft 20 = .ok (.dup, 1) := by decide +kernel
theorem dX5_loft_21 : decode cX5_loft 21 = .ok (.ldc 60, 2) := by decide +kernel
theorem dX5_loft_23 : decode cX5_loft 23 = .ok (.invokespecial 27, 3) := by decide +kernel
theorem dX5_loft_26 : decode cX5_loft 26 = .ok (.athrow, 1) := by decide +kernel
theorem dX5_loft_27 : decode cX5_loft 27 = .ok (.aload_n 0, 1) := by decide +kernel
theorem dX5_loft_28 : decode cX5_loft 28 = .ok (.getfield 10, 3) := by decide +kernel
theorem dX5_loft_31 : decode cX5_loft 31 = .ok (.iload_n 1, 1) := by decide +kernel
theorem dX5_loft_32 : decode cX5_loft 32 = .ok (.iload_n 2, 1) := by decide +kernel
theorem dX5_loft_33 : decode cX5_loft 33 = .ok (.invokevirtual 64, 3) := by decide +kernel
theorem dX5_loft_36 : decode cX5_loft 36 = .ok (.ireturn, 1) := by decide +kernel
set_option maxRecDepth 20000 in
theorem ggX5_count_X5_isBelow : GoodIn wsX5_count wsX5_isBelow := goodIn_r _ [7] (by decide +kernel) (by decide +kernel)
set_option maxRecDepth 20000 in
theorem gX5_count_X5_isBelow : GoodIn wsX5_count (va_wsS RX5 19 yX5_isBelow wsX5_isBelow) := goodIn_app (goodIn_of _ (by decide +kernel)) ggX5_count_X5_isBelow
set_option maxRecDepth 20000 in
theorem ggX5_count_X0_tell : GoodIn wsX5_count wsX0_tell := goodIn_r _ [12, 13, 14, 15, 16, 17, 18, 19, 20, 21, 22, 11, 23, 24, 25, 26, 27, 28, 29, 30, 31, 32, 33, 34, 35, 36, 37, 38, 39, 5, 6, 7, 42, 43, 44, 45, 46, 47, 48, 49, 50, 51, 52, 53, 54, 55, 56, 57, 58, 59, 60, 61] (by decide +kernel) (by decide +kernel)
set_option maxRecDepth 20000 in
theorem gX5_count_X0_tell : GoodIn wsX5_count (wsV RX5 202 RX0 yX0_tell wsX0_tell) := goodIn_app (goodIn_of _ (by decide +kernel)) ggX5_count_X0_tell
theorem dX5_count_0 : decode cX5_count 0 = .ok (.iload_n 1, 1) := by decide +kernel
theorem dX5_count_1 : decode cX5_count 1 = .ok (.bipush 12, 2) := by decide +kernel
theorem dX5_count_3 : decode cX5_count 3 = .ok (.invokestatic 19, 3) := by decide +kernel
theorem dX5_count_6 : decode cX5_count 6 = .ok (.ifCond .ne 13, 3) := by decide +kernel
theorem dX5_count_9 : decode cX5_count 9 = .ok (.new 23, 3) := by decide +kernel
theorem dX5_count_12 : decode cX5_count 12 = .ok (.dup, 1) := by decide +kernel
theorem dX5_count_13 : decode cX5_count 13 = .ok (.ldc 200, 2) := by decide +kernel
theorem dX5_count_15 : decode cX5_count 15 = .ok (.invokespecial 27, 3) := by decide +kernel
theorem dX5_count_18 : decode cX5_count 18 = .ok (.athrow, 1) := by decide +kernel
theorem dX5_count_19 : decode cX5_count 19 = .ok (.aload_n 0, 1) := by decide +kernel
theorem dX5_count_20 : decode cX5_count 20 = .ok (.getfield 10, 3) := by decide +kernel
theorem dX5_count_23 : decode cX5_count 23 = .ok (.iload_n 1, 1) := by decide +kernel
theorem dX5_count_24 : decode cX5_count 24 = .ok (.invokevirtual 202, 3) := by decide +kernel
theorem dX5_count_27 : decode cX5_count 27 = .ok (.ireturn, 1) := by decide +kernel
set_option maxRecDepth 20000 in
theorem ggX5_pass_X5_isFrom1To : GoodIn wsX5_pass wsX5_isFrom1To := goodIn_r _ [7] (by decide +kernel) (by decide +kernel)
set_option maxRecDepth 20000 in
theorem gX5_pass_X5_isFrom1To : GoodIn wsX5_pass (va_wsS RX5 30 yX5_isFrom1To wsX5_isFrom1To) := goodIn_app (goodIn_of _ (by decide +kernel)) ggX5_pass_X5_isFrom1To
set_option maxRecDepth 20000 in
theorem ggX5_pass_X0_liveDays : GoodIn wsX5_pass wsX0_liveDays := goodIn_r _ [12, 13, 14, 15, 11, 16, 17, 18, 19, 20, 21, 22, 23, 24, 25, 26, 27, 28, 29, 30, 31, 32, 33, 34, 35, 36, 37, 38, 39, 40, 41, 42, 43, 44, 45, 46, 47, 48, 49, 50, 51, 52, 53, 54, 55, 56, 57, 58, 59, 60, 61, 62, 63, 64, 65, 66, 67, 68, 69, 70, 71, 72, 73, 6, 74, 75, 76, 77, 78, 79, 80, 81, 82, 83, 84, 85, 86, 87, 88, 89, 90, 91, 92, 93, 94, 95, 96, 97, 98, 99, 100, 101, 102, 103, 104, 105, 106, 107, 108, 109, 110, 111, 112, 113, 114, 115, 116, 117, 118, 119, 120, 121, 122, 123, 124, 125, 126, 127, 128, 129, 130, 131, 132, 133, 134, 135, 136, 137, 138, 139, 140, 141, 142, 143, 144, 145, 146, 147, 148, 149, 150, 151, 152, 153, 154, 155, 156, 157, 158, 159, 160, 161, 162, 163, 164, 165, 166, 167, 168, 169, 170, 171, 172, 173, 174, 175, 176, 177, 178, 179, 180, 181, 184, 185, 186, 187, 188, 189, 190, 191, 192, 193, 194, 195, 196, 197, 198, 199, 200, 201, 202, 203, 204, 205, 206, 207, 208, 209, 210, 211] (by decide +kernel) (by decide +kernel)
set_option maxRecDepth 20000 in
theorem gX5_pass_X0_liveDays : GoodIn wsX5_pass (wsV RX5 209 RX0 yX0_liveDays wsX0_liveDays) := goodIn_app (goodIn_of _ (by decide +kernel)) ggX5_pass_X0_liveDays
theorem dX5_pass_0 : decode cX5_pass 0 = .ok (.iload_n 1, 1) := by decide +kernel
theorem dX5_pass_1 : decode cX5_pass 1 = .ok (.bipush 40, 2) := by decide +kernel
theorem dX5_pass_3 : decode cX5_pass 3 = .ok (.invokestatic 30, 3) := by decide +kernel
theorem dX5_pass_6 : decode cX5_pass 6 = .ok (.ifCond .ne 13, 3) := by decide +kernel
theorem dX5_pass_9 : decode cX5_pass 9 = .ok (.new 33, 3) := by decide +kernel
theorem dX5_pass_12 : decode cX5_pass 12 = .ok (.dup, 1) := by decide +kernel
theorem dX5_pass_13 : decode cX5_pass 13 = .ok (.ldc 204, 2) := by decide +kernel
theorem dX5_pass_15 : decode cX5_pass 15 = .ok (.invokespecial 37, 3) := by decide +kernel
theorem dX5_pass_18 : decode cX5_pass 18 = .ok (.athrow, 1) := by decide +kernel
theorem dX5_pass_19 : decode cX5_pass 19 = .ok (.aload_n 0, 1) := by decide +kernel
theorem dX5_pass_20 : decode cX5_pass 20 = .ok (.getfield 10, 3) := by decide +kernel
theorem dX5_pass_23 : decode cX5_pass 23 = .ok (.getfield 206, 3) := by decide +kernel
theorem dX5_pass_26 : decode cX5_pass 26 = .ok (.istore_n 2, 1) := by decide +kernel
theorem dX5_pass_27 : decode cX5_pass 27 = .ok (.aload_n 0, 1) := by decide +kernel
theorem dX5_pass_28 : decode cX5_pass 28 = .ok (.getfield 10, 3) := by decide +kernel
theorem dX5_pass_31 : decode cX5_pass 31 = .ok (.iload_n 1, 1) := by decide +kernel
theorem dX5_pass_32 : decode cX5_pass 32 = .ok (.invokevirtual 209, 3) := by decide +kernel
theorem dX5_pass_35 : decode cX5_pass 35 = .ok (.aload_n 0, 1) := by decide +kernel
theorem dX5_pass_36 : decode cX5_pass 36 = .ok (.getfield 10, 3) := by decide +kernel
theorem dX5_pass_39 : decode cX5_pass 39 = .ok (.getfield 206, 3) := by decide +kernel
theorem dX5_pass_42 : decode cX5_pass 42 = .ok (.iload_n 2, 1) := by decide +kernel
theorem dX5_pass_43 : decode cX5_pass 43 = .ok (.isub, 1) := by decide +kernel
theorem dX5_pass_44 : decode cX5_pass 44 = .ok (.ireturn, 1) := by decide +kernel
set_option maxRecDepth 20000 in
theorem ggX5_ripe_X5_isBelow : GoodIn wsX5_ripe wsX5_isBelow := goodIn_r _ [10] (by decide +kernel) (by decide +kernel)
set_option maxRecDepth 20000 in
theorem gX5_ripe_X5_isBelow : GoodIn wsX5_ripe (va_wsS RX5 19 yX5_isBelow wsX5_isBelow) := goodIn_app (goodIn_of _ (by decide +kernel)) ggX5_ripe_X5_isBelow
set_option maxRecDepth 20000 in
theorem ggX5_ripe_X5_isFrom1To : GoodIn wsX5_ripe wsX5_isFrom1To := goodIn_r _ [13] (by decide +kernel) (by decide +kernel)
set_option maxRecDepth 20000 in
theorem gX5_ripe_X5_isFrom1To : GoodIn wsX5_ripe (va_wsS RX5 30 yX5_isFrom1To wsX5_isFrom1To) := goodIn_app (goodIn_of _ (by decide +kernel)) ggX5_ripe_X5_isFrom1To
set_option maxRecDepth 20000 in
theorem ggX5_ripe_X0_becomeLike : GoodIn wsX5_ripe wsX0_becomeLike := goodIn_r _ [18, 19, 20, 21, 22, 23, 24, 25, 26, 27, 28, 29, 30, 31, 32, 33, 34, 35, 36, 37, 38, 39, 40, 41, 42, 43, 44, 45, 46, 47, 48, 49, 50, 51, 52, 53, 54, 55, 56, 57, 58, 59, 60, 61, 62, 63, 64, 65, 66, 67, 68, 69, 70, 71, 72, 73, 74, 214, 215, 216, 217, 218, 219, 220, 221, 222, 223, 224, 225, 226, 227, 228, 229, 230, 231, 232, 233, 234, 235, 236, 237, 238, 239, 240, 241] (by decide +kernel) (by decide +kernel)
set_option maxRecDepth 20000 in
theorem gX5_ripe_X0_becomeLike : GoodIn wsX5_ripe (wsV RX5 214 RX0 yX0_becomeLike wsX0_becomeLike) := goodIn_app (goodIn_of _ (by decide +kernel)) ggX5_ripe_X0_becomeLike
set_option maxRecDepth 20000 in
theorem ggX5_ripe_X4_beatOf : GoodIn wsX5_ripe wsX4_beatOf := goodIn_r _ [78, 42, 8, 9, 10, 226, 227, 228] (by decide +kernel) (by decide +kernel)
set_option maxRecDepth 20000 in
theorem gX5_ripe_X4_beatOf : GoodIn wsX5_ripe (wsV RX5 218 RX4 yX4_beatOf wsX4_beatOf) := goodIn_app (goodIn_of _ (by decide +kernel)) ggX5_ripe_X4_beatOf
set_option maxRecDepth 20000 in
theorem ggX5_ripe_X0_liveDay : GoodIn wsX5_ripe wsX0_liveDay := goodIn_r _ [82, 30, 29, 19, 32, 83, 84, 85, 86, 87, 88, 89, 38, 90, 40, 42, 91, 92, 93, 94, 95, 96, 97, 98, 99, 100, 101, 17, 102, 33, 31, 22, 23, 103, 104, 105, 106, 107, 108, 109, 110, 57, 111, 62, 112, 113, 114, 115, 59, 116, 117, 118, 119, 63, 120, 76, 77, 78, 8, 9, 10, 121, 122, 123, 47, 124, 52, 125, 126, 127, 128, 49, 129, 130, 131, 132, 60, 133, 134, 135, 136, 21, 137, 138, 139, 140, 141, 142, 143, 144, 145, 146, 147, 148, 43, 149, 150, 151, 152, 153, 154, 155, 53, 156, 157, 158, 159, 50, 160, 161, 162, 67, 163, 69, 71, 73, 74, 70, 164, 165, 166, 7, 167, 168, 169, 170, 171, 172, 173, 174, 175, 176, 177, 178, 179, 180, 181, 182, 183, 184, 185, 186, 187, 188, 189, 190, 191, 192, 193, 194, 195, 196, 197, 198, 199, 200, 201, 202, 203, 34, 204, 205, 206, 207, 208, 209, 210, 211, 214, 215, 216, 217, 218, 219, 220, 221, 222, 223, 224, 225, 233, 234, 235, 236, 226, 227, 228, 229, 230, 231, 232, 237, 238, 239, 240, 241] (by decide +kernel) (by decide +kernel)
set_option maxRecDepth 20000 in
theorem gX5_ripe_X0_liveDay : GoodIn wsX5_ripe (wsV RX5 221 RX0 yX0_liveDay wsX0_liveDay) := goodIn_app (goodIn_of _ (by decide +kernel)) ggX5_ripe_X0_liveDay
theorem dX5_ripe_0 : decode cX5_ripe 0 = .ok (.iload_n 1, 1) := by decide +kernel
theorem dX5_ripe_1 : decode cX5_ripe 1 = .ok (.iconst 4, 1) := by decide +kernel
theorem dX5_ripe_2 : decode cX5_ripe 2 = .ok (.invokestatic 19, 3) := by decide +kernel
theorem dX5_ripe_5 : decode cX5_ripe 5 = .ok (.ifCond .ne 13, 3) := by decide +kernel
theorem dX5_ripe_8 : decode cX5_ripe 8 = .ok (.new 23, 3) := by decide +kernel
theorem dX5_ripe_11 : decode cX5_ripe 11 = .ok (.dup, 1) := by decide +kernel
theorem dX5_ripe_12 : decode cX5_ripe 12 = .ok (.ldc 100, 2) := by decide +kernel
theorem dX5_ripe_14 : decode cX5_ripe 14 = .ok (.invokespecial 27, 3) := by decide +kernel
theorem dX5_ripe_17 : decode cX5_ripe 17 = .ok (.athrow, 1) := by decide +kernel
theorem dX5_ripe_18 : decode cX5_ripe 18 = .ok (.iload_n 2, 1) := by decide +kernel
theorem dX5_ripe_19 : decode cX5_ripe 19 = .ok (.bipush 99, 2) := by decide +kernel
theorem dX5_ripe_21 : decode cX5_ripe 21 = .ok (.invokestatic 30, 3) := by decide +kernel
theorem dX5_ripe_24 : decode cX5_ripe 24 = .ok (.ifCond .ne 13, 3) := by decide +kernel
theorem dX5_ripe_27 : decode cX5_ripe 27 = .ok (.new 33, 3) := by decide +kernel
theorem dX5_ripe_30 : decode cX5_ripe 30 = .ok (.dup, 1) := by decide +kernel
theorem dX5_ripe_31 : decode cX5_ripe 31 = .ok (.ldc 212, 2) := by decide +kernel
theorem dX5_ripe_33 : decode cX5_ripe 33 = .ok (.invokespecial 37, 3) := by decide +kernel
theorem dX5_ripe_36 : decode cX5_ripe 36 = .ok (.athrow, 1) := by decide +kernel
theorem dX5_ripe_37 : decode cX5_ripe 37 = .ok (.aload_n 0, 1) := by decide +kernel
theorem dX5_ripe_38 : decode cX5_ripe 38 = .ok (.getfield 16, 3) := by decide +kernel
theorem dX5_ripe_41 : decode cX5_ripe 41 = .ok (.aload_n 0, 1) := by decide +kernel
theorem dX5_ripe_42 : decode cX5_ripe 42 = .ok (.getfield 10, 3) := by decide +kernel
theorem dX5_ripe_45 : decode cX5_ripe 45 = .ok (.invokevirtual 214, 3) := by decide +kernel
theorem dX5_ripe_48 : decode cX5_ripe 48 = .ok (.iconst 0, 1) := by decide +kernel
theorem dX5_ripe_49 : decode cX5_ripe 49 = .ok (.istore_n 3, 1) := by decide +kernel
theorem dX5_ripe_50 : decode cX5_ripe 50 = .ok (.iload_n 3, 1) := by decide +kernel
theorem dX5_ripe_51 : decode cX5_ripe 51 = .ok (.bipush 60, 2) := by decide +kernel
theorem dX5_ripe_53 : decode cX5_ripe 53 = .ok (.if_icmp .gt 33, 3) := by decide +kernel
theorem dX5_ripe_56 : decode cX5_ripe 56 = .ok (.aload_n 0, 1) := by decide +kernel
theorem dX5_ripe_57 : decode cX5_ripe 57 = .ok (.getfield 16, 3) := by decide +kernel
theorem dX5_ripe_60 : decode cX5_ripe 60 = .ok (.getfield 81, 3) := by decide +kernel
theorem dX5_ripe_63 : decode cX5_ripe 63 = .ok (.iload_n 1, 1) := by decide +kernel
theorem dX5_ripe_64 : decode cX5_ripe 64 = .ok (.invokevirtual 218, 3) := by decide +kernel
theorem dX5_ripe_67 : decode cX5_ripe 67 = .ok (.iload_n 2, 1) := by decide +kernel
theorem dX5_ripe_68 : decode cX5_ripe 68 = .ok (.if_icmp .lt 5, 3) := by decide +kernel
theorem dX5_ripe_71 : decode cX5_ripe 71 = .ok (.iload_n 3, 1) := by decide +kernel
theorem dX5_ripe_72 : decode cX5_ripe 72 = .ok (.ireturn, 1) := by decide +kernel
theorem dX5_ripe_73 : decode cX5_ripe 73 = .ok (.aload_n 0, 1) := by decide +kernel
theorem dX5_ripe_74 : decode cX5_ripe 74 = .ok (.getfield 16, 3) := by decide +kernel
theorem dX5_ripe_77 : decode cX5_ripe 77 = .ok (.invokevirtual 221, 3) := by decide +kernel
theorem dX5_ripe_80 : decode cX5_ripe 80 = .ok (.iinc 3 1, 3) := by decide +kernel
theorem dX5_ripe_83 : decode cX5_ripe 83 = .ok (.goto (-33), 3) := by decide +kernel
theorem dX5_ripe_86 : decode cX5_ripe 86 = .ok (.iconst (-1), 1) := by decide +kernel
theorem dX5_ripe_87 : decode cX5_ripe 87 = .ok (.ireturn, 1) := by decide +kernel
set_option maxRecDepth 20000 in
theorem ggX5_foresee_X5_isFrom1To : GoodIn wsX5_foresee wsX5_isFrom1To := goodIn_r _ [10] (by decide +kernel) (by decide +kernel)
set_option maxRecDepth 20000 in
theorem gX5_foresee_X5_isFrom1To : GoodIn wsX5_foresee (va_wsS RX5 30 yX5_isFrom1To wsX5_isFrom1To) := goodIn_app (goodIn_of _ (by decide +kernel)) ggX5_foresee_X5_isFrom1To
set_option maxRecDepth 20000 in
theorem ggX5_foresee_X5_isBelow : GoodIn wsX5_foresee wsX5_isBelow := goodIn_r _ [13] (by decide +kernel) (by decide +kernel)
set_option maxRecDepth 20000 in
theorem gX5_foresee_X5_isBelow : GoodIn wsX5_foresee (va_wsS RX5 19 yX5_isBelow wsX5_isBelow) := goodIn_app (goodIn_of _ (by decide +kernel)) ggX5_foresee_X5_isBelow
set_option maxRecDepth 20000 in
theorem ggX5_foresee_X0_becomeLike : GoodIn wsX5_foresee wsX0_becomeLike := goodIn_r _ [18, 19, 20, 21, 22, 23, 24, 25, 26, 27, 28, 29, 30, 31, 32, 33, 34, 35, 36, 37, 38, 39, 40, 41, 42, 43, 44, 45, 46, 47, 48, 49, 50, 51, 52, 53, 54, 55, 56, 57, 58, 59, 60, 61, 62, 63, 64, 65, 66, 67, 68, 69, 70, 71, 72, 73, 74, 233, 234, 235, 236, 237, 238, 239, 240, 241, 242, 243, 244, 245, 246, 247, 248, 249, 250, 251, 252, 253, 254, 255, 256, 257, 258, 259, 260] (by decide +kernel) (by decide +kernel)
set_option maxRecDepth 20000 in
theorem gX5_foresee_X0_becomeLike : GoodIn wsX5_foresee (wsV RX5 214 RX0 yX0_becomeLike wsX0_becomeLike) := goodIn_app (goodIn_of _ (by decide +kernel)) ggX5_foresee_X0_becomeLike
set_option maxRecDepth 20000 in
theorem ggX5_foresee_X0_liveDays : GoodIn wsX5_foresee wsX0_liveDays := goodIn_r _ [78, 79, 80, 81, 17, 82, 30, 29, 19, 32, 83, 84, 85, 86, 87, 88, 89, 38, 90, 40, 42, 91, 92, 93, 94, 95, 96, 97, 98, 99, 100, 101, 102, 33, 31, 22, 23, 103, 104, 105, 106, 107, 108, 109, 110, 57, 111, 62, 112, 113, 114, 115, 59, 116, 117, 118, 119, 63, 120, 121, 122, 123, 12, 9, 13, 124, 125, 126, 47, 127, 52, 128, 129, 130, 131, 49, 132, 133, 134, 135, 60, 136, 137, 138, 139, 21, 140, 141, 142, 143, 144, 145, 146, 147, 148, 149, 150, 151, 43, 152, 153, 154, 155, 156, 157, 158, 53, 159, 160, 161, 162, 50, 163, 164, 165, 67, 166, 69, 71, 73, 74, 70, 167, 168, 169, 11, 170, 171, 172, 173, 174, 175, 176, 177, 178, 179, 180, 181, 182, 183, 184, 185, 186, 187, 188, 189, 190, 191, 192, 193, 194, 195, 196, 197, 198, 199, 200, 201, 202, 203, 204, 205, 206, 34, 207, 208, 209, 210, 211, 212, 213, 214, 233, 234, 235, 236, 237, 238, 239, 240, 241, 242, 243, 244, 252, 253, 254, 255, 245, 246, 247, 248, 249, 250, 251, 256, 257, 258, 259, 260] (by decide +kernel) (by decide +kernel)
set_option maxRecDepth 20000 in
theorem gX5_foresee_X0_liveDays : GoodIn wsX5_foresee (wsV RX5 209 RX0 yX0_liveDays wsX0_liveDays) := goodIn_app (goodIn_of _ (by decide +kernel)) ggX5_foresee_X0_liveDays
set_option maxRecDepth 20000 in
theorem ggX5_foresee_X0_tell : GoodIn wsX5_foresee wsX0_tell := goodIn_r _ [218, 19, 20, 21, 22, 23, 33, 30, 136, 137, 138, 17, 139, 219, 220, 221, 222, 34, 223, 224, 225, 38, 226, 40, 227, 228, 229, 230, 24, 12, 9, 13, 233, 234, 235, 236, 237, 238, 239, 240, 241, 242, 243, 244, 256, 257, 258, 259, 260, 245, 246, 247] (by decide +kernel) (by decide +kernel)
set_option maxRecDepth 20000 in
theorem gX5_foresee_X0_tell : GoodIn wsX5_foresee (wsV RX5 202 RX0 yX0_tell wsX0_tell) := goodIn_app (goodIn_of _ (by decide +kernel)) ggX5_foresee_X0_tell
theorem dX5_foresee_0 : decode cX5_foresee 0 = .ok (.iload_n 1, 1) := by decide +kernel
theorem dX5_foresee_1 : decode cX5_foresee 1 = .ok (.bipush 40, 2) := by decide +kernel
theorem dX5_foresee_3 : decode cX5_foresee 3 = .ok (.invokestatic 30, 3) := by decide +kernel
theorem dX5_foresee_6 : decode cX5_foresee 6 = .ok (.ifCond .ne 13, 3) := by decide +kernel
theorem dX5_foresee_9 : decode cX5_foresee 9 = .ok (.new 33, 3) := by decide +kernel
theorem dX5_foresee_12 : decode cX5_foresee 12 = .ok (.dup, 1) := by decide +kernel
theorem dX5_foresee_13 : decode cX5_foresee 13 = .ok (.ldc 204, 2) := by decide +kernel
theorem dX5_foresee_15 : decode cX5_foresee 15 = .ok (.invokespecial 37, 3) := by decide +kernel
theorem dX5_foresee_18 : decode cX5_foresee 18 = .ok (.athrow, 1) := by decide +kernel
theorem dX5_foresee_19 : decode cX5_foresee 19 = .ok (.iload_n 2, 1) := by decide +kernel
theorem dX5_foresee_20 : decode cX5_foresee 20 = .ok (.bipush 12, 2) := by decide +kernel
theorem dX5_foresee_22 : decode cX5_foresee 22 = .ok (.invokestatic 19, 3) := by decide +kernel
theorem dX5_foresee_25 : decode cX5_foresee 25 = .ok (.ifCond .ne 13, 3) := by decide +kernel
theorem dX5_foresee_28 : decode cX5_foresee 28 = .ok (.new 23, 3) := by decide +kernel
theorem dX5_foresee_31 : decode cX5_foresee 31 = .ok (.dup, 1) := by decide +kernel
theorem dX5_foresee_32 : decode cX5_foresee 32 = .ok (.ldc 200, 2) := by decide +kernel
theorem dX5_foresee_34 : decode cX5_foresee 34 = .ok (.invokespecial 27, 3) := by decide +kernel
theorem dX5_foresee_37 : decode cX5_foresee 37 = .ok (.athrow, 1) := by decide +kernel
theorem dX5_foresee_38 : decode cX5_foresee 38 = .ok (.aload_n 0, 1) := by decide +kernel
theorem dX5_foresee_39 : decode cX5_foresee 39 = .ok (.getfield 16, 3) := by decide +kernel
theorem dX5_foresee_42 : decode cX5_foresee 42 = .ok (.aload_n 0, 1) := by decide +kernel
theorem dX5_foresee_43 : decode cX5_foresee 43 = .ok (.getfield 10, 3) := by decide +kernel
theorem dX5_foresee_46 : decode cX5_foresee 46 = .ok (.invokevirtual 214, 3) := by decide +kernel
theorem dX5_foresee_49 : decode cX5_foresee 49 = .ok (.aload_n 0, 1) := by decide +kernel
theorem dX5_foresee_50 : decode cX5_foresee 50 = .ok (.getfield 16, 3) := by decide +kernel
theorem dX5_foresee_53 : decode cX5_foresee 53 = .ok (.iload_n 1, 1) := by decide +kernel
theorem dX5_foresee_54 : decode cX5_foresee 54 = .ok (.invokevirtual 209, 3) := by decide +kernel
theorem dX5_foresee_57 : decode cX5_foresee 57 = .ok (.aload_n 0, 1) := by decide +kernel
theorem dX5_foresee_58 : decode cX5_foresee 58 = .ok (.getfield 16, 3) := by decide +kernel
theorem dX5_foresee_61 : decode cX5_foresee 61 = .ok (.iload_n 2, 1) := by decide +kernel
theorem dX5_foresee_62 : decode cX5_foresee 62 = .ok (.invokevirtual 202, 3) := by decide +kernel
theorem dX5_foresee_65 : decode cX5_foresee 65 = .ok (.ireturn, 1) := by decide +kernel
set_option maxRecDepth 20000 in
theorem ggX5_mean_X1_wornOf : GoodIn wsX5_mean wsX1_wornOf := goodIn_r _ [6, 7, 8, 9, 10, 5, 11, 12, 27, 28, 29, 30] (by decide +kernel) (by decide +kernel)
set_option maxRecDepth 20000 in
theorem gX5_mean_X1_wornOf : GoodIn wsX5_mean (wsV RX5 132 RX1 yX1_wornOf wsX1_wornOf) := goodIn_app (goodIn_of _ (by decide +kernel)) ggX5_mean_X1_wornOf
theorem dX5_mean_0 : decode cX5_mean 0 = .ok (.aload_n 0, 1) := by decide +kernel
theorem dX5_mean_1 : decode cX5_mean 1 = .ok (.getfield 10, 3) := by decide +kernel
theorem dX5_mean_4 : decode cX5_mean 4 = .ok (.getfield 112, 3) := by decide +kernel
theorem dX5_mean_7 : decode cX5_mean 7 = .ok (.getfield 116, 3) := by decide +kernel
theorem dX5_mean_10 : decode cX5_mean 10 = .ok (.istore_n 1, 1) := by decide +kernel
theorem dX5_mean_11 : decode cX5_mean 11 = .ok (.iload_n 1, 1) := by decide +kernel
theorem dX5_mean_12 : decode cX5_mean 12 = .ok (.ifCond .ne 5, 3) := by decide +kernel
theorem dX5_mean_15 : decode cX5_mean 15 = .ok (.dconst 0, 1) := by decide +kernel
theorem dX5_mean_16 : decode cX5_mean 16 = .ok (.dreturn, 1) := by decide +kernel
theorem dX5_mean_17 : decode cX5_mean 17 = .ok (.iconst 0, 1) := by decide +kernel
theorem dX5_mean_18 : decode cX5_mean 18 = .ok (.istore_n 2, 1) := by decide +kernel
theorem dX5_mean_19 : decode cX5_mean 19 = .ok (.iconst 0, 1) := by decide +kernel
theorem dX5_mean_20 : decode cX5_mean 20 = .ok (.istore_n 3, 1) := by decide +kernel
theorem dX5_mean_21 : decode cX5_mean 21 = .ok (.iload_n 3, 1) := by decide +kernel
theorem dX5_mean_22 : decode cX5_mean 22 = .ok (.iload_n 1, 1) := by decide +kernel
theorem dX5_mean_23 : decode cX5_mean 23 = .ok (.if_icmp .ge 23, 3) := by decide +kernel
theorem dX5_mean_26 : decode cX5_mean 26 = .ok (.iload_n 2, 1) := by decide +kernel
theorem dX5_mean_27 : decode cX5_mean 27 = .ok (.aload_n 0, 1) := by decide +kernel
theorem dX5_mean_28 : decode cX5_mean 28 = .ok (.getfield 10, 3) := by decide +kernel
theorem dX5_mean_31 : decode cX5_mean 31 = .ok (.getfield 112, 3) := by decide +kernel
theorem dX5_mean_34 : decode cX5_mean 34 = .ok (.iload_n 3, 1) := by decide +kernel
theorem dX5_mean_35 : decode cX5_mean 35 = .ok (.invokevirtual 132, 3) := by decide +kernel
theorem dX5_mean_38 : decode cX5_mean 38 = .ok (.iadd, 1) := by decide +kernel
theorem dX5_mean_39 : decode cX5_mean 39 = .ok (.istore_n 2, 1) := by decide +kernel
theorem dX5_mean_40 : decode cX5_mean 40 = .ok (.iinc 3 1, 3) := by decide +kernel
theorem dX5_mean_43 : decode cX5_mean 43 = .ok (.goto (-22), 3) := by decide +kernel
theorem dX5_mean_46 : decode cX5_mean 46 = .ok (.iload_n 2, 1) := by decide +kernel
theorem dX5_mean_47 : decode cX5_mean 47 = .ok (.i2d, 1) := by decide +kernel
theorem dX5_mean_48 : decode cX5_mean 48 = .ok (.iload_n 1, 1) := by decide +kernel
theorem dX5_mean_49 : decode cX5_mean 49 = .ok (.i2d, 1) := by decide +kernel
theorem dX5_mean_50 : decode cX5_mean 50 = .ok (.ddiv, 1) := by decide +kernel
theorem dX5_mean_51 : decode cX5_mean 51 = .ok (.dreturn, 1) := by decide +kernel
theorem dX5_isBelow_0 : decode cX5_isBelow 0 = .ok (.iload_n 0, 1) := by decide +kernel
theorem dX5_isBelow_1 : decode cX5_isBelow 1 = .ok (.ifCond .lt 12, 3) := by decide +kernel
theorem dX5_isBelow_4 : decode cX5_isBelow 4 = .ok (.iload_n 0, 1) := by decide +kernel
theorem dX5_isBelow_5 : decode cX5_isBelow 5 = .ok (.iload_n 1, 1) := by decide +kernel
theorem dX5_isBelow_6 : decode cX5_isBelow 6 = .ok (.if_icmp .ge 7, 3) := by decide +kernel
theorem dX5_isBelow_9 : decode cX5_isBelow 9 = .ok (.iconst 1, 1) := by decide +kernel
theorem dX5_isBelow_10 : decode cX5_isBelow 10 = .ok (.goto 4, 3) := by decide +kernel
theorem dX5_isBelow_13 : decode cX5_isBelow 13 = .ok (.iconst 0, 1) := by decide +kernel
theorem dX5_isBelow_14 : decode cX5_isBelow 14 = .ok (.ireturn, 1) := by decide +kernel
theorem dX5_isFrom1To_0 : decode cX5_isFrom1To 0 = .ok (.iload_n 0, 1) := by decide +kernel
theorem dX5_isFrom1To_1 : decode cX5_isFrom1To 1 = .ok (.iconst 1, 1) := by decide +kernel
theorem dX5_isFrom1To_2 : decode cX5_isFrom1To 2 = .ok (.if_icmp .lt 12, 3) := by decide +kernel
theorem dX5_isFrom1To_5 : decode cX5_isFrom1To 5 = .ok (.iload_n 0, 1) := by decide +kernel
theorem dX5_isFrom1To_6 : decode cX5_isFrom1To 6 = .ok (.iload_n 1, 1) := by decide +kernel
theorem dX5_isFrom1To_7 : decode cX5_isFrom1To 7 = .ok (.if_icmp .gt 7, 3) := by decide +kernel
theorem dX5_isFrom1To_10 : decode cX5_isFrom1To 10 = .ok (.iconst 1, 1) := by decide +kernel
theorem dX5_isFrom1To_11 : decode cX5_isFrom1To 11 = .ok (.goto 4, 3) := by decide +kernel
theorem dX5_isFrom1To_14 : decode cX5_isFrom1To 14 = .ok (.iconst 0, 1) := by decide +kernel
theorem dX5_isFrom1To_15 : decode cX5_isFrom1To 15 = .ok (.ireturn, 1) := by decide +kernel
set_option maxRecDepth 20000 in
theorem ggX5_worthOf_X5_isBelow : GoodIn wsX5_worthOf wsX5_isBelow := goodIn_r _ [5] (by decide +kernel) (by decide +kernel)
set_option maxRecDepth 20000 in
theorem gX5_worthOf_X5_isBelow : GoodIn wsX5_worthOf (va_wsS RX5 19 yX5_isBelow wsX5_isBelow) := goodIn_app (goodIn_of _ (by decide +kernel)) ggX5_worthOf_X5_isBelow
theorem dX5_worthOf_0 : decode cX5_worthOf 0 = .ok (.iload_n 0, 1) := by decide +kernel
theorem dX5_worthOf_1 : decode cX5_worthOf 1 = .ok (.iconst 3, 1) := by decide +kernel
theorem dX5_worthOf_2 : decode cX5_worthOf 2 = .ok (.invokestatic 19, 3) := by decide +kernel
theorem dX5_worthOf_5 : decode cX5_worthOf 5 = .ok (.ifCond .eq 11, 3) := by decide +kernel
theorem dX5_worthOf_8 : decode cX5_worthOf 8 = .ok (.getstatic 252, 3) := by decide +kernel
theorem dX5_worthOf_11 : decode cX5_worthOf 11 = .ok (.iload_n 0, 1) := by decide +kernel
theorem dX5_worthOf_12 : decode cX5_worthOf 12 = .ok (.iaload, 1) := by decide +kernel
theorem dX5_worthOf_13 : decode cX5_worthOf 13 = .ok (.goto 4, 3) := by decide +kernel
theorem dX5_worthOf_16 : decode cX5_worthOf 16 = .ok (.iconst 0, 1) := by decide +kernel
theorem dX5_worthOf_17 : decode cX5_worthOf 17 = .ok (.ireturn, 1) := by decide +kernel
end
section
abbrev vwCl : List vw_C := [(RX0, TX0, 12), (RX1, TX1, 4), (RX2, TX2, 5), (RX3, TX3, 4), (RX4, TX4, 3), (RX5, TX5, 2), (RX6, TX6, 12)]
theorem dJ9_floorMod_7cf53_0 : decode cJ9_floorMod_7cf53 0 = .ok (.iload_n 0, 1) := by decide +kernel
theorem dJ9_floorMod_7cf53_1 : decode cJ9_floorMod_7cf53 1 = .ok (.iload_n 1, 1) := by decide +kernel
theorem dJ9_floorMod_7cf53_2 : decode cJ9_floorMod_7cf53 2 = .ok (.irem, 1) := by decide +kernel
theorem dJ9_floorMod_7cf53_3 : decode cJ9_floorMod_7cf53 3 = .ok (.istore_n 2, 1) := by decide +kernel
theorem dJ9_floorMod_7cf53_4 : decode cJ9_floorMod_7cf53 4 = .ok (.iload_n 0, 1) := by decide +kernel
theorem dJ9_floorMod_7cf53_5 : decode cJ9_floorMod_7cf53 5 = .ok (.iload_n 1, 1) := by decide +kernel
theorem dJ9_floorMod_7cf53_6 : decode cJ9_floorMod_7cf53 6 = .ok (.ixor, 1) := by decide +kernel
theorem dJ9_floorMod_7cf53_7 : decode cJ9_floorMod_7cf53 7 = .ok (.ifCond .ge 11, 3) := by decide +kernel
theorem dJ9_floorMod_7cf53_10 : decode cJ9_floorMod_7cf53 10 = .ok (.iload_n 2, 1) := by decide +kernel
theorem dJ9_floorMod_7cf53_11 : decode cJ9_floorMod_7cf53 11 = .ok (.ifCond .eq 7, 3) := by decide +kernel
theorem dJ9_floorMod_7cf53_14 : decode cJ9_floorMod_7cf53 14 = .ok (.iload_n 2, 1) := by decide +kernel
theorem dJ9_floorMod_7cf53_15 : decode cJ9_floorMod_7cf53 15 = .ok (.iload_n 1, 1) := by decide +kernel
theorem dJ9_floorMod_7cf53_16 : decode cJ9_floorMod_7cf53 16 = .ok (.iadd, 1) := by decide +kernel
theorem dJ9_floorMod_7cf53_17 : decode cJ9_floorMod_7cf53 17 = .ok (.ireturn, 1) := by decide +kernel
theorem dJ9_floorMod_7cf53_18 : decode cJ9_floorMod_7cf53 18 = .ok (.iload_n 2, 1) := by decide +kernel
theorem dJ9_floorMod_7cf53_19 : decode cJ9_floorMod_7cf53 19 = .ok (.ireturn, 1) := by decide +kernel
theorem dJ9_min_7cf53_0 : decode cJ9_min_7cf53 0 = .ok (.iload_n 0, 1) := by decide +kernel
theorem dJ9_min_7cf53_1 : decode cJ9_min_7cf53 1 = .ok (.iload_n 1, 1) := by decide +kernel
theorem dJ9_min_7cf53_2 : decode cJ9_min_7cf53 2 = .ok (.if_icmp .gt 7, 3) := by decide +kernel
theorem dJ9_min_7cf53_5 : decode cJ9_min_7cf53 5 = .ok (.iload_n 0, 1) := by decide +kernel
theorem dJ9_min_7cf53_6 : decode cJ9_min_7cf53 6 = .ok (.goto 4, 3) := by decide +kernel
theorem dJ9_min_7cf53_9 : decode cJ9_min_7cf53 9 = .ok (.iload_n 1, 1) := by decide +kernel
theorem dJ9_min_7cf53_10 : decode cJ9_min_7cf53 10 = .ok (.ireturn, 1) := by decide +kernel
theorem dJ7_fill_53178_0 : decode cJ7_fill_53178 0 = .ok (.iconst 0, 1) := by decide +kernel
theorem dJ7_fill_53178_1 : decode cJ7_fill_53178 1 = .ok (.istore_n 2, 1) := by decide +kernel
theorem dJ7_fill_53178_2 : decode cJ7_fill_53178 2 = .ok (.aload_n 0, 1) := by decide +kernel
theorem dJ7_fill_53178_3 : decode cJ7_fill_53178 3 = .ok (.arraylength, 1) := by decide +kernel
theorem dJ7_fill_53178_4 : decode cJ7_fill_53178 4 = .ok (.istore_n 3, 1) := by decide +kernel
theorem dJ7_fill_53178_5 : decode cJ7_fill_53178 5 = .ok (.iload_n 2, 1) := by decide +kernel
theorem dJ7_fill_53178_6 : decode cJ7_fill_53178 6 = .ok (.iload_n 3, 1) := by decide +kernel
theorem dJ7_fill_53178_7 : decode cJ7_fill_53178 7 = .ok (.if_icmp .ge 13, 3) := by decide +kernel
theorem dJ7_fill_53178_10 : decode cJ7_fill_53178 10 = .ok (.aload_n 0, 1) := by decide +kernel
theorem dJ7_fill_53178_11 : decode cJ7_fill_53178 11 = .ok (.iload_n 2, 1) := by decide +kernel
theorem dJ7_fill_53178_12 : decode cJ7_fill_53178 12 = .ok (.iload_n 1, 1) := by decide +kernel
theorem dJ7_fill_53178_13 : decode cJ7_fill_53178 13 = .ok (.iastore, 1) := by decide +kernel
theorem dJ7_fill_53178_14 : decode cJ7_fill_53178 14 = .ok (.iinc 2 1, 3) := by decide +kernel
theorem dJ7_fill_53178_17 : decode cJ7_fill_53178 17 = .ok (.goto (-12), 3) := by decide +kernel
theorem dJ7_fill_53178_20 : decode cJ7_fill_53178 20 = .ok (.return_, 1) := by decide +kernel
end
section
abbrev FN : Type := Nat → Int32
/-- where the statics' tables lie, and the script: its place is sa.1 3 -/
abbrev SAT : Type := (Nat → Nat) × (Nat × FN)
/-- checks: an answer only where the check holds -/
def ckI {α : Type} (i : Int32) (n : Nat) (k : Option α) : Option α := if 0 ≤ i.toInt ∧ i.toInt < n then k else none
def ckZ {α : Type} (y : Int32) (k : Option α) : Option α := if y = 0 then none else k
def ckC {α : Type} (sp dp n : Int32) (n0 n1 : Nat) (k : Option α) : Option α := if ¬ sp < 0 ∧ ¬ dp < 0 ∧ ¬ n < 0 ∧ sp.toNatClampNeg + n.toNatClampNeg ≤ n0 ∧ dp.toNatClampNeg + n.toNatClampNeg ≤ n1 then k else none
theorem ckI_some {α : Type} {i : Int32} {n : Nat} {k : Option α} {r : α} (h : ckI i n k = some r) : vp_in i n ∧ k = some r := by
  unfold ckI at h
  by_cases c : 0 ≤ i.toInt ∧ i.toInt < n
  · rw [if_pos c] at h
    exact ⟨vp_in_iff.mpr c, h⟩
  · rw [if_neg c] at h
    cases h
theorem ckZ_some {α : Type} {y : Int32} {k : Option α} {r : α} (h : ckZ y k = some r) : ¬ y = 0 ∧ k = some r := by
  unfold ckZ at h
  by_cases c : y = 0
  · rw [if_pos c] at h
    cases h
  · rw [if_neg c] at h
    exact ⟨c, h⟩
theorem ckC_some {α : Type} {sp dp n : Int32} {n0 n1 : Nat} {k : Option α} {r : α} (h : ckC sp dp n n0 n1 k = some r) : (¬ sp < 0 ∧ ¬ dp < 0 ∧ ¬ n < 0 ∧ sp.toNatClampNeg + n.toNatClampNeg ≤ n0 ∧ dp.toNatClampNeg + n.toNatClampNeg ≤ n1) ∧ k = some r := by
  unfold ckC at h
  by_cases c : ¬ sp < 0 ∧ ¬ dp < 0 ∧ ¬ n < 0 ∧ sp.toNatClampNeg + n.toNatClampNeg ≤ n0 ∧ dp.toNatClampNeg + n.toNatClampNeg ≤ n1
  · rw [if_pos c] at h
    exact ⟨c, h⟩
  · rw [if_neg c] at h
    cases h
theorem bnd_some {α β : Type} {o : Option β} {k : β → Option α} {r : α} (h : o.bind k = some r) : ∃ z, o = some z ∧ k z = some r := by
  cases o with
  | none => cases h
  | some z => exact ⟨z, rfl, h⟩
theorem if_t {α : Type} {c : Prop} [Decidable c] {a b x : α} (h : (if c then a else b) = x) (hc : c) : a = x := by rw [if_pos hc] at h; exact h
theorem if_f {α : Type} {c : Prop} [Decidable c] {a b x : α} (h : (if c then a else b) = x) (hc : ¬ c) : b = x := by rw [if_neg hc] at h; exact h
/-- the statics of the class: three tables of numbers -/
def tPRICES : Nat → Value := fun j => .int (([3, 2, 1, 2] : List Int32).getD j 0)
def tSORT : Nat → Value := fun j => .int (([6, 3, 0] : List Int32).getD j 0)
def tWORTH : Nat → Value := fun j => .int (([12, 7, 3] : List Int32).getD j 0)
def nwL : List Cond := [.fieldLinkNest RX5 112 "RagVats$Mill" "moulds" "LRagVats$Moulds;" "RagVats", .fieldLinkNest RX5 116 "RagVats$Moulds" "number" "I" "RagVats", .fieldLinkNest RX5 143 "RagVats$Mill" "teams" "LRagVats$Teams;" "RagVats", .fieldLinkNest RX5 147 "RagVats$Teams" "number" "I" "RagVats", .fieldLinkNest RX5 172 "RagVats$Mill" "water" "[I" "RagVats", .fieldLinkNest RX5 190 "RagVats$Mill" "posts" "LRagVats$Posts;" "RagVats", .fieldLinkNest RX5 206 "RagVats$Mill" "made" "I" "RagVats", .fieldLinkNest RX5 255 "RagVats$Mill" "worth" "I" "RagVats", .fieldLinkNest RX5 42 "RagVats$Mill" "coins" "I" "RagVats", .fieldLinkNest RX5 51 "RagVats$Mill" "felts" "I" "RagVats", .fieldLinkNest RX5 81 "RagVats$Mill" "vats" "LRagVats$Vats;" "RagVats", .fieldLinkNest RX5 92 "RagVats$Mill" "rags" "[I" "RagVats", .fieldLinkNest RX0 101 "RagVats$Posts" "number" "I" "RagVats", .fieldLinkNest RX0 190 "RagVats" "SORT_POINTS" "[I" "RagVats", .fieldLinkNest RX0 94 "RagVats$Posts" "allSheets" "I" "RagVats"]
def nwF : List Cond := [.fieldLinkNest RX0 160 "RagVats$Teams" "number" "I" "RagVats", .fieldLinkNest RX5 264 "RagVats$Posts" "number" "I" "RagVats"]
def nwM : List Cond := [.methodLinkNest RX0 174 yX5_worthOf "RagVats", .methodLinkNest RX0 43 yX1_init "RagVats", .methodLinkNest RX0 50 yX3_init "RagVats", .methodLinkNest RX0 57 yX2_init "RagVats", .methodLinkNest RX0 90 yX5_isBelow "RagVats", .methodLinkNest RX4 33 yX5_isBelow "RagVats"]
def nwC : List Cond := [.castable "[I" "java/lang/Cloneable", .castable "java/lang/IndexOutOfBoundsException" "java/lang/IndexOutOfBoundsException", .castable "java/lang/IllegalArgumentException" "java/lang/IllegalArgumentException", .castable "java/lang/IllegalStateException" "java/lang/IllegalStateException"]
def nwD : List Cond := [.declares (Bundle.initS "java/lang/RuntimeException"), .declares (Bundle.initS "java/lang/Exception"), .declares (Bundle.initS "java/lang/Throwable")]
def nwA : List Cond := nwL ++ nwF ++ nwM ++ nwC ++ nwD
theorem nwL_w : ∀ w ∈ nwL ++ nwF, ∀ {s U : State}, s.WarmedH U.vm → va_Nw w s → va_Nw w U := by
  show ∀ w ∈ ([_, _, _, _, _, _, _, _, _, _, _, _, _, _, _, _, _] : List Cond), ∀ {s U : State}, s.WarmedH U.vm → va_Nw w s → va_Nw w U
  exact List.forall_mem_cons.mpr ⟨fun h z => va_Nw.warmF h z, List.forall_mem_cons.mpr ⟨fun h z => va_Nw.warmF h z, List.forall_mem_cons.mpr ⟨fun h z => va_Nw.warmF h z, List.forall_mem_cons.mpr ⟨fun h z => va_Nw.warmF h z, List.forall_mem_cons.mpr ⟨fun h z => va_Nw.warmF h z, List.forall_mem_cons.mpr ⟨fun h z => va_Nw.warmF h z, List.forall_mem_cons.mpr ⟨fun h z => va_Nw.warmF h z, List.forall_mem_cons.mpr ⟨fun h z => va_Nw.warmF h z, List.forall_mem_cons.mpr ⟨fun h z => va_Nw.warmF h z, List.forall_mem_cons.mpr ⟨fun h z => va_Nw.warmF h z, List.forall_mem_cons.mpr ⟨fun h z => va_Nw.warmF h z, List.forall_mem_cons.mpr ⟨fun h z => va_Nw.warmF h z, List.forall_mem_cons.mpr ⟨fun h z => va_Nw.warmF h z, List.forall_mem_cons.mpr ⟨fun h z => va_Nw.warmF h z, List.forall_mem_cons.mpr ⟨fun h z => va_Nw.warmF h z, List.forall_mem_cons.mpr ⟨fun h z => va_Nw.warmF h z, List.forall_mem_cons.mpr ⟨fun h z => va_Nw.warmF h z, fun _ h => absurd h List.not_mem_nil⟩⟩⟩⟩⟩⟩⟩⟩⟩⟩⟩⟩⟩⟩⟩⟩⟩
theorem nwM_w : ∀ w ∈ nwM, ∀ {s U : State}, s.WarmedH U.vm → va_Nw w s → va_Nw w U := by
  show ∀ w ∈ ([_, _, _, _, _, _] : List Cond), ∀ {s U : State}, s.WarmedH U.vm → va_Nw w s → va_Nw w U
  exact List.forall_mem_cons.mpr ⟨fun h z => va_Nw.warmM h z, List.forall_mem_cons.mpr ⟨fun h z => va_Nw.warmM h z, List.forall_mem_cons.mpr ⟨fun h z => va_Nw.warmM h z, List.forall_mem_cons.mpr ⟨fun h z => va_Nw.warmM h z, List.forall_mem_cons.mpr ⟨fun h z => va_Nw.warmM h z, List.forall_mem_cons.mpr ⟨fun h z => va_Nw.warmM h z, fun _ h => absurd h List.not_mem_nil⟩⟩⟩⟩⟩⟩
theorem nwC_w : ∀ w ∈ nwC, ∀ {s U : State}, s.WarmedH U.vm → va_Nw w s → va_Nw w U := by
  show ∀ w ∈ ([_, _, _, _] : List Cond), ∀ {s U : State}, s.WarmedH U.vm → va_Nw w s → va_Nw w U
  exact List.forall_mem_cons.mpr ⟨fun h z => va_Nw.warmC h z, List.forall_mem_cons.mpr ⟨fun h z => va_Nw.warmC h z, List.forall_mem_cons.mpr ⟨fun h z => va_Nw.warmC h z, List.forall_mem_cons.mpr ⟨fun h z => va_Nw.warmC h z, fun _ h => absurd h List.not_mem_nil⟩⟩⟩⟩
theorem nwD_w : ∀ w ∈ nwD, ∀ {s U : State}, s.WarmedH U.vm → va_Nw w s → va_Nw w U := by
  show ∀ w ∈ ([_, _, _] : List Cond), ∀ {s U : State}, s.WarmedH U.vm → va_Nw w s → va_Nw w U
  exact List.forall_mem_cons.mpr ⟨fun h z => va_Nw.warmD h z, List.forall_mem_cons.mpr ⟨fun h z => va_Nw.warmD h z, List.forall_mem_cons.mpr ⟨fun h z => va_Nw.warmD h z, fun _ h => absurd h List.not_mem_nil⟩⟩⟩
theorem nwA_w : ∀ w ∈ nwA, ∀ {s U : State}, s.WarmedH U.vm → va_Nw w s → va_Nw w U := by
  intro w hw s U
  rcases List.mem_append.mp (show w ∈ ((nwL ++ nwF ++ nwM) ++ nwC) ++ nwD from hw) with hw | h
  rcases List.mem_append.mp hw with h | h
  · rcases List.mem_append.mp h with h | h
    · exact nwL_w w h
    · exact nwM_w w h
  · exact nwC_w w h
  · exact nwD_w w h
/-- the class of rows of ints has been made -/
def AOA (U : State) : Prop := (Cond.arrayOver (.array .int)).before #[] U = true
theorem AOA.moved {u U : State} (hvm : u.vm.Alike U.vm) (h : AOA u) : AOA U := by
  obtain ⟨comp, c, k, h1, h2, h3, h4, h5⟩ := arrayOverA_spec (args := #[]) (first := u) (o := none) (idx := []) h
  obtain ⟨k', hk', he⟩ := hvm.2.2 _ _ h3
  have hi : (U.vm.classes.findIdx? fun (x : Class) => match x.kind with | .array component _ => component == comp | _ => false) = some c := by
    have hbr : U.vm.bare = u.vm.bare := by first | exact hvm.bare_eq | exact hvm.bare_eq.symm
    refine (va_idx_bare U.vm comp).symm.trans ?_
    rw [hbr]
    exact (va_idx_bare u.vm comp).trans h2
  have hkind : k'.kind = .array comp (.array .int) := by rw [he]; exact h4
  have f1 : U.vm.findClass (FieldType.array .int).toString = some comp := by rw [hvm.findClass]; exact h1
  have f2 : U.vm.findClass ("[" ++ (FieldType.array .int).toString) = some c := by rw [hvm.findClass]; exact h5
  unfold AOA Cond.before Cond.holds
  simp only [Cond.value]
  rw [f1, Option.bind_some]
  refine (congrArg (fun o : Option Nat => (o.bind (fun c => (U.vm.classes[c]?).map fun (k : Class) => match k.kind with | .array _ ty => decide (ty = FieldType.array .int) && decide (U.vm.findClass ("[" ++ (FieldType.array .int).toString) = some c) | _ => false) == some true)) hi).trans ?_
  simp [hk', hkind, f2]
def ncL : List (String × String) := [("java/lang/IllegalArgumentException", "java/lang/IndexOutOfBoundsException"), ("java/lang/IllegalStateException", "java/lang/IndexOutOfBoundsException"), ("java/lang/IllegalStateException", "java/lang/IllegalArgumentException"), ("java/lang/IndexOutOfBoundsException", "java/lang/IllegalArgumentException")]
def strL : List (Nat × String) := [(100, "no such vat"), (102, "the vat is empty"), (108, "mark is not 0 to 9"), (110, "size is not 1 to 3"), (121, "there are 5 pairs"), (130, "no such pair"), (135, "the pair is not worn"), (141, "skill is not 1 to 12"), (150, "there are 3 teams"), (155, "no such team"), (160, "another team has this pair"), (168, "day is not 0 to 6"), (170, "water is not 0 to 9"), (175, "no such vat, or what is not 0 to 2"), (180, "no such pair, or what is not 0 to 3"), (185, "no such team, or what is not 0 to 3"), (197, "no such post, or what is not 0 to 2"), (200, "what is not 0 to 11"), (204, "days is not 1 to 40"), (212, "beat is not 1 to 99"), (25, "what is not 0 to 3"), (35, "many is not 1 to 99"), (48, "too few coins"), (54, "more than 90 felts"), (60, "no such mark or grade"), (62, "quires is not 1 to 9"), (67, "too few sheets in the loft"), (77, "no such vat or sort"), (79, "pounds is not 1 to 40"), (90, "the vat is not empty"), (95, "too few pounds")]
/-- what the tables say everywhere, beside the words -/
def GEt (U : State) : Prop := (∀ w ∈ nwA, va_Nw w U) ∧ (∀ q ∈ ncL, va_Nc q.1 q.2 U) ∧ (∀ q ∈ strL, ∃ a, vk_R RX5 q.1 q.2 a U) ∧ AOA U
/-- the statics -/
def GEh (sa : SAT) (A : Nat → Prop) (U : State) (H : Heap) : Prop := (va_Z RX5 "PRICES" "[I" (.ref (sa.1 0)) A U H ∧ va_T .int (sa.1 0) 4 tPRICES A U H) ∧ (va_Z RX5 "SORT_POINTS" "[I" (.ref (sa.1 1)) A U H ∧ va_T .int (sa.1 1) 3 tSORT A U H) ∧ (va_Z RX5 "SHEET_WORTH" "[I" (.ref (sa.1 2)) A U H ∧ va_T .int (sa.1 2) 3 tWORTH A U H) ∧ vx_Zq Bundle.tN "UNASSIGNED_STACK" Bundle.steD A U H ∧ vx_Zq Bundle.tN "SUPPRESSED_SENTINEL" Bundle.listD A U H ∧ va_T .int (sa.1 3) sa.2.1 (fun j => .int (sa.2.2 j)) A U H
def GE (sa : SAT) (A : Nat → Prop) (U : State) (H : Heap) : Prop := GEt U ∧ GEh sa A U H
theorem GE.moved {sa : SAT} {A : Nat → Prop} {s U : State} {H : Heap} (hW : s.WarmedH U.vm) (h : GE sa A s H) : GE sa A U H := by
  obtain ⟨⟨h1, h2, h3, h4⟩, ⟨a1, a2⟩, ⟨b1, b2⟩, ⟨c1, c2⟩, d1, e1, x1⟩ := h
  refine ⟨⟨fun w hw => nwA_w w hw hW (h1 w hw), fun q hq => (h2 q hq).moved hW.alike, fun q hq => ?_, h4.moved hW.alike⟩, ⟨a1.moved hW.alike, a2.moved hW.alike⟩, ⟨b1.moved hW.alike, b2.moved hW.alike⟩, ⟨c1.moved hW.alike, c2.moved hW.alike⟩, vx_Zq.moved hW.alike d1, vx_Zq.moved hW.alike e1, x1.moved hW.alike⟩
  obtain ⟨a, ha⟩ := h3 q hq
  exact ⟨a, vk_R.warm hW ha⟩
theorem GE.kept {sa : SAT} {A : Nat → Prop} {U : State} {H H1 : Heap} (h : GE sa A U H) (hq : ∀ a : Nat, a < H.size → ¬ A a → H1[a]? = H[a]?) : GE sa A U H1 := by
  obtain ⟨h1, ⟨a1, a2⟩, ⟨b1, b2⟩, ⟨c1, c2⟩, d1, e1, x1⟩ := h
  exact ⟨h1, ⟨a1.kept hq, a2.kept hq⟩, ⟨b1.kept hq, b2.kept hq⟩, ⟨c1.kept hq, c2.kept hq⟩, d1.kept hq, e1.kept hq, x1.kept hq⟩
theorem GE.narrow {sa : SAT} {A B : Nat → Prop} {U : State} {H : Heap} (h : GE sa A U H) (hq : ∀ q, B q → A q) : GE sa B U H := by
  obtain ⟨h1, ⟨a1, a2⟩, ⟨b1, b2⟩, ⟨c1, c2⟩, d1, e1, x1⟩ := h
  exact ⟨h1, ⟨a1.narrow hq, a2.narrow hq⟩, ⟨b1.narrow hq, b2.narrow hq⟩, ⟨c1.narrow hq, c2.narrow hq⟩, d1.narrow hq, e1.narrow hq, x1.narrow hq⟩
/-- a method's start over the world w -/
def KPc (D : va_G) (tys : List (ClassId × FieldType)) (sa : SAT) (w : va_W) (sz : Nat) : State → Prop := fun U => U.heap.size = sz ∧ va_P D vwCl w U.heap ∧ va_K D vwCl tys U ∧ va_D (fun _ => True) w ∧ GE sa (va_A w sz) U U.heap
/-- the world behind it -/
def KB (D : va_G) (tys : List (ClassId × FieldType)) (w : va_W) (sz : Nat) (w1 : (Nat → Nat) → va_W) : (Nat → Nat) → State → Prop := fun ad t => va_P D vwCl (w1 ad) t.heap ∧ va_K D vwCl tys t ∧ va_D (va_A w sz) (w1 ad)
theorem KPc_blind (D : va_G) (tys : List (ClassId × FieldType)) (sa : SAT) (w : va_W) (sz : Nat) (As : List Value) : FrameBlind (va_Pc As (KPc D tys sa w sz)) := by
  intro a U g mk q
  obtain ⟨q0, q1, qP, qK, qD, qG⟩ := q
  exact ⟨q0, q1, qP, va_K.moved (u := U) (U := U.calling g mk a) (Vm.Alike.refl U.vm) qK, qD, GE.moved (s := U) (U := U.calling g mk a) (State.WarmedH.refl U) qG⟩
/-- contracts: from any heap with the world w, the method answers r0, and the world is w1 -/
def KI (l : Launch) (D : va_G) (tys : List (ClassId × FieldType)) (sa : SAT) (y : MethodName) (ws : List Cond) (rm : Room) (As : List Value) (w : va_W) (r0 : Int32) (w1 : (Nat → Nat) → va_W) (mc ms : Nat) : Prop := ∀ sz : Nat, Met l y ws rm (va_Pc As (KPc D tys sa w sz)) (va_Qi (fun (r : Int32) (_ : Nat → Nat) => r = r0) (KB D tys w sz w1) (va_A w sz)) mc ms (va_A w sz)
def KL (l : Launch) (D : va_G) (tys : List (ClassId × FieldType)) (sa : SAT) (y : MethodName) (ws : List Cond) (rm : Room) (As : List Value) (w : va_W) (r0 : Int64) (w1 : (Nat → Nat) → va_W) (mc ms : Nat) : Prop := ∀ sz : Nat, Met l y ws rm (va_Pc As (KPc D tys sa w sz)) (va_Ql (fun (r : Int64) (_ : Nat → Nat) => r = r0) (KB D tys w sz w1) (va_A w sz)) mc ms (va_A w sz)
def KV (l : Launch) (D : va_G) (tys : List (ClassId × FieldType)) (sa : SAT) (y : MethodName) (ws : List Cond) (rm : Room) (As : List Value) (w : va_W) (w1 : (Nat → Nat) → va_W) (mc ms : Nat) : Prop := ∀ sz : Nat, Met l y ws rm (va_Pc As (KPc D tys sa w sz)) (va_Qv (fun (_ : Nat → Nat) => True) (KB D tys w sz w1) (va_A w sz)) mc ms (va_A w sz)
/-- what a body has at its entry -/
def KEn (D : va_G) (tys : List (ClassId × FieldType)) (sa : SAT) (y : MethodName) (ws : List Cond) (cc : ByteArray) (maxL : Nat) (As : List Value) (w : va_W) (p : Program) (s : State) (m : MethodId) (args : Array Value) (meth : Method) (c : Code) (A : Nat → Prop) (ls : Array Slot) : Prop :=
  p.tables.exec = Jvm.exec ∧ c.code = cc ∧ c.maxLocals = maxL ∧ s.vm.findClass y.cls = some m.cls ∧ (∀ q ∈ ws, q.before args s = true) ∧ (∀ q : Nat, s.heap.size ≤ q → A q) ∧ va_P D vwCl w s.heap ∧ va_K D vwCl tys s ∧ va_D A w ∧ GE sa A s s.heap ∧ lv_has ls maxL (lv_args 0 As) ∧ meth.name = y.name
theorem KI.of {l : Launch} {D : va_G} {tys : List (ClassId × FieldType)} {sa : SAT} {y : MethodName} {ws ws' : List Cond} {rm : Room} {As : List Value} {w : va_W} {r0 : Int32} {w1 : (Nat → Nat) → va_W} {mc ms : Nat} {cc : ByteArray} {maxL : Nat}
    (hy : plainName y.cls = true) (hw : ws = Cond.code y cc maxL (some .int) :: ws') (hlen : (lg_sl As).length ≤ maxL)
    (body : ∀ (p : Program) (e : Env) (s : State) (m : MethodId) (args : Array Value) (below : List Frame) (meth : Method) (c : Code) (A : Nat → Prop) (ls : Array Slot) (Q : State → Prop), KEn D tys sa y ws cc maxL As w p s m args meth c A ls →
      (∀ (H : Heap) (locs : List Loc) (cells slots pc : Nat) (ls : Array Slot) (ad : Nat → Nat), decode cc pc = .ok (.ireturn, 1) → va_P D vwCl (w1 ad) H → va_D A (w1 ad) → va_S A s.heap H locs → cells ≤ mc → slots ≤ ms → W p l e rm s m args below meth c H locs cells slots Q (F0 m pc ls [.int r0])) →
      W p l e rm s m args below meth c s.heap [] 0 0 Q (F0 m 0 ls [])) : KI l D tys sa y ws rm As w r0 w1 mc ms := by
  intro sz
  refine Met.ofW (cc := cc) (maxL := maxL) (ret := some .int) hy hw ?_
  intro p e s m args below meth c s₁ B hml hv
  obtain ⟨rfl, hsz, hP, hK, hD0, hG⟩ := hv
  have hx := B.exec
  have hb := B.bytes
  have hr := B.returns
  have hts := atoms_spec (ws := ws) B.pre
  have hown : s.vm.findClass y.cls = some m.cls := findClass_of_methodNamed B.named
  have hlocks := B.notSynchronized
  have hnm := (name_of_methodNamed B.named B.method).1
  subst hsz
  have hD := hD0.self (sz := s.heap.size)
  have hl := lv_entry As (n := maxL) hlen
  rw [lg_entry_eq]
  refine body p e s m _ below meth c (va_A w s.heap.size) _ _ ⟨hx, hb, hml, hown, hts, fun q h => Or.inr h, hP, hK, hD, hG, hl, hnm⟩ ?_
  intro H locs cells slots pc ls ad hdg hP1 hD1 hS h1 h2
  refine W.widen (k := mc) (n := ms) h1 h2 ?_
  exact W.iret (v := r0) hx hb hr (fun t ht hW => ⟨⟨r0, ad, rfl, rfl, by rw [ht]; exact hP1, va_K.moved hW.alike hK, hD1⟩, hS.F ht⟩) hS.2.2 hdg
theorem KI.ofZ {l : Launch} {D : va_G} {tys : List (ClassId × FieldType)} {sa : SAT} {y : MethodName} {ws ws' : List Cond} {rm : Room} {As : List Value} {w : va_W} {r0 : Int32} {w1 : (Nat → Nat) → va_W} {mc ms : Nat} {cc : ByteArray} {maxL : Nat}
    (hy : plainName y.cls = true) (hw : ws = Cond.code y cc maxL (some .boolean) :: ws') (hlen : (lg_sl As).length ≤ maxL)
    (body : ∀ (p : Program) (e : Env) (s : State) (m : MethodId) (args : Array Value) (below : List Frame) (meth : Method) (c : Code) (A : Nat → Prop) (ls : Array Slot) (Q : State → Prop), KEn D tys sa y ws cc maxL As w p s m args meth c A ls →
      (∀ (H : Heap) (locs : List Loc) (cells slots pc : Nat) (ls : Array Slot) (ad : Nat → Nat), narrow .boolean (.int r0) = .int r0 → decode cc pc = .ok (.ireturn, 1) → va_P D vwCl (w1 ad) H → va_D A (w1 ad) → va_S A s.heap H locs → cells ≤ mc → slots ≤ ms → W p l e rm s m args below meth c H locs cells slots Q (F0 m pc ls [.int r0])) →
      W p l e rm s m args below meth c s.heap [] 0 0 Q (F0 m 0 ls [])) : KI l D tys sa y ws rm As w r0 w1 mc ms := by
  intro sz
  refine Met.ofW (cc := cc) (maxL := maxL) (ret := some .boolean) hy hw ?_
  intro p e s m args below meth c s₁ B hml hv
  obtain ⟨rfl, hsz, hP, hK, hD0, hG⟩ := hv
  have hx := B.exec
  have hb := B.bytes
  have hr := B.returns
  have hts := atoms_spec (ws := ws) B.pre
  have hown : s.vm.findClass y.cls = some m.cls := findClass_of_methodNamed B.named
  have hlocks := B.notSynchronized
  have hnm := (name_of_methodNamed B.named B.method).1
  subst hsz
  have hD := hD0.self (sz := s.heap.size)
  have hl := lv_entry As (n := maxL) hlen
  rw [lg_entry_eq]
  refine body p e s m _ below meth c (va_A w s.heap.size) _ _ ⟨hx, hb, hml, hown, hts, fun q h => Or.inr h, hP, hK, hD, hG, hl, hnm⟩ ?_
  intro H locs cells slots pc ls ad hnr hdg hP1 hD1 hS h1 h2
  refine W.widen (k := mc) (n := ms) h1 h2 ?_
  exact W.zret (v := r0) hx hb hr hnr (fun t ht hW => ⟨⟨r0, ad, rfl, rfl, by rw [ht]; exact hP1, va_K.moved hW.alike hK, hD1⟩, hS.F ht⟩) hS.2.2 hdg
theorem KL.of {l : Launch} {D : va_G} {tys : List (ClassId × FieldType)} {sa : SAT} {y : MethodName} {ws ws' : List Cond} {rm : Room} {As : List Value} {w : va_W} {r0 : Int64} {w1 : (Nat → Nat) → va_W} {mc ms : Nat} {cc : ByteArray} {maxL : Nat}
    (hy : plainName y.cls = true) (hw : ws = Cond.code y cc maxL (some .long) :: ws') (hlen : (lg_sl As).length ≤ maxL)
    (body : ∀ (p : Program) (e : Env) (s : State) (m : MethodId) (args : Array Value) (below : List Frame) (meth : Method) (c : Code) (A : Nat → Prop) (ls : Array Slot) (Q : State → Prop), KEn D tys sa y ws cc maxL As w p s m args meth c A ls →
      (∀ (H : Heap) (locs : List Loc) (cells slots pc : Nat) (ls : Array Slot) (ad : Nat → Nat), decode cc pc = .ok (.lreturn, 1) → va_P D vwCl (w1 ad) H → va_D A (w1 ad) → va_S A s.heap H locs → cells ≤ mc → slots ≤ ms → W p l e rm s m args below meth c H locs cells slots Q (F0 m pc ls [.long r0])) →
      W p l e rm s m args below meth c s.heap [] 0 0 Q (F0 m 0 ls [])) : KL l D tys sa y ws rm As w r0 w1 mc ms := by
  intro sz
  refine Met.ofW (cc := cc) (maxL := maxL) (ret := some .long) hy hw ?_
  intro p e s m args below meth c s₁ B hml hv
  obtain ⟨rfl, hsz, hP, hK, hD0, hG⟩ := hv
  have hx := B.exec
  have hb := B.bytes
  have hr := B.returns
  have hts := atoms_spec (ws := ws) B.pre
  have hown : s.vm.findClass y.cls = some m.cls := findClass_of_methodNamed B.named
  have hlocks := B.notSynchronized
  have hnm := (name_of_methodNamed B.named B.method).1
  subst hsz
  have hD := hD0.self (sz := s.heap.size)
  have hl := lv_entry As (n := maxL) hlen
  rw [lg_entry_eq]
  refine body p e s m _ below meth c (va_A w s.heap.size) _ _ ⟨hx, hb, hml, hown, hts, fun q h => Or.inr h, hP, hK, hD, hG, hl, hnm⟩ ?_
  intro H locs cells slots pc ls ad hdg hP1 hD1 hS h1 h2
  refine W.widen (k := mc) (n := ms) h1 h2 ?_
  exact W.lret (v := r0) hx hb hr (fun t ht hW => ⟨⟨r0, ad, rfl, rfl, by rw [ht]; exact hP1, va_K.moved hW.alike hK, hD1⟩, hS.F ht⟩) hS.2.2 hdg
theorem KV.of {l : Launch} {D : va_G} {tys : List (ClassId × FieldType)} {sa : SAT} {y : MethodName} {ws ws' : List Cond} {rm : Room} {As : List Value} {w : va_W} {w1 : (Nat → Nat) → va_W} {mc ms : Nat} {cc : ByteArray} {maxL : Nat}
    (hy : plainName y.cls = true) (hw : ws = Cond.code y cc maxL none :: ws') (hlen : (lg_sl As).length ≤ maxL)
    (body : ∀ (p : Program) (e : Env) (s : State) (m : MethodId) (args : Array Value) (below : List Frame) (meth : Method) (c : Code) (A : Nat → Prop) (ls : Array Slot) (Q : State → Prop), KEn D tys sa y ws cc maxL As w p s m args meth c A ls →
      (∀ (H : Heap) (locs : List Loc) (cells slots pc : Nat) (ls : Array Slot) (ad : Nat → Nat), decode cc pc = .ok (.return_, 1) → va_P D vwCl (w1 ad) H → va_D A (w1 ad) → va_S A s.heap H locs → cells ≤ mc → slots ≤ ms → W p l e rm s m args below meth c H locs cells slots Q (F0 m pc ls [])) →
      W p l e rm s m args below meth c s.heap [] 0 0 Q (F0 m 0 ls [])) : KV l D tys sa y ws rm As w w1 mc ms := by
  intro sz
  refine Met.ofW (cc := cc) (maxL := maxL) (ret := none) hy hw ?_
  intro p e s m args below meth c s₁ B hml hv
  obtain ⟨rfl, hsz, hP, hK, hD0, hG⟩ := hv
  have hx := B.exec
  have hb := B.bytes
  have hr := B.returns
  have hts := atoms_spec (ws := ws) B.pre
  have hown : s.vm.findClass y.cls = some m.cls := findClass_of_methodNamed B.named
  have hlocks := B.notSynchronized
  have hnm := (name_of_methodNamed B.named B.method).1
  subst hsz
  have hD := hD0.self (sz := s.heap.size)
  have hl := lv_entry As (n := maxL) hlen
  rw [lg_entry_eq]
  refine body p e s m _ below meth c (va_A w s.heap.size) _ _ ⟨hx, hb, hml, hown, hts, fun q h => Or.inr h, hP, hK, hD, hG, hl, hnm⟩ ?_
  intro H locs cells slots pc ls ad hdg hP1 hD1 hS h1 h2
  refine W.widen (k := mc) (n := ms) h1 h2 ?_
  exact W.vret hx hb hr (fun t ht hW => ⟨⟨ad, rfl, trivial, by rw [ht]; exact hP1, va_K.moved hW.alike hK, hD1⟩, hS.F ht⟩) hS.2.2 hdg
/-- the world with the places is set anew -/
def kput : va_W → List Nat → va_W → va_W
  | w, i :: is, q :: qs => kput (w.set i q) is qs
  | w, [], _ => w
  | w, _ :: _, [] => w
theorem kput_get {k : Nat} {x : Nat × va_E} : ∀ (is : List Nat) (qs w : va_W), is.length = qs.length → (kput w is qs)[k]? = some x → (∃ j : Nat, is[j]? = some k ∧ qs[j]? = some x) ∨ (w[k]? = some x ∧ k ∉ is) := by
  intro is
  induction is with
  | nil =>
    intro qs w _ h
    exact Or.inr ⟨by simpa [kput] using h, List.not_mem_nil⟩
  | cons i is ih =>
    intro qs w hl h
    cases qs with
    | nil => simp at hl
    | cons q qs =>
      rcases ih qs (w.set i q) (by simpa using hl) h with ⟨j, h1, h2⟩ | ⟨h1, h2⟩
      · exact Or.inl ⟨j + 1, by simpa using h1, by simpa using h2⟩
      · by_cases hk : k = i
        · subst hk
          refine Or.inl ⟨0, rfl, ?_⟩
          have hlt : k < (w.set k q).length := (List.getElem?_eq_some_iff.mp h1).1
          rw [List.length_set] at hlt
          rw [List.getElem?_set_self hlt] at h1
          simpa using h1
        · rw [List.getElem?_set_ne (fun e => hk e.symm)] at h1
          refine Or.inr ⟨h1, fun hm => ?_⟩
          rcases List.mem_cons.mp hm with e | e
          · exact hk e
          · exact h2 e
theorem kmap_len {α β : Type} {is : List α} {g : α → Option β} {ws : List β} (h : is.map g = ws.map some) : is.length = ws.length := by
  have := congrArg List.length h
  simpa using this
theorem kmap_get {is : List Nat} {w wc : va_W} {j k : Nat} {x : Nat × va_E} (hC : is.map (fun i => w[i]?) = wc.map some) (h1 : is[j]? = some k) (h2 : wc[j]? = some x) : w[k]? = some x := by
  have h3 : (is.map (fun i => w[i]?))[j]? = some (some x) := by rw [hC, List.getElem?_map, h2]; rfl
  rw [List.getElem?_map, h1] at h3
  exact Option.some.inj h3
theorem kjoin {A0 : Nat → Prop} {D : va_G} {w wc wm : va_W} {H H1 : Heap} (hP : va_P D vwCl w H) (hD : va_D A0 w) (isC : List Nat) (hC : isC.map (fun i => w[i]?) = wc.map some) (hm : wm.map (fun q => q.1) = wc.map (fun q => q.1))
    (hk : ∀ q : Nat, q < H.size → ¬ va_A wc H.size q → H1[q]? = H[q]?) (hP1 : va_P D vwCl wm H1) : va_P D vwCl (kput w isC wm) H1 ∧ va_D A0 (kput w isC wm) := by
  have hlen : isC.length = wm.length := by
    have h1 := kmap_len hC
    have h2 := congrArg List.length hm
    rw [List.length_map, List.length_map] at h2
    omega
  have key : ∀ (k : Nat) (x : Nat × va_E), (kput w isC wm)[k]? = some x → ∃ e, w[k]? = some (x.1, e) := by
    intro k x hx
    rcases kput_get isC wm w hlen hx with ⟨j, h1, h2⟩ | ⟨h1, -⟩
    · have hj : (wm.map (fun q => q.1))[j]? = some x.1 := by rw [List.getElem?_map, h2]; rfl
      rw [hm, List.getElem?_map] at hj
      cases hw : wc[j]? with
      | none => rw [hw] at hj; cases hj
      | some y =>
        rw [hw] at hj
        have e1 : y.1 = x.1 := Option.some.inj hj
        have := kmap_get hC h1 hw
        exact ⟨y.2, by rw [this, ← e1]⟩
    · exact ⟨x.2, h1⟩
  refine ⟨fun k x hx => ?_, fun i j a b ha hb hab => ?_, fun k x hx => ?_⟩
  · rcases kput_get isC wm w hlen hx with ⟨j, h1, h2⟩ | ⟨h1, hn⟩
    · exact hP1 j x h2
    · refine (hP k x h1).kept (hk x.1 (hP k x h1).lt ?_)
      rintro (⟨k2, e, h⟩ | h)
      · have h3 : k2 < isC.length := by
          rw [kmap_len hC]
          exact (List.getElem?_eq_some_iff.mp h).1
        obtain ⟨i2, hi2⟩ : ∃ i2, isC[k2]? = some i2 := ⟨_, List.getElem?_eq_getElem h3⟩
        have h4 := kmap_get hC hi2 h
        have h5 := hD.1 i2 k _ _ h4 h1 rfl
        subst h5
        exact hn (List.mem_of_getElem? hi2)
      · exact absurd (hP k x h1).lt (Nat.not_lt.mpr h)
  · obtain ⟨e1, h1⟩ := key i a ha
    obtain ⟨e2, h2⟩ := key j b hb
    exact hD.1 i j _ _ h1 h2 hab
  · obtain ⟨e1, h1⟩ := key k x hx
    exact hD.2 k (x.1, e1) h1
/-- a reader's world comes back as it was -/
theorem kread {D : va_G} {w wc : va_W} {A0 : Nat → Prop} {H H1 : Heap} (hP : va_P D vwCl w H) (hD : va_D A0 w) (isC : List Nat) (hC : isC.map (fun i => w[i]?) = wc.map some)
    (hk : ∀ q : Nat, q < H.size → ¬ va_A wc H.size q → H1[q]? = H[q]?) (hP1 : va_P D vwCl wc H1) : va_P D vwCl w H1 := by
  intro k x hx
  by_cases hn : k ∈ isC
  · obtain ⟨j, hj⟩ := List.getElem?_of_mem hn
    have h3 : j < wc.length := by
      rw [← kmap_len hC]
      exact (List.getElem?_eq_some_iff.mp hj).1
    have h4 := kmap_get hC hj (List.getElem?_eq_getElem h3)
    rw [h4] at hx
    have := hP1 j _ (List.getElem?_eq_getElem h3)
    rw [Option.some.inj hx] at this
    exact this
  · refine (hP k x hx).kept (hk x.1 (hP k x hx).lt ?_)
    rintro (⟨k2, e, h⟩ | h)
    · have h3 : k2 < isC.length := by
        rw [kmap_len hC]
        exact (List.getElem?_eq_some_iff.mp h).1
      obtain ⟨i2, hi2⟩ : ∃ i2, isC[k2]? = some i2 := ⟨_, List.getElem?_eq_getElem h3⟩
      have h4 := kmap_get hC hi2 h
      have h5 := hD.1 i2 k _ _ h4 hx rfl
      subst h5
      exact hn (List.mem_of_getElem? hi2)
    · exact absurd (hP k x hx).lt (Nat.not_lt.mpr h)
end
section
section KC
variable {p : Program} {l : Launch} {e : Env} {R : Room} {s : State} {m : MethodId} {args : Array Value} {below : List Frame} {meth : Method} {c : Code} {H : Heap} {locs : List Loc} {cells slots : Nat} {Q : State → Prop}
variable {D : va_G} {tys : List (ClassId × FieldType)} {sa : SAT} {pc : Nat} {ls : Array Slot} {rest st0 : List Value} {a : Array Value} {A0 : Nat → Prop} {H0 : Heap} {mc ms : Nat} {w wc wm : va_W}
/-- behind a call: a reader's, a writer's -/
theorem krI {r0 : Int32} (hr : va_Run p l e R s m args below meth c H locs cells slots mc ms (F0 m pc ls st0) rest (va_Qi (fun (r : Int32) (_ : Nat → Nat) => r = r0) (KB D tys wc H.size (fun _ => wc)) (va_A wc H.size) a) (va_A wc H.size)) (hP : va_P D vwCl w H) (hD : va_D A0 w) (hS : va_S A0 H0 H locs) (hA : ∀ q, H0.size ≤ q → A0 q) (isC : List Nat) (hC : isC.map (fun i => w[i]?) = wc.map some)
    (kk : ∀ (H1 : Heap) (locs1 : List Loc), va_P D vwCl w H1 → va_S A0 H0 H1 locs1 → W p l e R s m args below meth c H1 locs1 (cells + mc) (slots + ms) Q (F0 m (pc + 3) ls (.int r0 :: rest))) : W p l e R s m args below meth c H locs cells slots Q (F0 m pc ls st0) := by
  have hF := va_free (wc := wc) hD hS hA isC hC
  refine va_calli hr hS (fun q _ h => hF q h) hF (fun r u t H1 locs1 ht hvm hw hB hz hk hS1 => ?_)
  subst hw
  obtain ⟨hP1, -, -⟩ := hB
  rw [ht] at hP1
  exact kk H1 locs1 (kread hP hD isC hC hk hP1) hS1
theorem krL {r0 : Int64} (hr : va_Run p l e R s m args below meth c H locs cells slots mc ms (F0 m pc ls st0) rest (va_Ql (fun (r : Int64) (_ : Nat → Nat) => r = r0) (KB D tys wc H.size (fun _ => wc)) (va_A wc H.size) a) (va_A wc H.size)) (hP : va_P D vwCl w H) (hD : va_D A0 w) (hS : va_S A0 H0 H locs) (hA : ∀ q, H0.size ≤ q → A0 q) (isC : List Nat) (hC : isC.map (fun i => w[i]?) = wc.map some)
    (kk : ∀ (H1 : Heap) (locs1 : List Loc), va_P D vwCl w H1 → va_S A0 H0 H1 locs1 → W p l e R s m args below meth c H1 locs1 (cells + mc) (slots + ms) Q (F0 m (pc + 3) ls (.long r0 :: rest))) : W p l e R s m args below meth c H locs cells slots Q (F0 m pc ls st0) := by
  have hF := va_free (wc := wc) hD hS hA isC hC
  refine va_calll hr hS (fun q _ h => hF q h) hF (fun r u t H1 locs1 ht hvm hw hB hz hk hS1 => ?_)
  subst hw
  obtain ⟨hP1, -, -⟩ := hB
  rw [ht] at hP1
  exact kk H1 locs1 (kread hP hD isC hC hk hP1) hS1
theorem kwI {r0 : Int32} (hr : va_Run p l e R s m args below meth c H locs cells slots mc ms (F0 m pc ls st0) rest (va_Qi (fun (r : Int32) (_ : Nat → Nat) => r = r0) (KB D tys wc H.size (fun _ => wm)) (va_A wc H.size) a) (va_A wc H.size)) (hP : va_P D vwCl w H) (hD : va_D A0 w) (hS : va_S A0 H0 H locs) (hA : ∀ q, H0.size ≤ q → A0 q) (isC : List Nat) (hC : isC.map (fun i => w[i]?) = wc.map some) (hm : wm.map (fun q => q.1) = wc.map (fun q => q.1))
    (kk : ∀ (H1 : Heap) (locs1 : List Loc), va_P D vwCl (kput w isC wm) H1 → va_D A0 (kput w isC wm) → va_S A0 H0 H1 locs1 → W p l e R s m args below meth c H1 locs1 (cells + mc) (slots + ms) Q (F0 m (pc + 3) ls (.int r0 :: rest))) : W p l e R s m args below meth c H locs cells slots Q (F0 m pc ls st0) := by
  have hF := va_free (wc := wc) hD hS hA isC hC
  refine va_calli hr hS (fun q _ h => hF q h) hF (fun r u t H1 locs1 ht hvm hw hB hz hk hS1 => ?_)
  subst hw
  obtain ⟨hP1, -, -⟩ := hB
  rw [ht] at hP1
  obtain ⟨g1, g2⟩ := kjoin hP hD isC hC hm hk hP1
  exact kk H1 locs1 g1 g2 hS1
theorem kwV (hr : va_Run p l e R s m args below meth c H locs cells slots mc ms (F0 m pc ls st0) rest (va_Qv (fun (_ : Nat → Nat) => True) (KB D tys wc H.size (fun _ => wm)) (va_A wc H.size) a) (va_A wc H.size)) (hP : va_P D vwCl w H) (hD : va_D A0 w) (hS : va_S A0 H0 H locs) (hA : ∀ q, H0.size ≤ q → A0 q) (isC : List Nat) (hC : isC.map (fun i => w[i]?) = wc.map some) (hm : wm.map (fun q => q.1) = wc.map (fun q => q.1))
    (kk : ∀ (H1 : Heap) (locs1 : List Loc), va_P D vwCl (kput w isC wm) H1 → va_D A0 (kput w isC wm) → va_S A0 H0 H1 locs1 → W p l e R s m args below meth c H1 locs1 (cells + mc) (slots + ms) Q (F0 m (pc + 3) ls rest)) : W p l e R s m args below meth c H locs cells slots Q (F0 m pc ls st0) := by
  have hF := va_free (wc := wc) hD hS hA isC hC
  refine va_callv hr hS (fun q _ h => hF q h) hF (fun u t H1 locs1 ht hvm hw hB hz hk hS1 => ?_)
  obtain ⟨hP1, -, -⟩ := hB
  rw [ht] at hP1
  obtain ⟨g1, g2⟩ := kjoin hP hD isC hC hm hk hP1
  exact kk H1 locs1 g1 g2 hS1
/-- a constructor's, or another's that makes cells: its own cells wm, and new ones -/
theorem knV {w1 : (Nat → Nat) → va_W} (hr : va_Run p l e R s m args below meth c H locs cells slots mc ms (F0 m pc ls st0) rest (va_Qv (fun (_ : Nat → Nat) => True) (KB D tys wc H.size w1) (va_A wc H.size) a) (va_A wc H.size)) (hP : va_P D vwCl w H) (hD : va_D A0 w) (hS : va_S A0 H0 H locs) (hA : ∀ q, H0.size ≤ q → A0 q) (isC isR : List Nat) (hC : isC.map (fun i => w[i]?) = wc.map some) (hR : isR.map (fun i => w[i]?) = (isR.filterMap (fun i => w[i]?)).map some) (hn : va_nd isR = true) (hdis : ∀ i ∈ isR, i ∉ isC)
    (kk : ∀ (ad : Nat → Nat) (H1 : Heap) (locs1 : List Loc), va_P D vwCl (isR.filterMap (fun i => w[i]?) ++ w1 ad) H1 → va_D A0 (isR.filterMap (fun i => w[i]?) ++ w1 ad) → va_S A0 H0 H1 locs1 → W p l e R s m args below meth c H1 locs1 (cells + mc) (slots + ms) Q (F0 m (pc + 3) ls rest)) : W p l e R s m args below meth c H locs cells slots Q (F0 m pc ls st0) := by
  have hF := va_free (wc := wc) hD hS hA isC hC
  refine va_callv hr hS (fun q _ h => hF q h) hF (fun u t H1 locs1 ht hvm hw hB hz hk hS1 => ?_)
  obtain ⟨hP1, -, hD1⟩ := hB
  rw [ht] at hP1
  obtain ⟨g1, g2⟩ := va_join hP hD isC isR hC hR hn hdis hk hF hP1 hD1
  exact kk u H1 locs1 g1 g2 hS1
variable {y : MethodName} {bytes cc : ByteArray} {maxL nL n index : Nat} {ret : Option FieldType} {ws : List Cond} {rm : Room} {Qc : Array Value → State → Outcome → State → Prop} {free : Addr → Prop} {Ts : List Cond} {own C host : String} {b : Addr} {As : List Value}
theorem kpre {A : Nat → Prop} (hP : va_P D vwCl w H) (hD : va_D A w) (hK : va_K D vwCl tys s) (hS : va_S A s.heap H locs) (hA : ∀ q, s.heap.size ≤ q → A q) (hG : GE sa A s s.heap) (isC : List Nat) (hC : isC.map (fun i => w[i]?) = wc.map some) (hnd : va_nd isC = true) {U : State} (hU : U.heap = H) (hW : s.WarmedH U.vm) : KPc D tys sa wc H.size U := by
  have hF := va_free (wc := wc) hD hS hA isC hC
  refine ⟨by rw [hU], ?_, hK.moved hW.alike, (hD.sub isC hnd hC).weaken (fun _ _ _ _ => trivial), ?_⟩
  · rw [hU]
    intro k q hq
    have h1 : k < isC.length := by
      rw [kmap_len hC]
      exact (List.getElem?_eq_some_iff.mp hq).1
    exact hP _ q (kmap_get hC (List.getElem?_eq_getElem h1) hq)
  · rw [hU]
    exact ((hG.kept hS.2.1).moved hW).narrow hF
/-- runs: virtual, static, a nest mate's, constructors -/
theorem kV {A : Nat → Prop} (S : CallFix p m c cc nL s args Ts own) (hM : Met l y ws rm (va_Pc (.ref b :: As) (KPc D tys sa wc H.size)) Qc mc ms free) (cw : CallW R s args own C index y bytes maxL ret ws rm mc ms n) (hK : va_K D vwCl tys s) (hP : va_P D vwCl w H) (hD : va_D A w) (hS : va_S A s.heap H locs) (hA : ∀ q, s.heap.size ≤ q → A q) (hG : GE sa A s s.heap) (isC : List Nat) (hC : isC.map (fun i => w[i]?) = wc.map some) (hnd : va_nd isC = true)
    {ci : Nat} {fs : List Value} {q : vw_C} (hb : wc[0]? = some (b, .inr (ci, fs))) (hc : vwCl[ci]? = some q) (hq : q.1 = C) (hn : As.length = n) (hls : ls.size = nL) (rest : List Value) (hst : st0 = As.reverse ++ .ref b :: rest) (hcat : (rest.map fun v => v.category).sum ≤ 8) (hdg : decode cc pc = .ok (.invokevirtual index, 3)) (hf : cells + mc ≤ R.cells ∧ slots + ms ≤ R.slots) :
    va_Run p l e R s m args below meth c H locs cells slots mc ms (F0 m pc ls st0) rest (Qc (Value.ref b :: As).toArray) free := by
  subst hq
  have hPc : va_P D vwCl wc H := fun k q hq => by
    have h1 : k < isC.length := by
      rw [kmap_len hC]
      exact (List.getElem?_eq_some_iff.mp hq).1
    exact hP _ q (kmap_get hC (List.getElem?_eq_getElem h1) hq)
  exact va_runV S hM cw ⟨KPc_blind _ _ _ _ _ _, va_recv hK hPc hc hb, fun U hU hW => ⟨rfl, kpre hP hD hK hS hA hG isC hC hnd hU hW⟩⟩ rfl hn hls hst (lv_room hcat) hdg hf
theorem kVN {A : Nat → Prop} (S : CallFix p m c cc nL s args Ts own) (hM : Met l y ws rm (va_Pc (.ref b :: As) (KPc D tys sa wc H.size)) Qc mc ms free) (cw : va_CN R s args own index y host bytes maxL ret ws rm mc ms n ∧ (Cond.instanceMethod y).before args s = true ∧ (Cond.selects C y y).before args s = true) (hK : va_K D vwCl tys s) (hP : va_P D vwCl w H) (hD : va_D A w) (hS : va_S A s.heap H locs) (hA : ∀ q, s.heap.size ≤ q → A q) (hG : GE sa A s s.heap) (isC : List Nat) (hC : isC.map (fun i => w[i]?) = wc.map some) (hnd : va_nd isC = true)
    {ci : Nat} {fs : List Value} {q : vw_C} (hb : wc[0]? = some (b, .inr (ci, fs))) (hc : vwCl[ci]? = some q) (hq : q.1 = C) (hn : As.length = n) (hls : ls.size = nL) (rest : List Value) (hst : st0 = As.reverse ++ .ref b :: rest) (hcat : (rest.map fun v => v.category).sum ≤ 8) (hdg : decode cc pc = .ok (.invokevirtual index, 3)) (hf : cells + mc ≤ R.cells ∧ slots + ms ≤ R.slots) :
    va_Run p l e R s m args below meth c H locs cells slots mc ms (F0 m pc ls st0) rest (Qc (Value.ref b :: As).toArray) free := by
  subst hq
  have hPc : va_P D vwCl wc H := fun k q hq => by
    have h1 : k < isC.length := by
      rw [kmap_len hC]
      exact (List.getElem?_eq_some_iff.mp hq).1
    exact hP _ q (kmap_get hC (List.getElem?_eq_getElem h1) hq)
  exact va_runVN S hM cw ⟨KPc_blind _ _ _ _ _ _, va_recv hK hPc hc hb, fun U hU hW => ⟨rfl, kpre hP hD hK hS hA hG isC hC hnd hU hW⟩⟩ rfl hn hls hst (lv_room hcat) hdg hf
theorem kS {A : Nat → Prop} (S : CallFix p m c cc nL s args Ts own) (hM : Met l y ws rm (va_Pc As (KPc D tys sa wc H.size)) Qc mc ms free) (cw : CallB R s args own index y bytes maxL ret ws rm mc ms n ∧ (Cond.static y).before args s = true) (hK : va_K D vwCl tys s) (hP : va_P D vwCl w H) (hD : va_D A w) (hS : va_S A s.heap H locs) (hA : ∀ q, s.heap.size ≤ q → A q) (hG : GE sa A s s.heap) (isC : List Nat) (hC : isC.map (fun i => w[i]?) = wc.map some) (hnd : va_nd isC = true)
    (hn : As.length = n) (hls : ls.size = nL) (rest : List Value) (hst : st0 = As.reverse ++ rest) (hcat : (rest.map fun v => v.category).sum ≤ 8) (hdg : decode cc pc = .ok (.invokestatic index, 3)) (hf : cells + mc ≤ R.cells ∧ slots + ms ≤ R.slots) :
    va_Run p l e R s m args below meth c H locs cells slots mc ms (F0 m pc ls st0) rest (Qc As.toArray) free :=
  va_runS S hM cw ⟨KPc_blind _ _ _ _ _ _, fun U hU hW => ⟨rfl, kpre hP hD hK hS hA hG isC hC hnd hU hW⟩⟩ rfl hn hls hst (lv_room hcat) hdg hf
theorem kSN {A : Nat → Prop} (S : CallFix p m c cc nL s args Ts own) (hM : Met l y ws rm (va_Pc As (KPc D tys sa wc H.size)) Qc mc ms free) (cw : va_CN R s args own index y host bytes maxL ret ws rm mc ms n ∧ (Cond.static y).before args s = true ∧ True) (hK : va_K D vwCl tys s) (hP : va_P D vwCl w H) (hD : va_D A w) (hS : va_S A s.heap H locs) (hA : ∀ q, s.heap.size ≤ q → A q) (hG : GE sa A s s.heap) (isC : List Nat) (hC : isC.map (fun i => w[i]?) = wc.map some) (hnd : va_nd isC = true)
    (hn : As.length = n) (hls : ls.size = nL) (rest : List Value) (hst : st0 = As.reverse ++ rest) (hcat : (rest.map fun v => v.category).sum ≤ 8) (hdg : decode cc pc = .ok (.invokestatic index, 3)) (hf : cells + mc ≤ R.cells ∧ slots + ms ≤ R.slots) :
    va_Run p l e R s m args below meth c H locs cells slots mc ms (F0 m pc ls st0) rest (Qc As.toArray) free :=
  va_runSN S hM cw ⟨KPc_blind _ _ _ _ _ _, fun U hU hW => ⟨rfl, kpre hP hD hK hS hA hG isC hC hnd hU hW⟩⟩ rfl hn hls hst (lv_room hcat) hdg hf
theorem kN {A : Nat → Prop} (S : CallFix p m c cc nL s args Ts own) (hM : Met l y ws rm (va_Pc (.ref b :: As) (KPc D tys sa wc H.size)) Qc mc ms free) (cw : CallB R s args own index y bytes maxL none ws rm mc ms n ∧ y.name = "<init>" ∧ (Cond.instanceMethod y).before args s = true) (hK : va_K D vwCl tys s) (hP : va_P D vwCl w H) (hD : va_D A w) (hS : va_S A s.heap H locs) (hA : ∀ q, s.heap.size ≤ q → A q) (hG : GE sa A s s.heap) (isC : List Nat) (hC : isC.map (fun i => w[i]?) = wc.map some) (hnd : va_nd isC = true)
    (hn : As.length = n) (hls : ls.size = nL) (rest : List Value) (hst : st0 = As.reverse ++ .ref b :: rest) (hcat : (rest.map fun v => v.category).sum ≤ 8) (hdg : decode cc pc = .ok (.invokespecial index, 3)) (hf : cells + mc ≤ R.cells ∧ slots + ms ≤ R.slots) :
    va_Run p l e R s m args below meth c H locs cells slots mc ms (F0 m pc ls st0) rest (Qc (Value.ref b :: As).toArray) free :=
  va_runI S hM cw ⟨KPc_blind _ _ _ _ _ _, fun U hU hW => ⟨rfl, kpre hP hD hK hS hA hG isC hC hnd hU hW⟩⟩ rfl hn hls hst (lv_room hcat) hdg hf
theorem kNN {A : Nat → Prop} (S : CallFix p m c cc nL s args Ts own) (hM : Met l y ws rm (va_Pc (.ref b :: As) (KPc D tys sa wc H.size)) Qc mc ms free) (cw : va_CN R s args own index y host bytes maxL none ws rm mc ms n ∧ y.name = "<init>" ∧ (Cond.instanceMethod y).before args s = true) (hK : va_K D vwCl tys s) (hP : va_P D vwCl w H) (hD : va_D A w) (hS : va_S A s.heap H locs) (hA : ∀ q, s.heap.size ≤ q → A q) (hG : GE sa A s s.heap) (isC : List Nat) (hC : isC.map (fun i => w[i]?) = wc.map some) (hnd : va_nd isC = true)
    (hn : As.length = n) (hls : ls.size = nL) (rest : List Value) (hst : st0 = As.reverse ++ .ref b :: rest) (hcat : (rest.map fun v => v.category).sum ≤ 8) (hdg : decode cc pc = .ok (.invokespecial index, 3)) (hf : cells + mc ≤ R.cells ∧ slots + ms ≤ R.slots) :
    va_Run p l e R s m args below meth c H locs cells slots mc ms (F0 m pc ls st0) rest (Qc (Value.ref b :: As).toArray) free :=
  va_runIN S hM cw ⟨KPc_blind _ _ _ _ _ _, fun U hU hW => ⟨rfl, kpre hP hD hK hS hA hG isC hC hnd hU hW⟩⟩ rfl hn hls hst (lv_room hcat) hdg hf
/-- a new array of ints, its class the known one -/
theorem kcls {cI cA : ClassId} {ty : FieldType} (h : va_K D vwCl (tys ++ [(cA, ty)]) s) (t0 : Nat) (ht : tys[t0]? = some (cI, ty)) (hty : va_RA s cI ty → va_RA s cA ty → cI = cA) : cI = cA := by
  have h1 := (h.2 t0 (cI, ty) (by rw [List.getElem?_append_left (List.getElem?_eq_some_iff.mp ht).1]; exact ht)).2
  have h2 := (h.2 tys.length (cA, ty) (by simp)).2
  exact hty h1 h2
end KC
/-- the arrays' classes: of ints, of rows of ints, of longs -/
abbrev tyW (cy : Nat → ClassId) : List (ClassId × FieldType) := [(cy 0, .int), (cy 1, .array .int), (cy 2, .long)]
theorem arrV_congr {c : ClassId} {n : Nat} {f g : Nat → Value} (h : ∀ j, j < n → f j = g j) : arrV c n f = arrV c n g := by
  have hs : ∀ f : Nat → Value, (arrV c n f).slots.size = n := fun f => arrV_size c n f
  have e : (arrV c n f).slots = (arrV c n g).slots := by
    apply Array.ext
    · rw [hs, hs]
    · intro i h1 h2
      rw [hs] at h1
      have a1 := arrV_read c f h1
      have a2 := arrV_read c g h1
      rw [Array.getElem?_eq_getElem (by rw [hs]; exact h1)] at a1 a2
      rw [Option.some.inj a1, Option.some.inj a2, h i h1]
  have e2 : ∀ f : Nat → Value, arrV c n f = { cls := c, slots := (arrV c n f).slots, vm := .none } := fun f => rfl
  rw [e2 f, e2 g, e]
/-- a whole row copied holds what the other holds -/
theorem kcopy {D : va_G} {cl : List vw_C} {w : va_W} {H : Heap} {q1 a : Nat} {c1 : ClassId} {n : Nat} {f g : Nat → Int32} {N : Nat} (h : va_P D cl (w.set q1 (a, .inl (c1, N, .inl (va_cpy f g 0 0 n)))) H) (hn : N = n) : va_P D cl (w.set q1 (a, .inl (c1, N, .inl f))) H := by
  subst hn
  intro k q hq
  by_cases hk : k = q1
  · subst hk
    have hl : k < (w.set k (a, .inl (c1, N, .inl f))).length := (List.getElem?_eq_some_iff.mp hq).1
    rw [List.length_set] at hl
    rw [List.getElem?_set_self hl] at hq
    cases hq
    have h2 := h k (a, .inl (c1, N, .inl (va_cpy f g 0 0 N))) (by rw [List.getElem?_set_self hl])
    refine Eq.trans h2 (congrArg some ?_)
    show vp_cell c1 (N, .inl (va_cpy f g 0 0 N)) = vp_cell c1 (N, .inl f)
    rw [vp_cell_i, vp_cell_i]
    refine arrV_congr (fun j hj => ?_)
    show Value.int (va_cpy f g 0 0 N j) = Value.int (f j)
    rw [pk_cpy_in (Nat.zero_le j) (by omega), Nat.zero_add, Nat.sub_zero]
  · rw [List.getElem?_set_ne (fun e => hk e.symm)] at hq
    exact h k q (by rw [List.getElem?_set_ne (fun e => hk e.symm)]; exact hq)
theorem kcopyD {A : Nat → Prop} {w : va_W} {q1 a : Nat} {e e2 : va_E} (h : va_D A (w.set q1 (a, e))) : va_D A (w.set q1 (a, e2)) := by
  by_cases hl : q1 < w.length
  · have := h.set (p := q1) (a := a) (e0 := e) (e := e2) (by rw [List.getElem?_set_self hl])
    rw [List.set_set] at this
    exact this
  · rw [List.set_eq_of_length_le (by omega)] at h ⊢
    exact h
end
section
/-! throwing -/
abbrev exNames : List String := ["java/lang/RuntimeException", "java/lang/Exception"]
def exN : Nat → String
  | 0 => "java/lang/IndexOutOfBoundsException"
  | 1 => "java/lang/IllegalArgumentException"
  | _ => "java/lang/IllegalStateException"
def KX (l : Launch) (D : va_G) (tys : List (ClassId × FieldType)) (sa : SAT) (y : MethodName) (ws : List Cond) (rm : Room) (As : List Value) (w : va_W) (E0 : String) (mc ms : Nat) : Prop := ∀ sz : Nat, vx_Met l y ws rm (va_Pc As (KPc D tys sa w sz)) (va_Qi (fun (_ : Int32) (_ : Unit) => False) (fun _ _ => True) (va_A w sz)) (vx_X (fun (_ : Unit) => True) (fun E _ t => E = E0 ∧ va_P D vwCl w t.heap ∧ va_K D vwCl tys t ∧ va_D (va_A w sz) w) (va_A w sz)) mc ms (va_A w sz)
theorem KX.of {l : Launch} {D : va_G} {tys : List (ClassId × FieldType)} {sa : SAT} {y : MethodName} {ws ws' : List Cond} {rm : Room} {As : List Value} {w : va_W} {E0 : String} {mc ms : Nat} {cc : ByteArray} {maxL : Nat} {ret : Option FieldType} (hst : l.stackTraces = false)
    (hy : plainName y.cls = true) (hw : ws = Cond.code y cc maxL ret :: ws') (hlen : (lg_sl As).length ≤ maxL) (hrf : 6 ≤ rm.frames) (hrl : 98 ≤ rm.locals) (hrc : mc ≤ rm.cells) (hrs : ms ≤ rm.slots)
    (body : ∀ (p : Program) (e : Env) (s : State) (m : MethodId) (args : Array Value) (below : List Frame) (meth : Method) (c : Code) (A : Nat → Prop) (ls : Array Slot) (Q : State → Prop), KEn D tys sa y ws cc maxL As w p s m args meth c A ls →
      (∀ (H : Heap) (locs : List Loc) (cells slots pc ik is ic : Nat) (ls : Array Slot) (rest : List Value) (text : String), decode cc pc = .ok (.new ik, 3) → decode cc (pc + 3) = .ok (.dup, 1) → decode cc (pc + 4) = .ok (.ldc is, 2) → decode cc (pc + 6) = .ok (.invokespecial ic, 3) → decode cc (pc + 9) = .ok (.athrow, 1) →
        (Cond.classLink RX5 ik E0).before args s = true → (Cond.initialized E0).before args s = true → (is, text) ∈ strL → (∀ q ∈ vx_atS RX5 ic E0 exNames, q.before args s = true) → (Bundle.fit E0 = true ∧ (∀ q ∈ Cond.classLink RX5 ik E0 :: Cond.initialized E0 :: vx_atS RX5 ic E0 exNames, vx_ot q = true)) →
        va_P D vwCl w H → va_D A w → va_S A s.heap H locs → ls.size = maxL → (rest.map fun v => v.category).sum ≤ 8 → cells + 1 ≤ mc → slots + 6 ≤ ms → W p l e rm s m args below meth c H locs cells slots Q (F0 m pc ls rest)) →
      W p l e rm s m args below meth c s.heap [] 0 0 Q (F0 m 0 ls [])) (hyc : y.cls = RX5 := by rfl) : KX l D tys sa y ws rm As w E0 mc ms := by
  intro sz
  refine vx_ofW (cc := cc) (maxL := maxL) (ret := ret) hy hw ?_
  intro p e s m args below meth c s₁ B hml htab hv
  obtain ⟨rfl, hsz, hP, hK, hD0, hG⟩ := hv
  have hx := B.exec
  have hb := B.bytes
  have hr := B.returns
  have hts := atoms_spec (ws := ws) B.pre
  have hown : s.vm.findClass y.cls = some m.cls := findClass_of_methodNamed B.named
  have hlocks := B.notSynchronized
  have hnm := (name_of_methodNamed B.named B.method).1
  subst hsz
  have hD := hD0.self (sz := s.heap.size)
  have hl := lv_entry As (n := maxL) hlen
  rw [lg_entry_eq]
  refine body p e s m _ below meth c (va_A w s.heap.size) _ _ ⟨hx, hb, hml, hown, hts, fun q h => Or.inr h, hP, hK, hD, hG, hl, hnm⟩ ?_
  intro H locs cells slots pc ik is ic ls rest text d0 d3 d4 d6 d9 hk hini hstr hat hgood hP1 hD1 hS hls hcat h1 h2
  obtain ⟨sa9, hstr⟩ := hG.1.2.2.1 _ hstr
  have hownR : s.vm.findClass RX5 = some m.cls := by rw [← hyc]; exact hown
  refine vx_throwS (own := RX5) (cls := E0) (text := text) (names := exNames) (A := va_A w s.heap.size) hx hb hst hownR hgood.1 (by decide +kernel) hk hini hstr hat hgood.2 hG.2.2.2.2.1 hG.2.2.2.2.2.1 hS (hls.trans hml.symm) d0 d3 d4 d6 d9 (fun x hx9 => (htab x hx9).elim) (Nat.lt_of_lt_of_le (by decide) hrf) (Nat.le_trans (Nat.add_le_add hcat (Nat.le_of_ble_eq_true rfl : 13 * (exNames.length + 1) + 43 ≤ 90)) hrl) (Nat.le_trans h1 hrc) (Nat.le_trans h2 hrs) hlocks ?_ hS.2.2 h1 h2
  intro t hvm hz hk9
  refine ⟨(), trivial, ⟨rfl, hP1.kept (fun k q hq => hk9 q.1 (hP1 k q hq).lt), hK.moved hvm, hD1⟩, Nat.le_trans hS.1 hz, fun q g1 g2 => ?_⟩
  rw [hk9 q (Nat.lt_of_lt_of_le g1 hS.1)]
  exact hS.2.1 q g1 g2
end
section
theorem Met_ofWF {l : Launch} {y : MethodName} {ws ws' : List Cond} {rm : Room} {Pc : Array Value → State → Prop} {Qc : Array Value → State → Outcome → State → Prop} {mc ms : Nat} {free : Addr → Prop} {cc : ByteArray} {maxL : Nat} {ret : Option FieldType}
    (hy : plainFor y = true) (hw : ws = Cond.code y cc maxL ret :: ws')
    (body : ∀ p e s m args below meth c s₁, BodyLoose p l y (headSpec ws rm) cc maxL ret e s m args below meth c s₁ → c.maxLocals = maxL → Pc args s →
      W p l e (headSpec ws rm).room s m args below meth c s.heap [] 0 0 (MQ below Qc args s mc ms free) (entryFrame m args maxL)) : Met l y ws rm Pc Qc mc ms free := by
  refine MetFree.of_bodySF (code := cc) (maxLocals := maxL) (ret := ret) hy ?_ ?_
  · intro args s m h hn
    obtain ⟨meth, c, h1, h2, h3, h4, h5, h6, -, -⟩ := Cond.code_spec hn (atoms_spec (ws := ws) h _ (by rw [hw]; exact List.mem_cons_self))
    exact ⟨meth, c, h1, h2, h3, h4, h5, h6⟩
  · intro p e s m args below meth c s₁ B hml hP _
    have hh0 : s₁.heap = s.heap := by rw [B.state]; rfl
    obtain ⟨t, a1, o, b1, b2, b3⟩ := body p e s m args below meth c s₁ B hml hP s₁ hh0 (Stand.of_body B)
    exact ⟨t, o, a1, b1, b2, ⟨b3.1, b3.2⟩⟩
theorem KI.ofF {l : Launch} {D : va_G} {tys : List (ClassId × FieldType)} {sa : SAT} {y : MethodName} {ws ws' : List Cond} {rm : Room} {As : List Value} {w : va_W} {r0 : Int32} {w1 : (Nat → Nat) → va_W} {mc ms : Nat} {cc : ByteArray} {maxL : Nat}
    (hy : plainFor y = true) (hw : ws = Cond.code y cc maxL (some .int) :: ws') (hlen : (lg_sl As).length ≤ maxL)
    (body : ∀ (p : Program) (e : Env) (s : State) (m : MethodId) (args : Array Value) (below : List Frame) (meth : Method) (c : Code) (A : Nat → Prop) (ls : Array Slot) (Q : State → Prop), KEn D tys sa y ws cc maxL As w p s m args meth c A ls →
      (∀ (H : Heap) (locs : List Loc) (cells slots pc : Nat) (ls : Array Slot) (ad : Nat → Nat), decode cc pc = .ok (.ireturn, 1) → va_P D vwCl (w1 ad) H → va_D A (w1 ad) → va_S A s.heap H locs → cells ≤ mc → slots ≤ ms → W p l e rm s m args below meth c H locs cells slots Q (F0 m pc ls [.int r0])) →
      W p l e rm s m args below meth c s.heap [] 0 0 Q (F0 m 0 ls [])) : KI l D tys sa y ws rm As w r0 w1 mc ms := by
  intro sz
  refine Met_ofWF (cc := cc) (maxL := maxL) (ret := some .int) hy hw ?_
  intro p e s m args below meth c s₁ B hml hv
  obtain ⟨rfl, hsz, hP, hK, hD0, hG⟩ := hv
  have hx := B.exec
  have hb := B.bytes
  have hr := B.returns
  have hts := atoms_spec (ws := ws) B.pre
  have hown : s.vm.findClass y.cls = some m.cls := findClass_of_methodNamed B.named
  have hlocks := B.notSynchronized
  have hnm := (name_of_methodNamed B.named B.method).1
  subst hsz
  have hD := hD0.self (sz := s.heap.size)
  have hl := lv_entry As (n := maxL) hlen
  rw [lg_entry_eq]
  refine body p e s m _ below meth c (va_A w s.heap.size) _ _ ⟨hx, hb, hml, hown, hts, fun q h => Or.inr h, hP, hK, hD, hG, hl, hnm⟩ ?_
  intro H locs cells slots pc ls ad hdg hP1 hD1 hS h1 h2
  refine W.widen (k := mc) (n := ms) h1 h2 ?_
  exact W.iret (v := r0) hx hb hr (fun t ht hW => ⟨⟨r0, ad, rfl, rfl, by rw [ht]; exact hP1, va_K.moved hW.alike hK, hD1⟩, hS.F ht⟩) hS.2.2 hdg
section KE
variable {p : Program} {l : Launch} {e : Env} {R : Room} {s : State} {m : MethodId} {args : Array Value} {below : List Frame} {meth : Method} {c : Code} {H : Heap} {locs : List Loc} {cells slots : Nat} {Q : State → Prop}
variable {D : va_G} {tys : List (ClassId × FieldType)} {pc : Nat} {ls : Array Slot} {rest st0 : List Value} {a : Array Value} {A0 : Nat → Prop} {H0 : Heap} {mc ms : Nat} {w wc wm w2 : va_W}
theorem kwIE {r0 : Int32} (hr : va_Run p l e R s m args below meth c H locs cells slots mc ms (F0 m pc ls st0) rest (va_Qi (fun (r : Int32) (_ : Nat → Nat) => r = r0) (KB D tys wc H.size (fun _ => wm)) (va_A wc H.size) a) (va_A wc H.size)) (hP : va_P D vwCl w H) (hD : va_D A0 w) (hS : va_S A0 H0 H locs) (hA : ∀ q, H0.size ≤ q → A0 q) (isC : List Nat) (hC : isC.map (fun i => w[i]?) = wc.map some) (hm : wm.map (fun q => q.1) = wc.map (fun q => q.1)) (hw : kput w isC wm = w2)
    (kk : ∀ (H1 : Heap) (locs1 : List Loc), va_P D vwCl w2 H1 → va_D A0 w2 → va_S A0 H0 H1 locs1 → W p l e R s m args below meth c H1 locs1 (cells + mc) (slots + ms) Q (F0 m (pc + 3) ls (.int r0 :: rest))) : W p l e R s m args below meth c H locs cells slots Q (F0 m pc ls st0) := by
  subst hw
  exact kwI hr hP hD hS hA isC hC hm kk
theorem kwVE (hr : va_Run p l e R s m args below meth c H locs cells slots mc ms (F0 m pc ls st0) rest (va_Qv (fun (_ : Nat → Nat) => True) (KB D tys wc H.size (fun _ => wm)) (va_A wc H.size) a) (va_A wc H.size)) (hP : va_P D vwCl w H) (hD : va_D A0 w) (hS : va_S A0 H0 H locs) (hA : ∀ q, H0.size ≤ q → A0 q) (isC : List Nat) (hC : isC.map (fun i => w[i]?) = wc.map some) (hm : wm.map (fun q => q.1) = wc.map (fun q => q.1)) (hw : kput w isC wm = w2)
    (kk : ∀ (H1 : Heap) (locs1 : List Loc), va_P D vwCl w2 H1 → va_D A0 w2 → va_S A0 H0 H1 locs1 → W p l e R s m args below meth c H1 locs1 (cells + mc) (slots + ms) Q (F0 m (pc + 3) ls rest)) : W p l e R s m args below meth c H locs cells slots Q (F0 m pc ls st0) := by
  subst hw
  exact kwV hr hP hD hS hA isC hC hm kk
end KE
theorem kset_mid (x y : Nat × va_E) (r : List (Nat × va_E)) : ∀ pre : List (Nat × va_E), (pre ++ (x :: r)).set pre.length y = pre ++ (y :: r)
  | [] => rfl
  | q :: pre => congrArg (fun l => q :: l) (kset_mid x y r pre)
theorem kput_block : ∀ (mid new pre post : List (Nat × va_E)), mid.length = new.length → kput (pre ++ (mid ++ post)) (List.range' pre.length mid.length) new = pre ++ (new ++ post)
  | [], new, pre, post, h => by
    have e : new = [] := List.eq_nil_of_length_eq_zero h.symm
    subst e
    rfl
  | x :: mid, [], pre, post, h => by cases h
  | x :: mid, y :: new, pre, post, h => by
    have ih := kput_block mid new (pre ++ [y]) post (Nat.succ.inj h)
    rw [List.length_append, List.append_assoc, List.append_assoc] at ih
    have e := kset_mid x y (mid ++ post) pre
    show kput ((pre ++ (x :: (mid ++ post))).set pre.length y) (List.range' (pre.length + 1) mid.length) new = _
    rw [e]
    exact ih
theorem kput_app : ∀ (is1 is2 : List Nat) (n1 n2 w : va_W), is1.length = n1.length → kput w (is1 ++ is2) (n1 ++ n2) = kput (kput w is1 n1) is2 n2
  | [], is2, n1, n2, w, h => by
    have e : n1 = [] := List.eq_nil_of_length_eq_zero h.symm
    subst e
    show kput w is2 n2 = kput (kput w [] []) is2 n2
    rfl
  | i :: is1, is2, [], n2, w, h => by cases h
  | i :: is1, is2, y :: n1, n2, w, h => kput_app is1 is2 n1 n2 (w.set i y) (Nat.succ.inj h)
theorem kput_at {w mid new pre post w2 : va_W} {is : List Nat} (hw : w = pre ++ (mid ++ post)) (his : is = List.range' pre.length mid.length) (hl : mid.length = new.length) (h2 : pre ++ (new ++ post) = w2) : kput w is new = w2 := by
  subst hw; subst his; subst h2
  exact kput_block mid new pre post hl
def ckB {α : Type} (z : Int32) (k : Option α) : Option α := if z = 0 ∨ z = 1 then k else none
theorem ckB_some {α : Type} {z : Int32} {k : Option α} {r : α} (h : ckB z k = some r) : narrow .boolean (.int z) = .int z ∧ k = some r := by
  unfold ckB at h
  by_cases c : z = 0 ∨ z = 1
  · rw [if_pos c] at h
    refine ⟨?_, h⟩
    rcases c with rfl | rfl <;> rfl
  · rw [if_neg c] at h
    cases h
end
section
section KRR
variable {p : Program} {l : Launch} {e : Env} {R : Room} {s : State} {m : MethodId} {args : Array Value} {below : List Frame} {meth : Method} {c : Code} {H : Heap} {locs : List Loc} {cells slots : Nat} {Q : State → Prop}
variable {cc : ByteArray} {pc : Nat} {ls : Array Slot} {rest : List Value} {D : va_G} {A : Nat → Prop} {a : Nat} {cy : Nat → ClassId} {ws : va_W} {H0 : Heap}
/-- rows of ints' class: its kind -/
theorem kRR (hK : va_K D vwCl (tyW cy) s) (h : AOA s) : ∃ k : Class, s.vm.classes[cy 1]? = some k ∧ k.kind = .array (cy 0) (.array .int) ∧ s.vm.findClass "[I" = some (cy 0) := by
  obtain ⟨comp, c, k, h1, h2, h3, h4, h5⟩ := arrayOverA_spec (args := #[]) (first := s) (o := none) (idx := []) h
  have e0 : s.vm.findClass "[I" = some (cy 0) := (hK.2 0 _ rfl).2
  have e1 : s.vm.findClass ("[" ++ (FieldType.array .int).toString) = some (cy 1) := (hK.2 1 _ rfl).2
  have c0 : comp = cy 0 := Option.some.inj (h1.symm.trans e0)
  have c1 : c = cy 1 := Option.some.inj (h5.symm.trans e1)
  subst c0; subst c1
  exact ⟨k, h3, h4, e0⟩
theorem va_aldA (hexec : p.tables.exec = Jvm.exec) (hb : c.code = cc) (hK : va_K D vwCl (tyW cy) s) (hP : va_P D vwCl ws H) (q0 : Nat) {n : Nat} {f : Nat → Option Nat} (ha : ws[q0]? = some (a, .inl (cy 1, n, .inr (.inr (.inr (.inr f)))))) {i : Int32} (hin : vp_in i n) {v : Value} (hv : va_rf (f i.toNatClampNeg) = v) (hdg : decode cc pc = .ok (.aaload, 1))
    (kk : W p l e R s m args below meth c H locs cells slots Q (F0 m (pc + 1) ls (v :: rest))) : W p l e R s m args below meth c H locs cells slots Q (F0 m pc ls (.int i :: .ref a :: rest)) := by
  subst hv
  have hlt : i.toNatClampNeg < n := Nat.not_le.mp fun q => hin (Or.inr q)
  exact W.aald (v := va_rf (f i.toNatClampNeg)) (ty := .array .int) hexec hb (hP q0 _ ha) ((hK.2 1 _ rfl).1 n (fun j => va_rf (f j))) rfl (fun q => by cases q) (by show ¬ (i < 0 ∨ (arrV _ _ _).slots.size ≤ _); rw [arrV_size]; exact hin) (by show (arrV _ _ _).slots[_]? = _; rw [arrV_read _ _ hlt]) rfl rfl hdg kk
theorem va_astA (hexec : p.tables.exec = Jvm.exec) (hb : c.code = cc) (hK : va_K D vwCl (tyW cy) s) (hAA : AOA s) (hP : va_P D vwCl ws H) (hD : va_D A ws) (hS : va_S A H0 H locs) (q0 qk : Nat) {n v : Nat} {x : vp_A} {f : Nat → Option Nat} (ha : ws[q0]? = some (a, .inl (cy 1, n, .inr (.inr (.inr (.inr f)))))) (hv : ws[qk]? = some (v, .inl (cy 0, x))) {i : Int32} (hin : vp_in i n) (hdg : decode cc pc = .ok (.aastore, 1))
    (kk : ∀ (H1 : Heap) (locs1 : List Loc), va_P D vwCl (ws.set q0 (a, .inl (cy 1, n, .inr (.inr (.inr (.inr (va_up f i.toNatClampNeg (some v)))))))) H1 → va_D A (ws.set q0 (a, .inl (cy 1, n, .inr (.inr (.inr (.inr (va_up f i.toNatClampNeg (some v)))))))) → va_S A H0 H1 locs1 → W p l e R s m args below meth c H1 locs1 cells slots Q (F0 m (pc + 1) ls rest)) : W p l e R s m args below meth c H locs cells slots Q (F0 m pc ls (.ref v :: .int i :: .ref a :: rest)) := by
  have hlt : i.toNatClampNeg < n := Nat.not_le.mp fun q => hin (Or.inr q)
  have h0 : ¬ i < 0 := fun q => hin (Or.inl q)
  obtain ⟨kA, k1, k2, k3⟩ := kRR hK hAA
  obtain ⟨-, kI, hkI, -⟩ := (hK.2 0 _ rfl).1 1 (fun _ => .int 0)
  have hcl0 : (vp_cell (cy 0) x).cls = cy 0 := by
    obtain ⟨n, f | f | f | f | f⟩ := x <;> rfl
  have hvm0 : (vp_cell (cy 0) x).vm = .none := by
    obtain ⟨n, f | f | f | f | f⟩ := x <;> rfl
  have hkI : s.vm.classes[cy 0]? = some kI := hkI
  refine W.aast hexec hb (hP q0 _ ha) (fun q h => by cases h) (fun h => by cases h) k1 k2 rfl hkI ⟨h0, by show _ < (arrV _ _ _).slots.size; rw [arrV_size]; exact hlt⟩ (hP qk _ hv) (fun q h => by rw [hvm0] at h; cases h) (by rw [hcl0]; exact hkI) (by rw [hcl0]; show ((cy 0 == cy 0) || _) = true; rw [beq_self_eq_true, Bool.true_or]) rfl rfl hdg fun H1 e z oq => ?_
  refine kk H1 _ (hP.set hD ha ?_ oq) (hD.set ha) (hS.put z oq (hD.2 q0 _ ha))
  show H1[a]? = some (vp_cell (cy 1) (n, .inr (.inr (.inr (.inr (va_up f i.toNatClampNeg (some v)))))))
  rw [e]
  show some (Cell.setSlot (vp_cell (cy 1) (n, .inr (.inr (.inr (.inr f))))) i.toNatClampNeg (.ref v)) = _
  rw [vp_cell_q, vp_cell_q, arrV_store]
  congr 2
  funext q
  by_cases hq : q = i.toNatClampNeg
  · subst hq
    simp [updV, va_up, va_rf]
  · simp [updV, va_up, hq]
theorem va_newA (hexec : p.tables.exec = Jvm.exec) (hb : c.code = cc) {own : String} {index : Nat} (hown : s.vm.findClass own = some m.cls) (hclink : (Cond.classLink own index "[I").before args s = true) (hAA : AOA s) (hK : va_K D vwCl (tyW cy) s) (hP : va_P D vwCl ws H) (hD : va_D A ws) (hS : va_S A H0 H locs) (hA : ∀ q, H0.size ≤ q → A q)
    {n : Int32} {N' : Nat} (hn : ¬ n < 0) (hN : n.toNatClampNeg = N') (hbytes : N' * 4 ≤ 536870912) (hcells : cells + 1 ≤ R.cells) (hslots : slots + N' ≤ R.slots) (hdg : decode cc pc = .ok (.anewarray index, 3))
    (kk : ∀ (q : Nat) (H1 : Heap), va_P D vwCl (ws ++ [(q, .inl (cy 1, N', .inr (.inr (.inr (.inr (fun _ => none))))))]) H1 → va_D A (ws ++ [(q, .inl (cy 1, N', .inr (.inr (.inr (.inr (fun _ => none))))))]) → va_S A H0 H1 locs →
      W p l e R s m args below meth c H1 locs (cells + 1) (slots + N') Q (F0 m (pc + 3) ls (.ref q :: rest))) : W p l e R s m args below meth c H locs cells slots Q (F0 m pc ls (.int n :: rest)) := by
  subst hN
  have e1 : s.vm.findClass ("[" ++ (FieldType.array .int).toString) = some (cy 1) := (hK.2 1 _ rfl).2
  refine W.anewA (t := .int) hexec hb hown hclink hAA rfl hdg rfl hn hbytes hcells hslots fun cA kA comp f1 f2 f3 f4 => ?_
  have hc : cA = cy 1 := Option.some.inj (f1.symm.trans e1)
  subst hc
  generalize hH1 : H.push ({ cls := cy 1, slots := Array.replicate n.toNatClampNeg .null, vm := .none } : Cell) = H1
  have z1 : H1.size = H.size + 1 := by rw [← hH1, Array.size_push]
  have e1 : H1[H.size]? = some (arrV (cy 1) n.toNatClampNeg (fun _ => .null)) := by rw [← hH1, Array.getElem?_push_size, ← arrV_new]
  have o1 : ∀ q : Nat, q < H.size → H1[q]? = H[q]? := fun q hq => by rw [← hH1, Array.getElem?_push, if_neg (Nat.ne_of_lt hq)]
  have hk : ∀ (k : Nat) (x : Nat × va_E), ws[k]? = some x → H1[x.1]? = H[x.1]? := fun k x hx => o1 x.1 ((hP k x hx).lt)
  refine kk H.size H1 ((hP.kept hk).app (fun k x hx => ?_)) (hD.push hP rfl (hA _ hS.1)) ⟨Nat.le_trans hS.1 (by omega), fun x h1 h2 => (o1 x (Nat.lt_of_lt_of_le h1 hS.1)).trans (hS.2.1 x h1 h2), hS.2.2⟩
  have hz : k < 1 := (List.getElem?_eq_some_iff.mp hx).1
  rw [show k = 0 by omega] at hx
  cases hx
  show H1[H.size]? = some (vp_cell (cy 1) (n.toNatClampNeg, .inr (.inr (.inr (.inr (fun _ => none))))))
  rw [vp_cell_q]
  exact e1
end KRR
/-- a method that answers a new cell: its address is ad 0 -/
def KR (l : Launch) (D : va_G) (tys : List (ClassId × FieldType)) (sa : SAT) (y : MethodName) (ws : List Cond) (rm : Room) (As : List Value) (w : va_W) (w1 : (Nat → Nat) → va_W) (mc ms : Nat) : Prop := ∀ sz : Nat, Met l y ws rm (va_Pc As (KPc D tys sa w sz)) (va_Qr (fun (_ : Nat → Nat) => True) (fun ad a t => a = ad 0 ∧ KB D tys w sz w1 ad t) (va_A w sz)) mc ms (va_A w sz)
theorem KR.of {l : Launch} {D : va_G} {tys : List (ClassId × FieldType)} {sa : SAT} {y : MethodName} {ws ws' : List Cond} {rm : Room} {As : List Value} {w : va_W} {w1 : (Nat → Nat) → va_W} {mc ms : Nat} {cc : ByteArray} {maxL : Nat} {rt : FieldType} (hrt : (∃ n, rt = .object n) ∨ ∃ t, rt = .array t)
    (hy : plainName y.cls = true) (hw : ws = Cond.code y cc maxL (some rt) :: ws') (hlen : (lg_sl As).length ≤ maxL)
    (body : ∀ (p : Program) (e : Env) (s : State) (m : MethodId) (args : Array Value) (below : List Frame) (meth : Method) (c : Code) (A : Nat → Prop) (ls : Array Slot) (Q : State → Prop), KEn D tys sa y ws cc maxL As w p s m args meth c A ls →
      (∀ (H : Heap) (locs : List Loc) (cells slots pc : Nat) (ls : Array Slot) (ad : Nat → Nat), decode cc pc = .ok (.areturn, 1) → va_P D vwCl (w1 ad) H → va_D A (w1 ad) → va_S A s.heap H locs → cells ≤ mc → slots ≤ ms → W p l e rm s m args below meth c H locs cells slots Q (F0 m pc ls [.ref (ad 0)])) →
      W p l e rm s m args below meth c s.heap [] 0 0 Q (F0 m 0 ls [])) : KR l D tys sa y ws rm As w w1 mc ms := by
  intro sz
  refine Met.ofW (cc := cc) (maxL := maxL) (ret := some rt) hy hw ?_
  intro p e s m args below meth c s₁ B hml hv
  obtain ⟨rfl, hsz, hP, hK, hD0, hG⟩ := hv
  have hx := B.exec
  have hb := B.bytes
  have hr := B.returns
  have hts := atoms_spec (ws := ws) B.pre
  have hown : s.vm.findClass y.cls = some m.cls := findClass_of_methodNamed B.named
  have hlocks := B.notSynchronized
  have hnm := (name_of_methodNamed B.named B.method).1
  subst hsz
  have hD := hD0.self (sz := s.heap.size)
  have hl := lv_entry As (n := maxL) hlen
  rw [lg_entry_eq]
  refine body p e s m _ below meth c (va_A w s.heap.size) _ _ ⟨hx, hb, hml, hown, hts, fun q h => Or.inr h, hP, hK, hD, hG, hl, hnm⟩ ?_
  intro H locs cells slots pc ls ad hdg hP1 hD1 hS h1 h2
  refine W.widen (k := mc) (n := ms) h1 h2 ?_
  exact W.aret (v := .ref (ad 0)) hx hb hr hrt (Or.inr ⟨_, rfl⟩) (fun t ht hW => ⟨⟨ad, ad 0, rfl, trivial, rfl, by rw [ht]; exact hP1, va_K.moved hW.alike hK, hD1⟩, hS.F ht⟩) hS.2.2 hdg
theorem kfit (c : ClassId) (n : Nat) (f : Nat → Int32) (i : Nat) (v : Value) (h : (vp_cell c (n, .inl f)).slots[i]? = some v) : fits .int v = true := by
  rw [vp_cell_i] at h
  have hi : i < (arrV c n (fun j => .int (f j))).slots.size := (Array.getElem?_eq_some_iff.mp h).1
  rw [arrV_size] at hi
  rw [arrV_read _ _ hi] at h
  rw [← Option.some.inj h]
  rfl
def kh (q : Nat) (ad : Nat → Nat) : Nat → Nat := fun i => match i with
  | 0 => q
  | i + 1 => ad (i + 1)
section KNR
variable {p : Program} {l : Launch} {e : Env} {R : Room} {s : State} {m : MethodId} {args : Array Value} {below : List Frame} {meth : Method} {c : Code} {H : Heap} {locs : List Loc} {cells slots : Nat} {Q : State → Prop}
variable {D : va_G} {tys : List (ClassId × FieldType)} {pc : Nat} {ls : Array Slot} {rest st0 : List Value} {a : Array Value} {A0 : Nat → Prop} {H0 : Heap} {mc ms : Nat} {w wc : va_W}
theorem knR {w1 : (Nat → Nat) → va_W} (hr : va_Run p l e R s m args below meth c H locs cells slots mc ms (F0 m pc ls st0) rest (va_Qr (fun (_ : Nat → Nat) => True) (fun ad a t => a = ad 0 ∧ KB D tys wc H.size w1 ad t) (va_A wc H.size) a) (va_A wc H.size)) (hP : va_P D vwCl w H) (hD : va_D A0 w) (hS : va_S A0 H0 H locs) (hA : ∀ q, H0.size ≤ q → A0 q) (isC : List Nat) (hC : isC.map (fun i => w[i]?) = wc.map some)
    (kk : ∀ (ad : Nat → Nat) (H1 : Heap) (locs1 : List Loc), va_P D vwCl (w1 ad) H1 → va_D A0 (w1 ad) → va_S A0 H0 H1 locs1 → W p l e R s m args below meth c H1 locs1 (cells + mc) (slots + ms) Q (F0 m (pc + 3) ls (.ref (ad 0) :: rest))) : W p l e R s m args below meth c H locs cells slots Q (F0 m pc ls st0) := by
  have hF := va_free (wc := wc) hD hS hA isC hC
  refine va_callr hr hS (fun q _ h => hF q h) hF (fun u ra t H1 locs1 ht hvm hw hB hz hk hS1 => ?_)
  obtain ⟨rfl, hP1, -, hD1⟩ := hB
  rw [ht] at hP1
  obtain ⟨g1, g2⟩ := va_join (wr := []) hP hD isC [] hC rfl rfl (fun _ h => absurd h List.not_mem_nil) hk hF hP1 hD1
  exact kk u H1 locs1 g1 g2 hS1
end KNR
theorem cl_0 : (0 : Int32).toNatClampNeg = 0 := by decide
theorem cl_1 : (1 : Int32).toNatClampNeg = 1 := by decide
theorem cl_2 : (2 : Int32).toNatClampNeg = 2 := by decide
theorem cl_3 : (3 : Int32).toNatClampNeg = 3 := by decide
theorem cl_4 : (4 : Int32).toNatClampNeg = 4 := by decide
theorem cl_5 : (5 : Int32).toNatClampNeg = 5 := by decide
end
section
def ckN {α : Type} (a b : UInt64) (k : Option α) : Option α := if FP.ddiv a b &&& 0x7fffffffffffffff ≤ 0x7ff0000000000000 then k else none
theorem ckN_some {α : Type} {a b : UInt64} {k : Option α} {r : α} (h : ckN a b k = some r) : vf_n64 (FP.ddiv a b) ∧ k = some r := by
  unfold ckN at h
  by_cases c : FP.ddiv a b &&& 0x7fffffffffffffff ≤ 0x7ff0000000000000
  · rw [if_pos c] at h
    exact ⟨c, h⟩
  · rw [if_neg c] at h
    cases h
def KD (l : Launch) (D : va_G) (tys : List (ClassId × FieldType)) (sa : SAT) (y : MethodName) (ws : List Cond) (rm : Room) (As : List Value) (w : va_W) (r0 : UInt64) (w1 : (Nat → Nat) → va_W) (mc ms : Nat) : Prop := ∀ sz : Nat, Met l y ws rm (va_Pc As (KPc D tys sa w sz)) (va_Qd (fun (r : UInt64) (_ : Nat → Nat) => r = r0) (KB D tys w sz w1) (va_A w sz)) mc ms (va_A w sz)
theorem KD.of {l : Launch} {D : va_G} {tys : List (ClassId × FieldType)} {sa : SAT} {y : MethodName} {ws ws' : List Cond} {rm : Room} {As : List Value} {w : va_W} {r0 : UInt64} {w1 : (Nat → Nat) → va_W} {mc ms : Nat} {cc : ByteArray} {maxL : Nat}
    (hy : plainName y.cls = true) (hw : ws = Cond.code y cc maxL (some .double) :: ws') (hlen : (lg_sl As).length ≤ maxL)
    (body : ∀ (p : Program) (e : Env) (s : State) (m : MethodId) (args : Array Value) (below : List Frame) (meth : Method) (c : Code) (A : Nat → Prop) (ls : Array Slot) (Q : State → Prop), KEn D tys sa y ws cc maxL As w p s m args meth c A ls →
      (∀ (H : Heap) (locs : List Loc) (cells slots pc : Nat) (ls : Array Slot) (ad : Nat → Nat), decode cc pc = .ok (.dreturn, 1) → va_P D vwCl (w1 ad) H → va_D A (w1 ad) → va_S A s.heap H locs → cells ≤ mc → slots ≤ ms → W p l e rm s m args below meth c H locs cells slots Q (F0 m pc ls [.double r0])) →
      W p l e rm s m args below meth c s.heap [] 0 0 Q (F0 m 0 ls [])) : KD l D tys sa y ws rm As w r0 w1 mc ms := by
  intro sz
  refine Met.ofW (cc := cc) (maxL := maxL) (ret := some .double) hy hw ?_
  intro p e s m args below meth c s₁ B hml hv
  obtain ⟨rfl, hsz, hP, hK, hD0, hG⟩ := hv
  have hx := B.exec
  have hb := B.bytes
  have hr := B.returns
  have hts := atoms_spec (ws := ws) B.pre
  have hown : s.vm.findClass y.cls = some m.cls := findClass_of_methodNamed B.named
  have hlocks := B.notSynchronized
  have hnm := (name_of_methodNamed B.named B.method).1
  subst hsz
  have hD := hD0.self (sz := s.heap.size)
  have hl := lv_entry As (n := maxL) hlen
  rw [lg_entry_eq]
  refine body p e s m _ below meth c (va_A w s.heap.size) _ _ ⟨hx, hb, hml, hown, hts, fun q h => Or.inr h, hP, hK, hD, hG, hl, hnm⟩ ?_
  intro H locs cells slots pc ls ad hdg hP1 hD1 hS h1 h2
  refine W.widen (k := mc) (n := ms) h1 h2 ?_
  exact W.dret (v := r0) hx hb hr (fun t ht hW => ⟨⟨r0, ad, rfl, rfl, by rw [ht]; exact hP1, va_K.moved hW.alike hK, hD1⟩, hS.F ht⟩) hS.2.2 hdg
section KCD
variable {p : Program} {l : Launch} {e : Env} {R : Room} {s : State} {m : MethodId} {args : Array Value} {below : List Frame} {meth : Method} {c : Code} {H : Heap} {locs : List Loc} {cells slots : Nat} {Q : State → Prop}
variable {D : va_G} {tys : List (ClassId × FieldType)} {sa : SAT} {pc : Nat} {ls : Array Slot} {rest st0 : List Value} {a : Array Value} {A0 : Nat → Prop} {H0 : Heap} {mc ms : Nat} {w wc wm w2 : va_W}
theorem krD {r0 : UInt64} (hr : va_Run p l e R s m args below meth c H locs cells slots mc ms (F0 m pc ls st0) rest (va_Qd (fun (r : UInt64) (_ : Nat → Nat) => r = r0) (KB D tys wc H.size (fun _ => wc)) (va_A wc H.size) a) (va_A wc H.size)) (hP : va_P D vwCl w H) (hD : va_D A0 w) (hS : va_S A0 H0 H locs) (hA : ∀ q, H0.size ≤ q → A0 q) (isC : List Nat) (hC : isC.map (fun i => w[i]?) = wc.map some)
    (kk : ∀ (H1 : Heap) (locs1 : List Loc), va_P D vwCl w H1 → va_S A0 H0 H1 locs1 → W p l e R s m args below meth c H1 locs1 (cells + mc) (slots + ms) Q (F0 m (pc + 3) ls (.double r0 :: rest))) : W p l e R s m args below meth c H locs cells slots Q (F0 m pc ls st0) := by
  have hF := va_free (wc := wc) hD hS hA isC hC
  refine va_calld hr hS (fun q _ h => hF q h) hF (fun r u t H1 locs1 ht hvm hw hB hz hk hS1 => ?_)
  subst hw
  obtain ⟨hP1, -, -⟩ := hB
  rw [ht] at hP1
  exact kk H1 locs1 (kread hP hD isC hC hk hP1) hS1
theorem kwDE {r0 : UInt64} (hr : va_Run p l e R s m args below meth c H locs cells slots mc ms (F0 m pc ls st0) rest (va_Qd (fun (r : UInt64) (_ : Nat → Nat) => r = r0) (KB D tys wc H.size (fun _ => wm)) (va_A wc H.size) a) (va_A wc H.size)) (hP : va_P D vwCl w H) (hD : va_D A0 w) (hS : va_S A0 H0 H locs) (hA : ∀ q, H0.size ≤ q → A0 q) (isC : List Nat) (hC : isC.map (fun i => w[i]?) = wc.map some) (hm : wm.map (fun q => q.1) = wc.map (fun q => q.1)) (hw : kput w isC wm = w2)
    (kk : ∀ (H1 : Heap) (locs1 : List Loc), va_P D vwCl w2 H1 → va_D A0 w2 → va_S A0 H0 H1 locs1 → W p l e R s m args below meth c H1 locs1 (cells + mc) (slots + ms) Q (F0 m (pc + 3) ls (.double r0 :: rest))) : W p l e R s m args below meth c H locs cells slots Q (F0 m pc ls st0) := by
  subst hw
  have hF := va_free (wc := wc) hD hS hA isC hC
  refine va_calld hr hS (fun q _ h => hF q h) hF (fun r u t H1 locs1 ht hvm hw hB hz hk hS1 => ?_)
  subst hw
  obtain ⟨hP1, -, -⟩ := hB
  rw [ht] at hP1
  obtain ⟨g1, g2⟩ := kjoin hP hD isC hC hm hk hP1
  exact kk H1 locs1 g1 g2 hS1
theorem kwLE {r0 : Int64} (hr : va_Run p l e R s m args below meth c H locs cells slots mc ms (F0 m pc ls st0) rest (va_Ql (fun (r : Int64) (_ : Nat → Nat) => r = r0) (KB D tys wc H.size (fun _ => wm)) (va_A wc H.size) a) (va_A wc H.size)) (hP : va_P D vwCl w H) (hD : va_D A0 w) (hS : va_S A0 H0 H locs) (hA : ∀ q, H0.size ≤ q → A0 q) (isC : List Nat) (hC : isC.map (fun i => w[i]?) = wc.map some) (hm : wm.map (fun q => q.1) = wc.map (fun q => q.1)) (hw : kput w isC wm = w2)
    (kk : ∀ (H1 : Heap) (locs1 : List Loc), va_P D vwCl w2 H1 → va_D A0 w2 → va_S A0 H0 H1 locs1 → W p l e R s m args below meth c H1 locs1 (cells + mc) (slots + ms) Q (F0 m (pc + 3) ls (.long r0 :: rest))) : W p l e R s m args below meth c H locs cells slots Q (F0 m pc ls st0) := by
  subst hw
  have hF := va_free (wc := wc) hD hS hA isC hC
  refine va_calll hr hS (fun q _ h => hF q h) hF (fun r u t H1 locs1 ht hvm hw hB hz hk hS1 => ?_)
  subst hw
  obtain ⟨hP1, -, -⟩ := hB
  rw [ht] at hP1
  obtain ⟨g1, g2⟩ := kjoin hP hD isC hC hm hk hP1
  exact kk H1 locs1 g1 g2 hS1
variable {y : MethodName} {bytes cc : ByteArray} {maxL nL n index : Nat} {ret : Option FieldType} {hh : List (Nat × Nat × Nat × Nat)} {ws : List Cond} {rm : Room} {Qc : Array Value → State → Outcome → State → Prop} {free : Addr → Prop} {Ts : List Cond} {own : String} {As : List Value}
theorem kSW {A : Nat → Prop} (S : CallFix p m c cc nL s args Ts own) (hM : Met l y ws rm (va_Pc As (KPc D tys sa wc H.size)) Qc mc ms free) (cw : vx_CSW R s args own index y bytes maxL ret hh ws rm mc ms n) (hK : va_K D vwCl tys s) (hP : va_P D vwCl w H) (hD : va_D A w) (hS : va_S A s.heap H locs) (hA : ∀ q, s.heap.size ≤ q → A q) (hG : GE sa A s s.heap) (isC : List Nat) (hC : isC.map (fun i => w[i]?) = wc.map some) (hnd : va_nd isC = true)
    (hn : As.length = n) (hls : ls.size = nL) (rest : List Value) (hst : st0 = As.reverse ++ rest) (hcat : (rest.map fun v => v.category).sum ≤ 8) (hdg : decode cc pc = .ok (.invokestatic index, 3)) (hf : cells + mc ≤ R.cells ∧ slots + ms ≤ R.slots) :
    va_Run p l e R s m args below meth c H locs cells slots mc ms (F0 m pc ls st0) rest (Qc As.toArray) free :=
  vx_runSW S hM cw ⟨KPc_blind _ _ _ _ _ _, fun U hU hW => ⟨rfl, kpre hP hD hK hS hA hG isC hC hnd hU hW⟩⟩ rfl hn hls hst (lv_room hcat) hdg hf
end KCD
end
section
/-! the law's own rows: rows of ints and rows of rows, each by its number; ad says where a number's row lies -/
abbrev zs_E : Type := (Nat × FN) ⊕ (Nat × (Nat → Option Nat))
abbrev zs_H : Type := Nat × (Nat → zs_E)
def zs_row (cy : Nat → ClassId) (ad : Nat → Nat) (e : zs_E) : va_E := match e with
  | .inl (k, f) => .inl (cy 0, k, .inl f)
  | .inr (k, g) => .inl (cy 1, k, .inr (.inr (.inr (.inr (fun j => (g j).map ad)))))
def zs_rows (cy : Nat → ClassId) (ad : Nat → Nat) (h : zs_H) : va_W := (List.range h.1).map (fun i => (ad i, zs_row cy ad (h.2 i)))
def zs_obj (ad : Nat → Nat) (G : FN) (F : Nat → Nat) : List Value := [.int (G 0), .int (G 1), .int (G 2), .int (G 3), .int (G 4), .ref (ad (F 5)), .ref (ad (F 6)), .ref (ad (F 7)), .ref (ad (F 8)), .ref (ad (F 9)), .ref (ad (F 10)), .ref (ad (F 11))]
/-- the world: cells P, the law's object, its rows -/
abbrev zs_W (P : va_W) (cy : Nat → ClassId) (hs : Nat) (ad : Nat → Nat) (G : FN) (F : Nat → Nat) (h : zs_H) : va_W := (P ++ [(hs, .inr (6, zs_obj ad G F))]) ++ zs_rows cy ad h
/-- the rows' own references are to rows -/
def zs_wf (h : zs_H) : Prop := ∀ i, i < h.1 → ∀ (k : Nat) (g : Nat → Option Nat), h.2 i = .inr (k, g) → ∀ j v, g j = some v → v < h.1
def zs_fs (F : Nat → Nat) (h : zs_H) : Prop := ∀ k, F k < h.1
/-! what the instructions do to rows -/
def zs_ld (h : zs_H) (q : Nat) (i : Int32) : Option Int32 := if q < h.1 then (match h.2 q with
  | .inl (k, f) => ckI i k (some (f i.toNatClampNeg))
  | .inr _ => none) else none
def zs_ldr (h : zs_H) (q : Nat) (i : Int32) : Option Nat := if q < h.1 then (match h.2 q with
  | .inl _ => none
  | .inr (k, g) => ckI i k (g i.toNatClampNeg)) else none
def zs_len (h : zs_H) (q : Nat) : Option Int32 := if q < h.1 then (match h.2 q with
  | .inl (k, _) => some (Int32.ofNat k)
  | .inr (k, _) => some (Int32.ofNat k)) else none
def zs_st (h : zs_H) (q : Nat) (i v : Int32) : Option zs_H := if q < h.1 then (match h.2 q with
  | .inl (k, f) => ckI i k (some (h.1, va_up h.2 q (.inl (k, upd f i.toNatClampNeg v))))
  | .inr _ => none) else none
def zs_str (h : zs_H) (q : Nat) (i : Int32) (r : Nat) : Option zs_H := if q < h.1 ∧ r < h.1 then (match h.2 q, h.2 r with
  | .inr (k, g), .inl _ => ckI i k (some (h.1, va_up h.2 q (.inr (k, va_up g i.toNatClampNeg (some r)))))
  | _, _ => none) else none
def zs_nwi (h : zs_H) (v : Int32) (B : Nat) : Option zs_H := if 0 ≤ v.toInt ∧ v.toInt ≤ (B : Int) then some (h.1 + 1, va_up h.2 h.1 (.inl (v.toNatClampNeg, fun _ => 0))) else none
def zs_nwr (h : zs_H) (v : Int32) (B : Nat) : Option zs_H := if 0 ≤ v.toInt ∧ v.toInt ≤ (B : Int) then some (h.1 + 1, va_up h.2 h.1 (.inr (v.toNatClampNeg, fun _ => none))) else none
def zs_cl (h : zs_H) (q : Nat) (B : Nat) : Option zs_H := if q < h.1 then (match h.2 q with
  | .inl (k, f) => if k ≤ B then some (h.1 + 1, va_up h.2 h.1 (.inl (k, f))) else none
  | .inr _ => none) else none
def zs_nwm (h : zs_H) (a b : Nat) : zs_H := (h.1 + 1 + a, fun i => if i < h.1 then h.2 i else if i = h.1 then .inr (a, fun j => if j < a then some (h.1 + 1 + j) else none) else .inl (b, fun _ => 0))
theorem zs_ld_of {h : zs_H} {q : Nat} {i v : Int32} (z : zs_ld h q i = some v) : ∃ (k : Nat) (f : FN), q < h.1 ∧ h.2 q = .inl (k, f) ∧ vp_in i k ∧ v = f i.toNatClampNeg := by
  unfold zs_ld at z
  by_cases c : q < h.1
  · rw [if_pos c] at z
    cases e : h.2 q with
    | inl x =>
      obtain ⟨k, f⟩ := x
      rw [e] at z
      obtain ⟨h1, h2⟩ := ckI_some z
      exact ⟨k, f, c, rfl, h1, (Option.some.inj h2).symm⟩
    | inr x => rw [e] at z; cases z
  · rw [if_neg c] at z; cases z
theorem zs_ldr_of {h : zs_H} {q v : Nat} {i : Int32} (z : zs_ldr h q i = some v) : ∃ (k : Nat) (g : Nat → Option Nat), q < h.1 ∧ h.2 q = .inr (k, g) ∧ vp_in i k ∧ g i.toNatClampNeg = some v := by
  unfold zs_ldr at z
  by_cases c : q < h.1
  · rw [if_pos c] at z
    cases e : h.2 q with
    | inl x => rw [e] at z; cases z
    | inr x =>
      obtain ⟨k, g⟩ := x
      rw [e] at z
      obtain ⟨h1, h2⟩ := ckI_some z
      exact ⟨k, g, c, rfl, h1, h2⟩
  · rw [if_neg c] at z; cases z
theorem zs_ldr_lt {h : zs_H} (w : zs_wf h) {q v : Nat} {i : Int32} (z : zs_ldr h q i = some v) : v < h.1 := by
  obtain ⟨k, g, h1, h2, -, h4⟩ := zs_ldr_of z
  exact w q h1 k g h2 _ v h4
theorem zs_len_of {h : zs_H} {q : Nat} {v : Int32} (z : zs_len h q = some v) : q < h.1 ∧ ((∃ (k : Nat) (f : FN), h.2 q = .inl (k, f) ∧ Int32.ofNat k = v) ∨ ∃ (k : Nat) (g : Nat → Option Nat), h.2 q = .inr (k, g) ∧ Int32.ofNat k = v) := by
  unfold zs_len at z
  by_cases c : q < h.1
  · rw [if_pos c] at z
    refine ⟨c, ?_⟩
    cases e : h.2 q with
    | inl x => obtain ⟨k, f⟩ := x; rw [e] at z; exact Or.inl ⟨k, f, rfl, Option.some.inj z⟩
    | inr x => obtain ⟨k, f⟩ := x; rw [e] at z; exact Or.inr ⟨k, f, rfl, Option.some.inj z⟩
  · rw [if_neg c] at z; cases z
theorem zs_st_of {h h1 : zs_H} {q : Nat} {i v : Int32} (z : zs_st h q i v = some h1) : ∃ (k : Nat) (f : FN), q < h.1 ∧ h.2 q = .inl (k, f) ∧ vp_in i k ∧ h1 = (h.1, va_up h.2 q (.inl (k, upd f i.toNatClampNeg v))) := by
  unfold zs_st at z
  by_cases c : q < h.1
  · rw [if_pos c] at z
    cases e : h.2 q with
    | inl x =>
      obtain ⟨k, f⟩ := x
      rw [e] at z
      obtain ⟨h1, h2⟩ := ckI_some z
      exact ⟨k, f, c, rfl, h1, (Option.some.inj h2).symm⟩
    | inr x => rw [e] at z; cases z
  · rw [if_neg c] at z; cases z
theorem zs_str_of {h h1 : zs_H} {q r : Nat} {i : Int32} (z : zs_str h q i r = some h1) : ∃ (k : Nat) (g : Nat → Option Nat) (x : Nat × FN), q < h.1 ∧ r < h.1 ∧ h.2 q = .inr (k, g) ∧ h.2 r = .inl x ∧ vp_in i k ∧ h1 = (h.1, va_up h.2 q (.inr (k, va_up g i.toNatClampNeg (some r)))) := by
  unfold zs_str at z
  by_cases c : q < h.1 ∧ r < h.1
  · rw [if_pos c] at z
    cases e : h.2 q with
    | inl x => rw [e] at z; cases z
    | inr x =>
      obtain ⟨k, g⟩ := x
      cases e2 : h.2 r with
      | inr y => rw [e, e2] at z; cases z
      | inl y =>
        rw [e, e2] at z
        obtain ⟨h1, h2⟩ := ckI_some z
        exact ⟨k, g, y, c.1, c.2, rfl, rfl, h1, (Option.some.inj h2).symm⟩
  · rw [if_neg c] at z; cases z
theorem zs_nwi_of {h h1 : zs_H} {v : Int32} {B : Nat} (z : zs_nwi h v B = some h1) : ¬ v < 0 ∧ v.toNatClampNeg ≤ B ∧ h1 = (h.1 + 1, va_up h.2 h.1 (.inl (v.toNatClampNeg, fun _ => 0))) := by
  unfold zs_nwi at z
  by_cases c : 0 ≤ v.toInt ∧ v.toInt ≤ (B : Int)
  · rw [if_pos c] at z
    refine ⟨fun q => ?_, ?_, (Option.some.inj z).symm⟩
    · rw [Int32.lt_iff_toInt_lt] at q
      exact absurd c.1 (by have : (0 : Int32).toInt = 0 := rfl; omega)
    · have : (v.toNatClampNeg : Int) = v.toInt := by
        show ((v.toInt.toNat : Nat) : Int) = v.toInt
        omega
      omega
  · rw [if_neg c] at z; cases z
theorem zs_nwr_of {h h1 : zs_H} {v : Int32} {B : Nat} (z : zs_nwr h v B = some h1) : ¬ v < 0 ∧ v.toNatClampNeg ≤ B ∧ h1 = (h.1 + 1, va_up h.2 h.1 (.inr (v.toNatClampNeg, fun _ => none))) := by
  unfold zs_nwr at z
  by_cases c : 0 ≤ v.toInt ∧ v.toInt ≤ (B : Int)
  · rw [if_pos c] at z
    refine ⟨fun q => ?_, ?_, (Option.some.inj z).symm⟩
    · rw [Int32.lt_iff_toInt_lt] at q
      exact absurd c.1 (by have : (0 : Int32).toInt = 0 := rfl; omega)
    · have : (v.toNatClampNeg : Int) = v.toInt := by
        show ((v.toInt.toNat : Nat) : Int) = v.toInt
        omega
      omega
  · rw [if_neg c] at z; cases z
theorem zs_cl_of {h h1 : zs_H} {q B : Nat} (z : zs_cl h q B = some h1) : ∃ (k : Nat) (f : FN), q < h.1 ∧ h.2 q = .inl (k, f) ∧ k ≤ B ∧ h1 = (h.1 + 1, va_up h.2 h.1 (.inl (k, f))) := by
  unfold zs_cl at z
  by_cases c : q < h.1
  · rw [if_pos c] at z
    cases e : h.2 q with
    | inl x =>
      obtain ⟨k, f⟩ := x
      rw [e] at z
      by_cases c2 : k ≤ B
      · replace z : (if k ≤ B then some (h.1 + 1, va_up h.2 h.1 (.inl (k, f))) else none) = some h1 := z
        rw [if_pos c2] at z
        exact ⟨k, f, c, rfl, c2, (Option.some.inj z).symm⟩
      · replace z : (if k ≤ B then some (h.1 + 1, va_up h.2 h.1 (.inl (k, f))) else none) = some h1 := z
        rw [if_neg c2] at z; cases z
    | inr x => rw [e] at z; cases z
  · rw [if_neg c] at z; cases z
theorem zs_st_wf {h h1 : zs_H} (w : zs_wf h) {q : Nat} {i v : Int32} (z : zs_st h q i v = some h1) : zs_wf h1 ∧ h1.1 = h.1 := by
  obtain ⟨k, f, h1, h2, h3, rfl⟩ := zs_st_of z
  refine ⟨fun j hj k2 g he u v2 hv => ?_, rfl⟩
  by_cases c : j = q
  · subst c
    replace he : va_up h.2 j (.inl (k, upd f i.toNatClampNeg v)) j = .inr (k2, g) := he
    unfold va_up at he
    rw [if_pos rfl] at he
    cases he
  · replace he : va_up h.2 q (.inl (k, upd f i.toNatClampNeg v)) j = .inr (k2, g) := he
    unfold va_up at he
    rw [if_neg c] at he
    exact w j hj k2 g he u v2 hv
theorem zs_str_wf {h h1 : zs_H} (w : zs_wf h) {q r : Nat} {i : Int32} (z : zs_str h q i r = some h1) : zs_wf h1 ∧ h1.1 = h.1 := by
  obtain ⟨k, g0, x, h1, h2, h3, h4, h5, rfl⟩ := zs_str_of z
  refine ⟨fun j hj k2 g he u v2 hv => ?_, rfl⟩
  replace he : va_up h.2 q (.inr (k, va_up g0 i.toNatClampNeg (some r))) j = .inr (k2, g) := he
  unfold va_up at he
  by_cases c : j = q
  · subst c
    rw [if_pos rfl] at he
    have e := Sum.inr.inj he
    have e2 := congrArg Prod.snd e
    replace e2 : (fun j => if j = i.toNatClampNeg then some r else g0 j) = g := e2
    rw [← e2] at hv
    by_cases c3 : u = i.toNatClampNeg
    · replace hv : (if u = i.toNatClampNeg then some r else g0 u) = some v2 := hv
      rw [if_pos c3] at hv
      exact (Option.some.inj hv) ▸ h2
    · replace hv : (if u = i.toNatClampNeg then some r else g0 u) = some v2 := hv
      rw [if_neg c3] at hv
      exact w j hj k g0 h3 u v2 hv
  · rw [if_neg c] at he
    exact w j hj k2 g he u v2 hv
theorem zs_push_wf {h : zs_H} (w : zs_wf h) {e : zs_E} (he : ∀ (k : Nat) (g : Nat → Option Nat), e = .inr (k, g) → ∀ j v, g j = some v → v < h.1 + 1) : zs_wf (h.1 + 1, va_up h.2 h.1 e) := by
  intro j hj k g hz u v hv
  replace hz : va_up h.2 h.1 e j = .inr (k, g) := hz
  unfold va_up at hz
  by_cases c : j = h.1
  · rw [if_pos c] at hz
    exact he k g hz u v hv
  · rw [if_neg c] at hz
    exact Nat.lt_succ_of_lt (w j (by have : j < h.1 + 1 := hj; omega) k g hz u v hv)
theorem zs_nwi_wf {h h1 : zs_H} (w : zs_wf h) {v : Int32} {B : Nat} (z : zs_nwi h v B = some h1) : zs_wf h1 ∧ h1.1 = h.1 + 1 := by
  obtain ⟨-, -, rfl⟩ := zs_nwi_of z
  exact ⟨zs_push_wf w (fun k g e => by cases e), rfl⟩
theorem zs_nwr_wf {h h1 : zs_H} (w : zs_wf h) {v : Int32} {B : Nat} (z : zs_nwr h v B = some h1) : zs_wf h1 ∧ h1.1 = h.1 + 1 := by
  obtain ⟨-, -, rfl⟩ := zs_nwr_of z
  exact ⟨zs_push_wf w (fun k g e j v hv => by cases e; cases hv), rfl⟩
theorem zs_cl_wf {h h1 : zs_H} (w : zs_wf h) {q B : Nat} (z : zs_cl h q B = some h1) : zs_wf h1 ∧ h1.1 = h.1 + 1 := by
  obtain ⟨k, f, -, -, -, rfl⟩ := zs_cl_of z
  exact ⟨zs_push_wf w (fun k g e => by cases e), rfl⟩
theorem zs_nwm_wf {h : zs_H} (w : zs_wf h) (a b : Nat) : zs_wf (zs_nwm h a b) := by
  intro j hj k g hz u v hv
  show v < h.1 + 1 + a
  replace hz : (if j < h.1 then h.2 j else if j = h.1 then (.inr (a, fun j => if j < a then some (h.1 + 1 + j) else none) : zs_E) else .inl (b, fun _ => 0)) = .inr (k, g) := hz
  by_cases c : j < h.1
  · rw [if_pos c] at hz
    have := w j c k g hz u v hv
    omega
  · rw [if_neg c] at hz
    by_cases c2 : j = h.1
    · rw [if_pos c2] at hz
      have e := congrArg Prod.snd (Sum.inr.inj hz)
      replace e : (fun j => if j < a then some (h.1 + 1 + j) else none) = g := e
      rw [← e] at hv
      replace hv : (if u < a then some (h.1 + 1 + u) else none) = some v := hv
      by_cases c3 : u < a
      · rw [if_pos c3] at hv
        have := Option.some.inj hv
        omega
      · rw [if_neg c3] at hv; cases hv
    · rw [if_neg c2] at hz; cases hz
/-! the world -/
theorem zs_row_congr {cy : Nat → ClassId} {ad ad2 : Nat → Nat} {h : zs_H} (w : zs_wf h) (ha : ∀ i, i < h.1 → ad2 i = ad i) {i : Nat} (hi : i < h.1) : zs_row cy ad2 (h.2 i) = zs_row cy ad (h.2 i) := by
  cases e : h.2 i with
  | inl x => rfl
  | inr x =>
    obtain ⟨k, g⟩ := x
    show (.inl (cy 1, k, .inr (.inr (.inr (.inr (fun j => (g j).map ad2))))) : va_E) = .inl (cy 1, k, .inr (.inr (.inr (.inr (fun j => (g j).map ad)))))
    have : (fun j => (g j).map ad2) = (fun j => (g j).map ad) := by
      funext j
      cases ej : g j with
      | none => rfl
      | some v =>
        show some (ad2 v) = some (ad v)
        rw [ha v (w i hi k g e j v ej)]
    rw [this]
theorem zs_rows_congr {cy : Nat → ClassId} {ad ad2 : Nat → Nat} {h : zs_H} (w : zs_wf h) (ha : ∀ i, i < h.1 → ad2 i = ad i) : zs_rows cy ad2 h = zs_rows cy ad h := by
  unfold zs_rows
  refine List.map_congr_left (fun i hi => ?_)
  have hi' := List.mem_range.mp hi
  rw [ha i hi', zs_row_congr w ha hi']
theorem zs_obj_congr {ad ad2 : Nat → Nat} {G : FN} {F : Nat → Nat} {h : zs_H} (hf : zs_fs F h) (ha : ∀ i, i < h.1 → ad2 i = ad i) : zs_obj ad2 G F = zs_obj ad G F := by
  unfold zs_obj
  rw [ha _ (hf 5), ha _ (hf 6), ha _ (hf 7), ha _ (hf 8), ha _ (hf 9), ha _ (hf 10), ha _ (hf 11)]
theorem zs_rows_len {cy : Nat → ClassId} {ad : Nat → Nat} {h : zs_H} : (zs_rows cy ad h).length = h.1 := by
  unfold zs_rows
  rw [List.length_map, List.length_range]
theorem zs_rows_get {cy : Nat → ClassId} {ad : Nat → Nat} {h : zs_H} {Q : va_W} {i : Nat} (hi : i < h.1) : (Q ++ zs_rows cy ad h)[Q.length + i]? = some (ad i, zs_row cy ad (h.2 i)) := by
  rw [List.getElem?_append_right (Nat.le_add_right _ _), Nat.add_sub_cancel_left]
  unfold zs_rows
  rw [List.getElem?_map, List.getElem?_range hi]
  rfl
theorem zs_rows_set {cy : Nat → ClassId} {ad : Nat → Nat} {h : zs_H} {Q : va_W} {i : Nat} {e : zs_E} : (Q ++ zs_rows cy ad h).set (Q.length + i) (ad i, zs_row cy ad e) = Q ++ zs_rows cy ad (h.1, va_up h.2 i e) := by
  rw [List.set_append_right _ _ (Nat.le_add_right _ _), Nat.add_sub_cancel_left]
  congr 1
  unfold zs_rows
  refine List.ext_getElem? (fun j => ?_)
  show _ = ((List.range h.1).map (fun k => (ad k, zs_row cy ad (va_up h.2 i e k))))[j]?
  by_cases hj : j < h.1
  · rw [List.getElem?_map, List.getElem?_range hj]
    by_cases c : i = j
    · subst c
      rw [List.getElem?_set_self (by rw [List.length_map, List.length_range]; exact hj)]
      show _ = some (ad i, zs_row cy ad (if i = i then e else h.2 i))
      rw [if_pos rfl]
    · rw [List.getElem?_set_ne c, List.getElem?_map, List.getElem?_range hj]
      show some (ad j, zs_row cy ad (h.2 j)) = some (ad j, zs_row cy ad (if j = i then e else h.2 j))
      rw [if_neg (fun q => c q.symm)]
  · rw [List.getElem?_eq_none (by rw [List.length_set, List.length_map, List.length_range]; omega), List.getElem?_eq_none (by rw [List.length_map, List.length_range]; omega)]
theorem zs_rows_push {cy : Nat → ClassId} {ad ad2 : Nat → Nat} {h : zs_H} (w : zs_wf h) {Q : va_W} {q : Nat} {e : zs_E} (ha : ∀ i, i < h.1 → ad2 i = ad i) (hq : ad2 h.1 = q) : (Q ++ zs_rows cy ad h) ++ [(q, zs_row cy ad2 e)] = Q ++ zs_rows cy ad2 (h.1 + 1, va_up h.2 h.1 e) := by
  rw [List.append_assoc, ← zs_rows_congr w ha]
  congr 1
  unfold zs_rows
  show _ = (List.range (h.1 + 1)).map (fun k => (ad2 k, zs_row cy ad2 (va_up h.2 h.1 e k)))
  rw [List.range_succ, List.map_append]
  congr 1
  · refine List.map_congr_left (fun i hi => ?_)
    have hi' := List.mem_range.mp hi
    show _ = (ad2 i, zs_row cy ad2 (if i = h.1 then e else h.2 i))
    rw [if_neg (by omega)]
  · show _ = [(ad2 h.1, zs_row cy ad2 (if h.1 = h.1 then e else h.2 h.1))]
    rw [if_pos rfl, hq]
theorem zs_fs_le {F : Nat → Nat} {h h1 : zs_H} (hf : zs_fs F h) (hl : h.1 ≤ h1.1) : zs_fs F h1 := fun k => Nat.lt_of_lt_of_le (hf k) hl
theorem zs_fs_up {F : Nat → Nat} {h : zs_H} (hf : zs_fs F h) {k v : Nat} (hv : v < h.1) : zs_fs (va_up F k v) h := fun j => by
  unfold va_up
  by_cases c : j = k
  · rw [if_pos c]; exact hv
  · rw [if_neg c]; exact hf j
theorem zs_at {P : va_W} {cy : Nat → ClassId} {hs : Nat} {ad : Nat → Nat} {G : FN} {F : Nat → Nat} {h : zs_H} : (zs_W P cy hs ad G F h)[P.length]? = some (hs, .inr (6, zs_obj ad G F)) := by
  unfold zs_W
  rw [List.getElem?_append_left (by rw [List.length_append]; exact Nat.lt_succ_self _), List.getElem?_append_right (Nat.le_refl _), Nat.sub_self]
  rfl
theorem zs_set {P : va_W} {cy : Nat → ClassId} {hs : Nat} {ad : Nat → Nat} {G G2 : FN} {F F2 : Nat → Nat} {h : zs_H} {vs : List Value} (e : vs = zs_obj ad G2 F2) : (zs_W P cy hs ad G F h).set P.length (hs, .inr (6, vs)) = zs_W P cy hs ad G2 F2 h := by
  subst e
  unfold zs_W
  rw [List.set_append_left _ _ (by rw [List.length_append]; exact Nat.lt_succ_self _), List.set_append_right _ _ (Nat.le_refl _), Nat.sub_self]
  rfl
end
section
section ZSX
variable {p : Program} {l : Launch} {e : Env} {R : Room} {s : State} {m : MethodId} {args : Array Value} {below : List Frame} {meth : Method} {c : Code} {H : Heap} {locs : List Loc} {cells slots : Nat} {Q : State → Prop}
variable {cc : ByteArray} {pc : Nat} {ls : Array Slot} {rest : List Value} {D : va_G} {A : Nat → Prop} {cy : Nat → ClassId} {H0 : Heap} {ad : Nat → Nat} {h h1 : zs_H} {X P : va_W} {hs : Nat} {G : FN} {F : Nat → Nat}
theorem sx_ld (hx : p.tables.exec = Jvm.exec) (hb : c.code = cc) (hK : va_K D vwCl (tyW cy) s) (hP : va_P D vwCl (X ++ zs_rows cy ad h) H) {q : Nat} {i v : Int32} (hz : zs_ld h q i = some v) (hdg : decode cc pc = .ok (.iaload, 1))
    (kk : W p l e R s m args below meth c H locs cells slots Q (F0 m (pc + 1) ls (.int v :: rest))) : W p l e R s m args below meth c H locs cells slots Q (F0 m pc ls (.int i :: .ref (ad q) :: rest)) := by
  obtain ⟨k, f, h1, h2, h3, rfl⟩ := zs_ld_of hz
  exact va_iald hx hb hK hP (X.length + q) 0 (by rw [zs_rows_get h1, h2]; rfl) rfl h3 hdg kk
theorem sx_ldr (hx : p.tables.exec = Jvm.exec) (hb : c.code = cc) (hK : va_K D vwCl (tyW cy) s) (hP : va_P D vwCl (X ++ zs_rows cy ad h) H) {q v : Nat} {i : Int32} (hz : zs_ldr h q i = some v) (hdg : decode cc pc = .ok (.aaload, 1))
    (kk : W p l e R s m args below meth c H locs cells slots Q (F0 m (pc + 1) ls (.ref (ad v) :: rest))) : W p l e R s m args below meth c H locs cells slots Q (F0 m pc ls (.int i :: .ref (ad q) :: rest)) := by
  obtain ⟨k, g, h1, h2, h3, h4⟩ := zs_ldr_of hz
  exact va_aldA (v := .ref (ad v)) (f := fun j => (g j).map ad) hx hb hK hP (X.length + q) (by rw [zs_rows_get h1, h2]; rfl) h3 (by show va_rf ((g i.toNatClampNeg).map ad) = _; rw [h4]; rfl) hdg kk
theorem sx_len (hx : p.tables.exec = Jvm.exec) (hb : c.code = cc) (hK : va_K D vwCl (tyW cy) s) (hP : va_P D vwCl (X ++ zs_rows cy ad h) H) {q : Nat} {v : Int32} (hz : zs_len h q = some v) (hdg : decode cc pc = .ok (.arraylength, 1))
    (kk : W p l e R s m args below meth c H locs cells slots Q (F0 m (pc + 1) ls (.int v :: rest))) : W p l e R s m args below meth c H locs cells slots Q (F0 m pc ls (.ref (ad q) :: rest)) := by
  obtain ⟨h1, ⟨k, f, h2, h3⟩ | ⟨k, g, h2, h3⟩⟩ := zs_len_of hz
  · exact va_alen (v := v) (x := (k, .inl f)) (ty := .int) hx hb hK hP (X.length + q) 0 (by rw [zs_rows_get h1, h2]; rfl) rfl h3 hdg kk
  · exact va_alen (v := v) (x := (k, .inr (.inr (.inr (.inr (fun j => (g j).map ad)))))) (ty := .array .int) hx hb hK hP (X.length + q) 1 (by rw [zs_rows_get h1, h2]; rfl) rfl h3 hdg kk
theorem sx_st (hx : p.tables.exec = Jvm.exec) (hb : c.code = cc) (hK : va_K D vwCl (tyW cy) s) (hP : va_P D vwCl (X ++ zs_rows cy ad h) H) (hD : va_D A (X ++ zs_rows cy ad h)) (hS : va_S A H0 H locs) {q : Nat} {i v : Int32} (hz : zs_st h q i v = some h1) (hdg : decode cc pc = .ok (.iastore, 1))
    (kk : ∀ (H1 : Heap) (locs1 : List Loc), va_P D vwCl (X ++ zs_rows cy ad h1) H1 → va_D A (X ++ zs_rows cy ad h1) → va_S A H0 H1 locs1 → W p l e R s m args below meth c H1 locs1 cells slots Q (F0 m (pc + 1) ls rest)) : W p l e R s m args below meth c H locs cells slots Q (F0 m pc ls (.int v :: .int i :: .ref (ad q) :: rest)) := by
  obtain ⟨k, f, g1, g2, g3, rfl⟩ := zs_st_of hz
  refine va_iast hx hb hK hP hD hS (X.length + q) 0 (n := k) (f := f) (by rw [zs_rows_get g1, g2]; rfl) rfl g3 hdg (fun H1 locs1 a1 a2 a3 => ?_)
  have e1 : (X ++ zs_rows cy ad h).set (X.length + q) (ad q, .inl (cy 0, k, .inl (upd f i.toNatClampNeg v))) = _ := zs_rows_set (cy := cy) (ad := ad) (h := h) (Q := X) (i := q) (e := .inl (k, upd f i.toNatClampNeg v))
  rw [e1] at a1 a2
  exact kk H1 locs1 a1 a2 a3
theorem sx_str (hx : p.tables.exec = Jvm.exec) (hb : c.code = cc) (hK : va_K D vwCl (tyW cy) s) (hAA : AOA s) (hP : va_P D vwCl (X ++ zs_rows cy ad h) H) (hD : va_D A (X ++ zs_rows cy ad h)) (hS : va_S A H0 H locs) {q r : Nat} {i : Int32} (hz : zs_str h q i r = some h1) (hdg : decode cc pc = .ok (.aastore, 1))
    (kk : ∀ (H1 : Heap) (locs1 : List Loc), va_P D vwCl (X ++ zs_rows cy ad h1) H1 → va_D A (X ++ zs_rows cy ad h1) → va_S A H0 H1 locs1 → W p l e R s m args below meth c H1 locs1 cells slots Q (F0 m (pc + 1) ls rest)) : W p l e R s m args below meth c H locs cells slots Q (F0 m pc ls (.ref (ad r) :: .int i :: .ref (ad q) :: rest)) := by
  obtain ⟨k, g, x, g1, g0, g2, g3, g4, rfl⟩ := zs_str_of hz
  refine va_astA hx hb hK hAA hP hD hS (X.length + q) (X.length + r) (n := k) (x := (x.1, .inl x.2)) (f := fun j => (g j).map ad) (by rw [zs_rows_get g1, g2]; rfl) (by rw [zs_rows_get g0, g3]; rfl) g4 hdg (fun H1 locs1 a1 a2 a3 => ?_)
  have e0 : va_up (fun j => (g j).map ad) i.toNatClampNeg (some (ad r)) = fun j => (va_up g i.toNatClampNeg (some r) j).map ad := by
    funext j
    unfold va_up
    by_cases cj : j = i.toNatClampNeg
    · rw [if_pos cj, if_pos cj]; rfl
    · rw [if_neg cj, if_neg cj]
  have e1 : (X ++ zs_rows cy ad h).set (X.length + q) (ad q, .inl (cy 1, k, .inr (.inr (.inr (.inr (fun j => (va_up g i.toNatClampNeg (some r) j).map ad)))))) = _ := zs_rows_set (cy := cy) (ad := ad) (h := h) (Q := X) (i := q) (e := .inr (k, va_up g i.toNatClampNeg (some r)))
  rw [e0, e1] at a1 a2
  exact kk H1 locs1 a1 a2 a3
theorem zs_up_ne {q n : Nat} : ∀ i, i < n → (va_up ad n q) i = ad i := fun i hi => if_neg (by omega)
/-- new rows: their places are new -/
theorem sx_nwi (hx : p.tables.exec = Jvm.exec) (hb : c.code = cc) (harr : (Cond.arrayClass .int).before args s = true) (hK : va_K D vwCl (tyW cy) s) (hw : zs_wf h) (hP : va_P D vwCl (X ++ zs_rows cy ad h) H) (hD : va_D A (X ++ zs_rows cy ad h)) (hS : va_S A H0 H locs) (hA : ∀ q, H0.size ≤ q → A q) {v : Int32} {B : Nat} (hz : zs_nwi h v B = some h1) (hB : B * 4 ≤ 536870912) (hc : cells + 1 ≤ R.cells) (hsl : slots + B ≤ R.slots) (hdg : decode cc pc = .ok (.newarray .int, 2))
    (kk : ∀ (a2 : Nat → Nat) (H1 : Heap), (∀ i, i < h.1 → a2 i = ad i) → va_P D vwCl (X ++ zs_rows cy a2 h1) H1 → va_D A (X ++ zs_rows cy a2 h1) → va_S A H0 H1 locs → W p l e R s m args below meth c H1 locs (cells + 1) (slots + B) Q (F0 m (pc + 2) ls (.ref (a2 h.1) :: rest))) : W p l e R s m args below meth c H locs cells slots Q (F0 m pc ls (.int v :: rest)) := by
  obtain ⟨g1, g2, rfl⟩ := zs_nwi_of hz
  refine va_newa (atype := .int) hx hb harr rfl hK hP hD hS hA (a0 := (v.toNatClampNeg, .inl (fun _ => 0))) (fun _ => rfl) g1 rfl (Nat.le_trans (Nat.mul_le_mul_right 4 g2) hB) hc (Nat.le_trans (Nat.add_le_add_left g2 _) hsl) hdg (fun q cA H1 hK2 hP hD hS => ?_)
  obtain rfl := kcls hK2 0 rfl (fun h1 h2 => Option.some.inj (h1.symm.trans h2))
  have e1 : (X ++ zs_rows cy ad h) ++ [(q, .inl (cy 0, v.toNatClampNeg, .inl (fun _ => 0)))] = _ := zs_rows_push (cy := cy) (ad := ad) (ad2 := va_up ad h.1 q) hw (Q := X) (q := q) (e := .inl (v.toNatClampNeg, fun _ => 0)) zs_up_ne (if_pos rfl)
  rw [e1] at hP hD
  have e2 : va_up ad h.1 q h.1 = q := if_pos rfl
  refine W.widen (Nat.le_refl _) (Nat.add_le_add_left g2 _) ?_
  have := kk (va_up ad h.1 q) H1 zs_up_ne hP hD hS
  rw [e2] at this
  exact this
theorem sx_nwr (hx : p.tables.exec = Jvm.exec) (hb : c.code = cc) {own : String} {index : Nat} (hown : s.vm.findClass own = some m.cls) (hclink : (Cond.classLink own index "[I").before args s = true) (hAA : AOA s) (hK : va_K D vwCl (tyW cy) s) (hw : zs_wf h) (hP : va_P D vwCl (X ++ zs_rows cy ad h) H) (hD : va_D A (X ++ zs_rows cy ad h)) (hS : va_S A H0 H locs) (hA : ∀ q, H0.size ≤ q → A q) {v : Int32} {B : Nat} (hz : zs_nwr h v B = some h1) (hB : B * 4 ≤ 536870912) (hc : cells + 1 ≤ R.cells) (hsl : slots + B ≤ R.slots) (hdg : decode cc pc = .ok (.anewarray index, 3))
    (kk : ∀ (a2 : Nat → Nat) (H1 : Heap), (∀ i, i < h.1 → a2 i = ad i) → va_P D vwCl (X ++ zs_rows cy a2 h1) H1 → va_D A (X ++ zs_rows cy a2 h1) → va_S A H0 H1 locs → W p l e R s m args below meth c H1 locs (cells + 1) (slots + B) Q (F0 m (pc + 3) ls (.ref (a2 h.1) :: rest))) : W p l e R s m args below meth c H locs cells slots Q (F0 m pc ls (.int v :: rest)) := by
  obtain ⟨g1, g2, rfl⟩ := zs_nwr_of hz
  refine va_newA (N' := v.toNatClampNeg) hx hb hown hclink hAA hK hP hD hS hA g1 rfl (Nat.le_trans (Nat.mul_le_mul_right 4 g2) hB) hc (Nat.le_trans (Nat.add_le_add_left g2 _) hsl) hdg (fun q H1 hP hD hS => ?_)
  have e1 : (X ++ zs_rows cy ad h) ++ [(q, .inl (cy 1, v.toNatClampNeg, .inr (.inr (.inr (.inr (fun _ => none))))))] = _ := zs_rows_push (cy := cy) (ad := ad) (ad2 := va_up ad h.1 q) hw (Q := X) (q := q) (e := .inr (v.toNatClampNeg, fun _ => none)) zs_up_ne (if_pos rfl)
  rw [e1] at hP hD
  have e2 : va_up ad h.1 q h.1 = q := if_pos rfl
  refine W.widen (Nat.le_refl _) (Nat.add_le_add_left g2 _) ?_
  have := kk (va_up ad h.1 q) H1 zs_up_ne hP hD hS
  rw [e2] at this
  exact this
/-- a row's clone -/
theorem sx_cl (hx : p.tables.exec = Jvm.exec) (hb : c.code = cc) (hml : c.maxLocals = ls.size) {own : String} {index : Nat} (hown : s.vm.findClass own = some m.cls) (ht1 : (Cond.methodLink own index ⟨"[I", "clone", "()Ljava/lang/Object;"⟩).before args s = true) (ht2 : (Cond.sameMethod "[I" "java/lang/Object" "clone" "()Ljava/lang/Object;").before args s = true) (ht3 : (Cond.native ⟨"java/lang/Object", "clone", "()Ljava/lang/Object;"⟩).before args s = true) (ht4 : (Cond.instanceMethod ⟨"java/lang/Object", "clone", "()Ljava/lang/Object;"⟩).before args s = true) (ht5 : (Cond.selects "[I" ⟨"[I", "clone", "()Ljava/lang/Object;"⟩ ⟨"java/lang/Object", "clone", "()Ljava/lang/Object;"⟩).before args s = true) (hnw : va_Nw (.castable "[I" "java/lang/Cloneable") s)
    (hK : va_K D vwCl (tyW cy) s) (hw : zs_wf h) (hP : va_P D vwCl (X ++ zs_rows cy ad h) H) (hD : va_D A (X ++ zs_rows cy ad h)) (hS : va_S A H0 H locs) (hA : ∀ q, H0.size ≤ q → A q) {q0 B : Nat} (hz : zs_cl h q0 B = some h1) (hR1 : 1 ≤ R.frames) (hR2 : (rest.map fun v => v.category).sum + 14 ≤ R.locals) (hc : cells + 1 ≤ R.cells) (hsl : slots + B ≤ R.slots) (hdg : decode cc pc = .ok (.invokevirtual index, 3))
    (kk : ∀ (a2 : Nat → Nat) (H1 : Heap), (∀ i, i < h.1 → a2 i = ad i) → va_P D vwCl (X ++ zs_rows cy a2 h1) H1 → va_D A (X ++ zs_rows cy a2 h1) → va_S A H0 H1 locs → W p l e R s m args below meth c H1 locs (cells + 1) (slots + B) Q (F0 m (pc + 3) ls (.ref (a2 h.1) :: rest))) : W p l e R s m args below meth c H locs cells slots Q (F0 m pc ls (.ref (ad q0) :: rest)) := by
  obtain ⟨k, f, g0, g1, g2, rfl⟩ := zs_cl_of hz
  refine va_clone (own := own) (ad := "[I") (x := (k, .inl f)) (ty := .int) hx hb hml hown ht1 ht2 ht3 ht4 ht5 hnw hK hP hD hS hA (X.length + q0) 0 (by rw [zs_rows_get g0, g1]; rfl) rfl (show s.vm.findClass "[I" = some (cy 0) from (hK.2 0 _ rfl).2) (kfit _ _ _) hR1 hR2 hc (Nat.le_trans (Nat.add_le_add_left g2 _) hsl) hdg (fun q H1 _ hP hD hS => ?_)
  have e1 : (X ++ zs_rows cy ad h) ++ [(q, .inl (cy 0, k, .inl f))] = _ := zs_rows_push (cy := cy) (ad := ad) (ad2 := va_up ad h.1 q) hw (Q := X) (q := q) (e := .inl (k, f)) zs_up_ne (if_pos rfl)
  rw [e1] at hP hD
  have e2 : va_up ad h.1 q h.1 = q := if_pos rfl
  refine W.widen (Nat.le_refl _) (Nat.add_le_add_left g2 _) ?_
  have := kk (va_up ad h.1 q) H1 zs_up_ne hP hD hS
  rw [e2] at this
  exact this
/-- rows of rows, made at once -/
theorem sx_nwm (hx : p.tables.exec = Jvm.exec) (hb : c.code = cc) {own : String} {index : Nat} (hown : s.vm.findClass own = some m.cls) (hclink : (Cond.classLink own index "[[I").before args s = true) (hAA : AOA s) (harr : (Cond.arrayClass .int).before args s = true) (hK : va_K D vwCl (tyW cy) s) (hw : zs_wf h) (hP : va_P D vwCl (X ++ zs_rows cy ad h) H) (hD : va_D A (X ++ zs_rows cy ad h)) (hS : va_S A H0 H locs) (hA : ∀ q, H0.size ≤ q → A q) {v w : Int32} {a b : Nat} (hv : ¬ v < 0) (hw2 : ¬ w < 0) (hva : v.toNatClampNeg = a) (hwb : w.toNatClampNeg = b) (hb1 : a * 4 ≤ 536870912) (hb2 : b * 4 ≤ 536870912) (hc : cells + (1 + a) ≤ R.cells) (hsl : slots + (a + a * b) ≤ R.slots) (hdg : decode cc pc = .ok (.multianewarray index 2, 4))
    (kk : ∀ (a2 : Nat → Nat) (H1 : Heap), (∀ i, i < h.1 → a2 i = ad i) → va_P D vwCl (X ++ zs_rows cy a2 (zs_nwm h a b)) H1 → va_D A (X ++ zs_rows cy a2 (zs_nwm h a b)) → va_S A H0 H1 locs → W p l e R s m args below meth c H1 locs (cells + 1 + a) (slots + a + a * b) Q (F0 m (pc + 4) ls (.ref (a2 h.1) :: rest))) : W p l e R s m args below meth c H locs cells slots Q (F0 m pc ls (.int w :: .int v :: rest)) := by
  refine va_mna (X := X ++ zs_rows cy ad h) (L := []) (f := fun _ => .inr (0, [])) (ty := .int) (cy := cy 0) (N' := a) (K' := b) (z := (b, .inl (fun _ => 0))) hx hb hown hclink hAA harr (hK.2 0 _ rfl).2 hK (by show va_P D vwCl ((X ++ zs_rows cy ad h) ++ []) H; rw [List.append_nil]; exact hP) (by show va_D A ((X ++ zs_rows cy ad h) ++ []); rw [List.append_nil]; exact hD) hS hA hv hw2 hva hwb hb1 hb2 (Nat.le_trans (Nat.le_mul_of_pos_right b (by decide : 0 < 4)) hb2) rfl rfl hc hsl (fun c9 => ?_) hdg (fun q r cA H1 hr _ hK2 hP hD hS => ?_)
  · show ({ cls := c9, slots := Array.replicate b (.int 0), vm := .none } : Cell) = arrV c9 b (fun j => .int 0)
    exact arrV_new c9 b (.int 0)
  · obtain rfl := kcls hK2 1 rfl (fun h1 h2 => Option.some.inj (h1.symm.trans h2))
    let a2 : Nat → Nat := fun i => if i < h.1 then ad i else if i = h.1 then q else r (i - h.1 - 1)
    have ha : ∀ i, i < h.1 → a2 i = ad i := fun i hi => if_pos hi
    have h0 : a2 h.1 = q := by
      show (if h.1 < h.1 then ad h.1 else if h.1 = h.1 then q else r (h.1 - h.1 - 1)) = q
      rw [if_neg (Nat.lt_irrefl _), if_pos rfl]
    have hr2 : ∀ j, a2 (h.1 + 1 + j) = r j := fun j => by
      show (if h.1 + 1 + j < h.1 then ad (h.1 + 1 + j) else if h.1 + 1 + j = h.1 then q else r (h.1 + 1 + j - h.1 - 1)) = r j
      rw [if_neg (by omega), if_neg (by omega), show h.1 + 1 + j - h.1 - 1 = j by omega]
    have e1 : ((X ++ zs_rows cy ad h) ++ [(q, .inl (cy 1, a, .inr (.inr (.inr (.inr (fun i => if i < a then some (r i) else none))))))]) ++ va_pl ([] ++ (List.range a).map r) (vr_up (fun _ => .inr (0, [])) ((List.range a).map r) (.inl (cy 0, (b, .inl (fun _ => 0))))) = X ++ zs_rows cy a2 (zs_nwm h a b) := by
      rw [List.append_assoc, List.append_assoc, ← zs_rows_congr hw ha]
      congr 1
      unfold zs_rows
      show _ = (List.range (h.1 + 1 + a)).map (fun k => (a2 k, zs_row cy a2 ((zs_nwm h a b).2 k)))
      rw [Nat.add_assoc, List.range_add, List.map_append, List.map_map]
      congr 1
      · refine List.map_congr_left (fun i hi => ?_)
        have hi' := List.mem_range.mp hi
        show _ = (a2 i, zs_row cy a2 (if i < h.1 then h.2 i else _))
        rw [if_pos hi']
      · rw [Nat.add_comm 1 a, List.range_succ_eq_map, List.map_cons, List.map_map]
        show _ :: _ = _ :: _
        refine congr (congrArg List.cons ?_) ?_
        · show _ = (a2 (h.1 + 0), zs_row cy a2 (if h.1 + 0 < h.1 then h.2 (h.1 + 0) else if h.1 + 0 = h.1 then _ else _))
          rw [Nat.add_zero, if_neg (Nat.lt_irrefl _), if_pos rfl, h0]
          show (q, (.inl (cy 1, a, .inr (.inr (.inr (.inr (fun i => if i < a then some (r i) else none))))) : va_E)) = (q, .inl (cy 1, a, .inr (.inr (.inr (.inr (fun j => (if j < a then some (h.1 + 1 + j) else none).map a2))))))
          have : (fun i => if i < a then some (r i) else none) = (fun j => (if j < a then some (h.1 + 1 + j) else none).map a2) := by
            funext j
            by_cases c3 : j < a
            · rw [if_pos c3, if_pos c3]
              show some (r j) = some (a2 (h.1 + 1 + j))
              rw [hr2]
            · rw [if_neg c3, if_neg c3]; rfl
          rw [this]
        · unfold va_pl
          rw [List.nil_append, List.map_map]
          refine List.map_congr_left (fun i hi => ?_)
          show (r i, vr_up _ _ _ (r i)) = (a2 (h.1 + (i + 1)), zs_row cy a2 (if h.1 + (i + 1) < h.1 then _ else if h.1 + (i + 1) = h.1 then _ else .inl (b, fun _ => 0)))
          rw [if_neg (by omega), if_neg (by omega), vr_up_in (List.mem_map.mpr ⟨i, hi, rfl⟩), show h.1 + (i + 1) = h.1 + 1 + i by omega, hr2]
          rfl
    rw [e1] at hP hD
    have := kk a2 H1 ha hP hD hS
    rw [h0] at this
    exact this
end ZSX
/-! at the law's object: what a field holds, and new rows -/
section ZSW
variable {p : Program} {l : Launch} {e : Env} {R : Room} {s : State} {m : MethodId} {args : Array Value} {below : List Frame} {meth : Method} {c : Code} {H : Heap} {locs : List Loc} {cells slots : Nat} {Q : State → Prop}
variable {cc : ByteArray} {pc : Nat} {ls : Array Slot} {rest : List Value} {D : va_G} {A : Nat → Prop} {cy : Nat → ClassId} {H0 : Heap} {ad : Nat → Nat} {h h1 : zs_H} {P : va_W} {hs : Nat} {G : FN} {F : Nat → Nat}
/-- the world behind a making: the object's own references as they were -/
theorem zs_W_up {a2 : Nat → Nat} (hf : zs_fs F h) (ha : ∀ i, i < h.1 → a2 i = ad i) : (P ++ [(hs, .inr (6, zs_obj ad G F))]) ++ zs_rows cy a2 h1 = zs_W P cy hs a2 G F h1 := by
  unfold zs_W
  rw [zs_obj_congr hf ha]
end ZSW
end
section
/-! contracts whose end says more: u is what the heap has chosen (where new rows lie) -/
def zg_B (D : va_G) (tys : List (ClassId × FieldType)) (w : va_W) (sz : Nat) {U : Type} (w1 : U → va_W) : U → State → Prop := fun u t => va_P D vwCl (w1 u) t.heap ∧ va_K D vwCl tys t ∧ va_D (va_A w sz) (w1 u)
def zg_I (l : Launch) (D : va_G) (tys : List (ClassId × FieldType)) (sa : SAT) (y : MethodName) (ws : List Cond) (rm : Room) (As : List Value) (w : va_W) {U : Type} (post : Int32 → U → Prop) (w1 : U → va_W) (mc ms : Nat) : Prop := ∀ sz : Nat, Met l y ws rm (va_Pc As (KPc D tys sa w sz)) (va_Qi post (zg_B D tys w sz w1) (va_A w sz)) mc ms (va_A w sz)
def zg_V (l : Launch) (D : va_G) (tys : List (ClassId × FieldType)) (sa : SAT) (y : MethodName) (ws : List Cond) (rm : Room) (As : List Value) (w : va_W) {U : Type} (post : U → Prop) (w1 : U → va_W) (mc ms : Nat) : Prop := ∀ sz : Nat, Met l y ws rm (va_Pc As (KPc D tys sa w sz)) (va_Qv post (zg_B D tys w sz w1) (va_A w sz)) mc ms (va_A w sz)
def zg_R (l : Launch) (D : va_G) (tys : List (ClassId × FieldType)) (sa : SAT) (y : MethodName) (ws : List Cond) (rm : Room) (As : List Value) (w : va_W) {U : Type} (post : U → Prop) (pa : U → Nat) (w1 : U → va_W) (mc ms : Nat) : Prop := ∀ sz : Nat, Met l y ws rm (va_Pc As (KPc D tys sa w sz)) (va_Qr post (fun u a t => a = pa u ∧ zg_B D tys w sz w1 u t) (va_A w sz)) mc ms (va_A w sz)
section ZGO
variable {l : Launch} {D : va_G} {tys : List (ClassId × FieldType)} {sa : SAT} {y : MethodName} {ws ws' : List Cond} {rm : Room} {As : List Value} {w : va_W} {U : Type} {w1 : U → va_W} {mc ms : Nat} {cc : ByteArray} {maxL : Nat}
theorem zg_I.of {post : Int32 → U → Prop} (hy : plainName y.cls = true) (hw : ws = Cond.code y cc maxL (some .int) :: ws') (hlen : (lg_sl As).length ≤ maxL)
    (body : ∀ (p : Program) (e : Env) (s : State) (m : MethodId) (args : Array Value) (below : List Frame) (meth : Method) (c : Code) (A : Nat → Prop) (ls : Array Slot) (Q : State → Prop), KEn D tys sa y ws cc maxL As w p s m args meth c A ls →
      (∀ (H : Heap) (locs : List Loc) (cells slots pc : Nat) (ls : Array Slot) (r : Int32) (u : U), decode cc pc = .ok (.ireturn, 1) → post r u → va_P D vwCl (w1 u) H → va_D A (w1 u) → va_S A s.heap H locs → cells ≤ mc → slots ≤ ms → W p l e rm s m args below meth c H locs cells slots Q (F0 m pc ls [.int r])) →
      W p l e rm s m args below meth c s.heap [] 0 0 Q (F0 m 0 ls [])) : zg_I l D tys sa y ws rm As w post w1 mc ms := by
  intro sz
  refine Met.ofW (cc := cc) (maxL := maxL) (ret := some .int) hy hw ?_
  intro p e s m args below meth c s₁ B hml hv
  obtain ⟨rfl, hsz, hP, hK, hD0, hG⟩ := hv
  have hx := B.exec
  have hb := B.bytes
  have hr := B.returns
  have hts := atoms_spec (ws := ws) B.pre
  have hown : s.vm.findClass y.cls = some m.cls := findClass_of_methodNamed B.named
  have hnm := (name_of_methodNamed B.named B.method).1
  subst hsz
  have hD := hD0.self (sz := s.heap.size)
  have hl := lv_entry As (n := maxL) hlen
  rw [lg_entry_eq]
  refine body p e s m _ below meth c (va_A w s.heap.size) _ _ ⟨hx, hb, hml, hown, hts, fun q h => Or.inr h, hP, hK, hD, hG, hl, hnm⟩ ?_
  intro H locs cells slots pc ls r u hdg hp hP1 hD1 hS h1 h2
  refine W.widen (k := mc) (n := ms) h1 h2 ?_
  exact W.iret (v := r) hx hb hr (fun t ht hW => ⟨⟨r, u, rfl, hp, by rw [ht]; exact hP1, va_K.moved hW.alike hK, hD1⟩, hS.F ht⟩) hS.2.2 hdg
theorem zg_I.ofZ {post : Int32 → U → Prop} (hy : plainName y.cls = true) (hw : ws = Cond.code y cc maxL (some .boolean) :: ws') (hlen : (lg_sl As).length ≤ maxL)
    (body : ∀ (p : Program) (e : Env) (s : State) (m : MethodId) (args : Array Value) (below : List Frame) (meth : Method) (c : Code) (A : Nat → Prop) (ls : Array Slot) (Q : State → Prop), KEn D tys sa y ws cc maxL As w p s m args meth c A ls →
      (∀ (H : Heap) (locs : List Loc) (cells slots pc : Nat) (ls : Array Slot) (r : Int32) (u : U), narrow .boolean (.int r) = .int r → decode cc pc = .ok (.ireturn, 1) → post r u → va_P D vwCl (w1 u) H → va_D A (w1 u) → va_S A s.heap H locs → cells ≤ mc → slots ≤ ms → W p l e rm s m args below meth c H locs cells slots Q (F0 m pc ls [.int r])) →
      W p l e rm s m args below meth c s.heap [] 0 0 Q (F0 m 0 ls [])) : zg_I l D tys sa y ws rm As w post w1 mc ms := by
  intro sz
  refine Met.ofW (cc := cc) (maxL := maxL) (ret := some .boolean) hy hw ?_
  intro p e s m args below meth c s₁ B hml hv
  obtain ⟨rfl, hsz, hP, hK, hD0, hG⟩ := hv
  have hx := B.exec
  have hb := B.bytes
  have hr := B.returns
  have hts := atoms_spec (ws := ws) B.pre
  have hown : s.vm.findClass y.cls = some m.cls := findClass_of_methodNamed B.named
  have hnm := (name_of_methodNamed B.named B.method).1
  subst hsz
  have hD := hD0.self (sz := s.heap.size)
  have hl := lv_entry As (n := maxL) hlen
  rw [lg_entry_eq]
  refine body p e s m _ below meth c (va_A w s.heap.size) _ _ ⟨hx, hb, hml, hown, hts, fun q h => Or.inr h, hP, hK, hD, hG, hl, hnm⟩ ?_
  intro H locs cells slots pc ls r u hnr hdg hp hP1 hD1 hS h1 h2
  refine W.widen (k := mc) (n := ms) h1 h2 ?_
  exact W.zret (v := r) hx hb hr hnr (fun t ht hW => ⟨⟨r, u, rfl, hp, by rw [ht]; exact hP1, va_K.moved hW.alike hK, hD1⟩, hS.F ht⟩) hS.2.2 hdg
theorem zg_V.of {post : U → Prop} (hy : plainName y.cls = true) (hw : ws = Cond.code y cc maxL none :: ws') (hlen : (lg_sl As).length ≤ maxL)
    (body : ∀ (p : Program) (e : Env) (s : State) (m : MethodId) (args : Array Value) (below : List Frame) (meth : Method) (c : Code) (A : Nat → Prop) (ls : Array Slot) (Q : State → Prop), KEn D tys sa y ws cc maxL As w p s m args meth c A ls →
      (∀ (H : Heap) (locs : List Loc) (cells slots pc : Nat) (ls : Array Slot) (u : U), decode cc pc = .ok (.return_, 1) → post u → va_P D vwCl (w1 u) H → va_D A (w1 u) → va_S A s.heap H locs → cells ≤ mc → slots ≤ ms → W p l e rm s m args below meth c H locs cells slots Q (F0 m pc ls [])) →
      W p l e rm s m args below meth c s.heap [] 0 0 Q (F0 m 0 ls [])) : zg_V l D tys sa y ws rm As w post w1 mc ms := by
  intro sz
  refine Met.ofW (cc := cc) (maxL := maxL) (ret := none) hy hw ?_
  intro p e s m args below meth c s₁ B hml hv
  obtain ⟨rfl, hsz, hP, hK, hD0, hG⟩ := hv
  have hx := B.exec
  have hb := B.bytes
  have hr := B.returns
  have hts := atoms_spec (ws := ws) B.pre
  have hown : s.vm.findClass y.cls = some m.cls := findClass_of_methodNamed B.named
  have hnm := (name_of_methodNamed B.named B.method).1
  subst hsz
  have hD := hD0.self (sz := s.heap.size)
  have hl := lv_entry As (n := maxL) hlen
  rw [lg_entry_eq]
  refine body p e s m _ below meth c (va_A w s.heap.size) _ _ ⟨hx, hb, hml, hown, hts, fun q h => Or.inr h, hP, hK, hD, hG, hl, hnm⟩ ?_
  intro H locs cells slots pc ls u hdg hp hP1 hD1 hS h1 h2
  refine W.widen (k := mc) (n := ms) h1 h2 ?_
  exact W.vret hx hb hr (fun t ht hW => ⟨⟨u, rfl, hp, by rw [ht]; exact hP1, va_K.moved hW.alike hK, hD1⟩, hS.F ht⟩) hS.2.2 hdg
theorem zg_R.of {post : U → Prop} {pa : U → Nat} {rt : FieldType} (hrt : (∃ n, rt = .object n) ∨ ∃ t, rt = .array t) (hy : plainName y.cls = true) (hw : ws = Cond.code y cc maxL (some rt) :: ws') (hlen : (lg_sl As).length ≤ maxL)
    (body : ∀ (p : Program) (e : Env) (s : State) (m : MethodId) (args : Array Value) (below : List Frame) (meth : Method) (c : Code) (A : Nat → Prop) (ls : Array Slot) (Q : State → Prop), KEn D tys sa y ws cc maxL As w p s m args meth c A ls →
      (∀ (H : Heap) (locs : List Loc) (cells slots pc : Nat) (ls : Array Slot) (u : U), decode cc pc = .ok (.areturn, 1) → post u → va_P D vwCl (w1 u) H → va_D A (w1 u) → va_S A s.heap H locs → cells ≤ mc → slots ≤ ms → W p l e rm s m args below meth c H locs cells slots Q (F0 m pc ls [.ref (pa u)])) →
      W p l e rm s m args below meth c s.heap [] 0 0 Q (F0 m 0 ls [])) : zg_R l D tys sa y ws rm As w post pa w1 mc ms := by
  intro sz
  refine Met.ofW (cc := cc) (maxL := maxL) (ret := some rt) hy hw ?_
  intro p e s m args below meth c s₁ B hml hv
  obtain ⟨rfl, hsz, hP, hK, hD0, hG⟩ := hv
  have hx := B.exec
  have hb := B.bytes
  have hr := B.returns
  have hts := atoms_spec (ws := ws) B.pre
  have hown : s.vm.findClass y.cls = some m.cls := findClass_of_methodNamed B.named
  have hnm := (name_of_methodNamed B.named B.method).1
  subst hsz
  have hD := hD0.self (sz := s.heap.size)
  have hl := lv_entry As (n := maxL) hlen
  rw [lg_entry_eq]
  refine body p e s m _ below meth c (va_A w s.heap.size) _ _ ⟨hx, hb, hml, hown, hts, fun q h => Or.inr h, hP, hK, hD, hG, hl, hnm⟩ ?_
  intro H locs cells slots pc ls u hdg hp hP1 hD1 hS h1 h2
  refine W.widen (k := mc) (n := ms) h1 h2 ?_
  exact W.aret (v := .ref (pa u)) hx hb hr hrt (Or.inr ⟨_, rfl⟩) (fun t ht hW => ⟨⟨u, pa u, rfl, hp, rfl, by rw [ht]; exact hP1, va_K.moved hW.alike hK, hD1⟩, hS.F ht⟩) hS.2.2 hdg
end ZGO
/-! places: the first cells of a world, its last ones -/
theorem zp_map (a b : va_W) : (List.range a.length).map (fun i => (a ++ b)[i]?) = a.map some := by
  refine List.ext_getElem? (fun j => ?_)
  by_cases hj : j < a.length
  · rw [List.getElem?_map, List.getElem?_range hj, List.getElem?_map, List.getElem?_eq_getElem hj]
    show some ((a ++ b)[j]?) = _
    rw [List.getElem?_append_left hj, List.getElem?_eq_getElem hj]
    rfl
  · rw [List.getElem?_eq_none (by rw [List.length_map, List.length_range]; omega), List.getElem?_eq_none (by rw [List.length_map]; omega)]
theorem zp_map2 (a b : va_W) : (List.range' a.length b.length).map (fun i => (a ++ b)[i]?) = b.map some := by
  refine List.ext_getElem? (fun j => ?_)
  by_cases hj : j < b.length
  · rw [List.getElem?_map, List.getElem?_range' (by omega), List.getElem?_map, List.getElem?_eq_getElem hj]
    show some ((a ++ b)[a.length + 1 * j]?) = _
    rw [Nat.one_mul, List.getElem?_append_right (Nat.le_add_right _ _), Nat.add_sub_cancel_left, List.getElem?_eq_getElem hj]
    rfl
  · rw [List.getElem?_eq_none (by rw [List.length_map, List.length_range']; omega), List.getElem?_eq_none (by rw [List.length_map]; omega)]
theorem zp_fm (a b : va_W) : (List.range a.length).filterMap (fun i => (a ++ b)[i]?) = a := by
  have h1 := congrArg (fun l => l.filterMap id) (zp_map a b)
  rw [List.filterMap_map, List.filterMap_map] at h1
  have h2 : (a.filterMap (id ∘ some)) = a := by
    show a.filterMap some = a
    exact List.filterMap_some
  rw [h2] at h1
  exact h1
theorem zp_nd : ∀ (l : List Nat), l.Nodup → va_nd l = true
  | [], _ => rfl
  | x :: l, h => by
    have h1 := List.nodup_cons.mp h
    have h2 := zp_nd l h1.2
    show (decide (x ∉ l) && va_nd l) = true
    rw [h2, Bool.and_true]
    exact decide_eq_true h1.1
theorem zp_nd1 (n : Nat) : va_nd (List.range n) = true := zp_nd _ List.nodup_range
theorem zp_nd2 (a n : Nat) : va_nd (List.range' a n) = true := zp_nd _ (List.nodup_range' (step := 1))
section ZGC
variable {p : Program} {l : Launch} {e : Env} {R : Room} {s : State} {m : MethodId} {args : Array Value} {below : List Frame} {meth : Method} {c : Code} {H : Heap} {locs : List Loc} {cells slots : Nat} {Q : State → Prop}
variable {D : va_G} {tys : List (ClassId × FieldType)} {sa : SAT} {pc : Nat} {ls : Array Slot} {rest st0 : List Value} {a : Array Value} {A0 : Nat → Prop} {H0 : Heap} {mc ms : Nat} {P wc wm suf : va_W} {U : Type} {w1 : U → va_W}
/-- behind a call: what came back stands behind the rest -/
theorem zc_I {post : Int32 → U → Prop} (hr : va_Run p l e R s m args below meth c H locs cells slots mc ms (F0 m pc ls st0) rest (va_Qi post (zg_B D tys wc H.size w1) (va_A wc H.size) a) (va_A wc H.size)) (hP : va_P D vwCl (P ++ wc) H) (hD : va_D A0 (P ++ wc)) (hS : va_S A0 H0 H locs) (hA : ∀ q, H0.size ≤ q → A0 q)
    (kk : ∀ (r : Int32) (u : U) (H1 : Heap) (locs1 : List Loc), post r u → va_P D vwCl (P ++ w1 u) H1 → va_D A0 (P ++ w1 u) → va_S A0 H0 H1 locs1 → W p l e R s m args below meth c H1 locs1 (cells + mc) (slots + ms) Q (F0 m (pc + 3) ls (.int r :: rest))) : W p l e R s m args below meth c H locs cells slots Q (F0 m pc ls st0) := by
  have hC := zp_map2 P wc
  have hF := va_free (wc := wc) hD hS hA _ hC
  refine va_calli hr hS (fun q _ h => hF q h) hF (fun r u t H1 locs1 ht hvm hw hB hz hk hS1 => ?_)
  obtain ⟨hP1, -, hD1⟩ := hB
  rw [ht] at hP1
  obtain ⟨g1, g2⟩ := va_join (wr := P) hP hD _ (List.range P.length) hC (zp_map P wc) (zp_nd1 _) (fun i hi hj => by
    have h1 := List.mem_range.mp hi
    have h2 := (List.mem_range'_1.mp hj).1
    omega) hk hF hP1 hD1
  exact kk r u H1 locs1 hw g1 g2 hS1
theorem zc_V {post : U → Prop} (hr : va_Run p l e R s m args below meth c H locs cells slots mc ms (F0 m pc ls st0) rest (va_Qv post (zg_B D tys wc H.size w1) (va_A wc H.size) a) (va_A wc H.size)) (hP : va_P D vwCl (P ++ wc) H) (hD : va_D A0 (P ++ wc)) (hS : va_S A0 H0 H locs) (hA : ∀ q, H0.size ≤ q → A0 q)
    (kk : ∀ (u : U) (H1 : Heap) (locs1 : List Loc), post u → va_P D vwCl (P ++ w1 u) H1 → va_D A0 (P ++ w1 u) → va_S A0 H0 H1 locs1 → W p l e R s m args below meth c H1 locs1 (cells + mc) (slots + ms) Q (F0 m (pc + 3) ls rest)) : W p l e R s m args below meth c H locs cells slots Q (F0 m pc ls st0) := by
  have hC := zp_map2 P wc
  have hF := va_free (wc := wc) hD hS hA _ hC
  refine va_callv hr hS (fun q _ h => hF q h) hF (fun u t H1 locs1 ht hvm hw hB hz hk hS1 => ?_)
  obtain ⟨hP1, -, hD1⟩ := hB
  rw [ht] at hP1
  obtain ⟨g1, g2⟩ := va_join (wr := P) hP hD _ (List.range P.length) hC (zp_map P wc) (zp_nd1 _) (fun i hi hj => by
    have h1 := List.mem_range.mp hi
    have h2 := (List.mem_range'_1.mp hj).1
    omega) hk hF hP1 hD1
  exact kk u H1 locs1 hw g1 g2 hS1
theorem zc_R {post : U → Prop} {pa : U → Nat} (hr : va_Run p l e R s m args below meth c H locs cells slots mc ms (F0 m pc ls st0) rest (va_Qr post (fun u x t => x = pa u ∧ zg_B D tys wc H.size w1 u t) (va_A wc H.size) a) (va_A wc H.size)) (hP : va_P D vwCl (P ++ wc) H) (hD : va_D A0 (P ++ wc)) (hS : va_S A0 H0 H locs) (hA : ∀ q, H0.size ≤ q → A0 q)
    (kk : ∀ (u : U) (H1 : Heap) (locs1 : List Loc), post u → va_P D vwCl (P ++ w1 u) H1 → va_D A0 (P ++ w1 u) → va_S A0 H0 H1 locs1 → W p l e R s m args below meth c H1 locs1 (cells + mc) (slots + ms) Q (F0 m (pc + 3) ls (.ref (pa u) :: rest))) : W p l e R s m args below meth c H locs cells slots Q (F0 m pc ls st0) := by
  have hC := zp_map2 P wc
  have hF := va_free (wc := wc) hD hS hA _ hC
  refine va_callr hr hS (fun q _ h => hF q h) hF (fun u ra t H1 locs1 ht hvm hw hB hz hk hS1 => ?_)
  obtain ⟨rfl, hP1, -, hD1⟩ := hB
  rw [ht] at hP1
  obtain ⟨g1, g2⟩ := va_join (wr := P) hP hD _ (List.range P.length) hC (zp_map P wc) (zp_nd1 _) (fun i hi hj => by
    have h1 := List.mem_range.mp hi
    have h2 := (List.mem_range'_1.mp hj).1
    omega) hk hF hP1 hD1
  exact kk u H1 locs1 hw g1 g2 hS1
/-- readers of the world's last cells -/
theorem zc_rI {r0 : Int32} (hr : va_Run p l e R s m args below meth c H locs cells slots mc ms (F0 m pc ls st0) rest (va_Qi (fun (r : Int32) (_ : Nat → Nat) => r = r0) (KB D tys wc H.size (fun _ => wc)) (va_A wc H.size) a) (va_A wc H.size)) (hP : va_P D vwCl (P ++ wc) H) (hD : va_D A0 (P ++ wc)) (hS : va_S A0 H0 H locs) (hA : ∀ q, H0.size ≤ q → A0 q)
    (kk : ∀ (H1 : Heap) (locs1 : List Loc), va_P D vwCl (P ++ wc) H1 → va_S A0 H0 H1 locs1 → W p l e R s m args below meth c H1 locs1 (cells + mc) (slots + ms) Q (F0 m (pc + 3) ls (.int r0 :: rest))) : W p l e R s m args below meth c H locs cells slots Q (F0 m pc ls st0) := krI hr hP hD hS hA _ (zp_map2 P wc) kk
/-- the class's calls: its cells stand first, and keep their places -/
theorem zc_xI {r0 : Int32} (hr : va_Run p l e R s m args below meth c H locs cells slots mc ms (F0 m pc ls st0) rest (va_Qi (fun (r : Int32) (_ : Nat → Nat) => r = r0) (KB D tys wc H.size (fun _ => wm)) (va_A wc H.size) a) (va_A wc H.size)) (hP : va_P D vwCl (wc ++ suf) H) (hD : va_D A0 (wc ++ suf)) (hS : va_S A0 H0 H locs) (hA : ∀ q, H0.size ≤ q → A0 q) (hm : wm.map (fun q => q.1) = wc.map (fun q => q.1))
    (kk : ∀ (H1 : Heap) (locs1 : List Loc), va_P D vwCl (wm ++ suf) H1 → va_D A0 (wm ++ suf) → va_S A0 H0 H1 locs1 → W p l e R s m args below meth c H1 locs1 (cells + mc) (slots + ms) Q (F0 m (pc + 3) ls (.int r0 :: rest))) : W p l e R s m args below meth c H locs cells slots Q (F0 m pc ls st0) := by
  have hlen : wc.length = wm.length := by
    have := congrArg List.length hm
    rw [List.length_map, List.length_map] at this
    exact this.symm
  refine kwIE hr hP hD hS hA (List.range wc.length) (zp_map wc suf) hm (w2 := wm ++ suf) ?_ kk
  rw [List.range_eq_range']
  exact kput_block wc wm [] suf hlen
theorem zc_xD {r0 : UInt64} (hr : va_Run p l e R s m args below meth c H locs cells slots mc ms (F0 m pc ls st0) rest (va_Qd (fun (r : UInt64) (_ : Nat → Nat) => r = r0) (KB D tys wc H.size (fun _ => wc)) (va_A wc H.size) a) (va_A wc H.size)) (hP : va_P D vwCl (wc ++ suf) H) (hD : va_D A0 (wc ++ suf)) (hS : va_S A0 H0 H locs) (hA : ∀ q, H0.size ≤ q → A0 q)
    (kk : ∀ (H1 : Heap) (locs1 : List Loc), va_P D vwCl (wc ++ suf) H1 → va_S A0 H0 H1 locs1 → W p l e R s m args below meth c H1 locs1 (cells + mc) (slots + ms) Q (F0 m (pc + 3) ls (.double r0 :: rest))) : W p l e R s m args below meth c H locs cells slots Q (F0 m pc ls st0) := krD hr hP hD hS hA (List.range wc.length) (zp_map wc suf) kk
end ZGC
end
section
/-! the law's world: the class's cells first, then the law's object and its rows -/
theorem zw_l {P : va_W} {cy : Nat → ClassId} {hs : Nat} {ad : Nat → Nat} {G : FN} {F : Nat → Nat} {h : zs_H} : zs_W P cy hs ad G F h = P ++ zs_W [] cy hs ad G F h := by
  show (P ++ [_]) ++ _ = P ++ (([] ++ [_]) ++ _)
  rw [List.append_assoc]
  rfl
theorem zw_map1 {P : va_W} {cy : Nat → ClassId} {hs : Nat} {ad : Nat → Nat} {G : FN} {F : Nat → Nat} {h : zs_H} : (List.range P.length).map (fun i => (zs_W P cy hs ad G F h)[i]?) = P.map some := by
  rw [zw_l]
  exact zp_map _ _
theorem zw_map2 {P : va_W} {cy : Nat → ClassId} {hs : Nat} {ad : Nat → Nat} {G : FN} {F : Nat → Nat} {h : zs_H} : (List.range' P.length (zs_W [] cy hs ad G F h).length).map (fun i => (zs_W P cy hs ad G F h)[i]?) = (zs_W [] cy hs ad G F h).map some := by
  have e : zs_W P cy hs ad G F h = P ++ zs_W [] cy hs ad G F h := zw_l
  rw [e]
  exact zp_map2 _ _
/-- what a maker of rows leaves: references to rows, no fewer rows, the old ones where they were -/
def zs_ok (h : zs_H) (F2 : Nat → Nat) (h2 : zs_H) (ad u : Nat → Nat) : Prop := zs_wf h2 ∧ zs_fs F2 h2 ∧ h.1 ≤ h2.1 ∧ ∀ i, i < h.1 → u i = ad i
theorem zs_cl_row {h h1 : zs_H} {q B : Nat} (z : zs_cl h q B = some h1) : ∃ x, h1.2 h.1 = .inl x := by
  obtain ⟨k, f, -, -, -, rfl⟩ := zs_cl_of z
  exact ⟨(k, f), if_pos rfl⟩
section ZWC
variable {p : Program} {l : Launch} {e : Env} {R : Room} {s : State} {m : MethodId} {args : Array Value} {below : List Frame} {meth : Method} {c : Code} {H : Heap} {locs : List Loc} {cells slots : Nat} {Q : State → Prop}
variable {D : va_G} {cy : Nat → ClassId} {sa : SAT} {pc : Nat} {ls : Array Slot} {rest st0 : List Value} {a : Array Value} {A0 : Nat → Prop} {H0 : Heap} {mc ms : Nat} {P P2 : va_W} {hs : Nat} {ad : Nat → Nat} {G G2 : FN} {F F2 : Nat → Nat} {h h2 : zs_H} {cc : ByteArray}
theorem zw_rI {r0 : Int32} (hr : va_Run p l e R s m args below meth c H locs cells slots mc ms (F0 m pc ls st0) rest (va_Qi (fun (r : Int32) (_ : Nat → Nat) => r = r0) (KB D (tyW cy) (zs_W [] cy hs ad G F h) H.size (fun _ => zs_W [] cy hs ad G F h)) (va_A (zs_W [] cy hs ad G F h) H.size) a) (va_A (zs_W [] cy hs ad G F h) H.size)) (hP : va_P D vwCl (zs_W P cy hs ad G F h) H) (hD : va_D A0 (zs_W P cy hs ad G F h)) (hS : va_S A0 H0 H locs) (hA : ∀ q, H0.size ≤ q → A0 q)
    (kk : ∀ (H1 : Heap) (locs1 : List Loc), va_P D vwCl (zs_W P cy hs ad G F h) H1 → va_S A0 H0 H1 locs1 → W p l e R s m args below meth c H1 locs1 (cells + mc) (slots + ms) Q (F0 m (pc + 3) ls (.int r0 :: rest))) : W p l e R s m args below meth c H locs cells slots Q (F0 m pc ls st0) := krI hr hP hD hS hA _ zw_map2 kk
theorem zw_I {post : Int32 → (Nat → Nat) → Prop} (hr : va_Run p l e R s m args below meth c H locs cells slots mc ms (F0 m pc ls st0) rest (va_Qi post (zg_B D (tyW cy) (zs_W [] cy hs ad G F h) H.size (fun u => zs_W [] cy hs u G2 F2 h2)) (va_A (zs_W [] cy hs ad G F h) H.size) a) (va_A (zs_W [] cy hs ad G F h) H.size)) (hP : va_P D vwCl (zs_W P cy hs ad G F h) H) (hD : va_D A0 (zs_W P cy hs ad G F h)) (hS : va_S A0 H0 H locs) (hA : ∀ q, H0.size ≤ q → A0 q)
    (kk : ∀ (r : Int32) (u : Nat → Nat) (H1 : Heap) (locs1 : List Loc), post r u → va_P D vwCl (zs_W P cy hs u G2 F2 h2) H1 → va_D A0 (zs_W P cy hs u G2 F2 h2) → va_S A0 H0 H1 locs1 → W p l e R s m args below meth c H1 locs1 (cells + mc) (slots + ms) Q (F0 m (pc + 3) ls (.int r :: rest))) : W p l e R s m args below meth c H locs cells slots Q (F0 m pc ls st0) := by
  rw [zw_l] at hP hD
  refine zc_I hr hP hD hS hA (fun r u H1 locs1 hp hP hD hS => ?_)
  exact kk r u H1 locs1 hp (by rw [zw_l]; exact hP) (by rw [zw_l]; exact hD) hS
theorem zw_R {post : (Nat → Nat) → Prop} {pa : (Nat → Nat) → Nat} (hr : va_Run p l e R s m args below meth c H locs cells slots mc ms (F0 m pc ls st0) rest (va_Qr post (fun u x t => x = pa u ∧ zg_B D (tyW cy) (zs_W [] cy hs ad G F h) H.size (fun u => zs_W [] cy hs u G2 F2 h2) u t) (va_A (zs_W [] cy hs ad G F h) H.size) a) (va_A (zs_W [] cy hs ad G F h) H.size)) (hP : va_P D vwCl (zs_W P cy hs ad G F h) H) (hD : va_D A0 (zs_W P cy hs ad G F h)) (hS : va_S A0 H0 H locs) (hA : ∀ q, H0.size ≤ q → A0 q)
    (kk : ∀ (u : Nat → Nat) (H1 : Heap) (locs1 : List Loc), post u → va_P D vwCl (zs_W P cy hs u G2 F2 h2) H1 → va_D A0 (zs_W P cy hs u G2 F2 h2) → va_S A0 H0 H1 locs1 → W p l e R s m args below meth c H1 locs1 (cells + mc) (slots + ms) Q (F0 m (pc + 3) ls (.ref (pa u) :: rest))) : W p l e R s m args below meth c H locs cells slots Q (F0 m pc ls st0) := by
  rw [zw_l] at hP hD
  refine zc_R hr hP hD hS hA (fun u H1 locs1 hp hP hD hS => ?_)
  exact kk u H1 locs1 hp (by rw [zw_l]; exact hP) (by rw [zw_l]; exact hD) hS
theorem zw_xI {r0 : Int32} (hr : va_Run p l e R s m args below meth c H locs cells slots mc ms (F0 m pc ls st0) rest (va_Qi (fun (r : Int32) (_ : Nat → Nat) => r = r0) (KB D (tyW cy) P H.size (fun _ => P2)) (va_A P H.size) a) (va_A P H.size)) (hP : va_P D vwCl (zs_W P cy hs ad G F h) H) (hD : va_D A0 (zs_W P cy hs ad G F h)) (hS : va_S A0 H0 H locs) (hA : ∀ q, H0.size ≤ q → A0 q) (hm : P2.map (fun q => q.1) = P.map (fun q => q.1))
    (kk : ∀ (H1 : Heap) (locs1 : List Loc), va_P D vwCl (zs_W P2 cy hs ad G F h) H1 → va_D A0 (zs_W P2 cy hs ad G F h) → va_S A0 H0 H1 locs1 → W p l e R s m args below meth c H1 locs1 (cells + mc) (slots + ms) Q (F0 m (pc + 3) ls (.int r0 :: rest))) : W p l e R s m args below meth c H locs cells slots Q (F0 m pc ls st0) := by
  rw [zw_l] at hP hD
  refine zc_xI hr hP hD hS hA hm (fun H1 locs1 hP hD hS => ?_)
  exact kk H1 locs1 (by rw [zw_l]; exact hP) (by rw [zw_l]; exact hD) hS
theorem zw_xD {r0 : UInt64} (hr : va_Run p l e R s m args below meth c H locs cells slots mc ms (F0 m pc ls st0) rest (va_Qd (fun (r : UInt64) (_ : Nat → Nat) => r = r0) (KB D (tyW cy) P H.size (fun _ => P)) (va_A P H.size) a) (va_A P H.size)) (hP : va_P D vwCl (zs_W P cy hs ad G F h) H) (hD : va_D A0 (zs_W P cy hs ad G F h)) (hS : va_S A0 H0 H locs) (hA : ∀ q, H0.size ≤ q → A0 q)
    (kk : ∀ (H1 : Heap) (locs1 : List Loc), va_P D vwCl (zs_W P cy hs ad G F h) H1 → va_S A0 H0 H1 locs1 → W p l e R s m args below meth c H1 locs1 (cells + mc) (slots + ms) Q (F0 m (pc + 3) ls (.double r0 :: rest))) : W p l e R s m args below meth c H locs cells slots Q (F0 m pc ls st0) := krD hr hP hD hS hA _ zw_map1 kk
theorem sx_cast (hx : p.tables.exec = Jvm.exec) (hb : c.code = cc) {own : String} {index : Nat} (hown : s.vm.findClass own = some m.cls) (hlink : (Cond.classLink own index "[I").before args s = true) (hK : va_K D vwCl (tyW cy) s) (hP : va_P D vwCl (zs_W P cy hs ad G F h) H) {q : Nat} (hq : q < h.1) (he : ∃ x, h.2 q = .inl x) (hdg : decode cc pc = .ok (.checkcast index, 3))
    (kk : W p l e R s m args below meth c H locs cells slots Q (F0 m (pc + 3) ls (.ref (ad q) :: rest))) : W p l e R s m args below meth c H locs cells slots Q (F0 m pc ls (.ref (ad q) :: rest)) := by
  obtain ⟨x, hx2⟩ := he
  refine va_castA (cA := cy 0) (x := (x.1, .inl x.2)) hx hb hown hlink hP ((P ++ [(hs, .inr (6, zs_obj ad G F))]).length + q) ?_ (show s.vm.findClass "[I" = some (cy 0) from (hK.2 0 _ rfl).2) hdg kk
  rw [zs_rows_get hq, hx2]
  rfl
end ZWC
end
