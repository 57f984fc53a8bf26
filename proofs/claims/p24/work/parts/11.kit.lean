abbrev FN : Type := Nat → Int32
/-- where the statics' tables lie, and the script: its place is sa.1 3 -/
abbrev SAT : Type := (Nat → Nat) × (Nat × FN)
/-- checks: an answer only where the check holds -/
def ckI {α : Type} (i : Int32) (n : Nat) (k : Option α) : Option α := if 0 ≤ i.toInt ∧ i.toInt < n then k else none
def ckZ {α : Type} (y : Int32) (k : Option α) : Option α := if y = 0 then none else k
def ckC {α : Type} (sp dp n : Int32) (n0 n1 : Nat) (k : Option α) : Option α := if ¬ sp < 0 ∧ ¬ dp < 0 ∧ ¬ n < 0 ∧ sp.toNatClampNeg + n.toNatClampNeg ≤ n0 ∧ dp.toNatClampNeg + n.toNatClampNeg ≤ n1 then k else none
theorem ckI_some {α : Type} {i : Int32} {n : Nat} {k : Option α} {r : α} (h : ckI i n k = some r) : vp_in i n ∧ k = some r := by
  unfold ckI at h
  by_cases c : 0 ≤ i.toInt ∧ i.toInt < n
  · rw [if_pos c] at h
    exact ⟨vp_in_iff.mpr c, h⟩
  · rw [if_neg c] at h
    cases h
theorem ckZ_some {α : Type} {y : Int32} {k : Option α} {r : α} (h : ckZ y k = some r) : ¬ y = 0 ∧ k = some r := by
  unfold ckZ at h
  by_cases c : y = 0
  · rw [if_pos c] at h
    cases h
  · rw [if_neg c] at h
    exact ⟨c, h⟩
theorem ckC_some {α : Type} {sp dp n : Int32} {n0 n1 : Nat} {k : Option α} {r : α} (h : ckC sp dp n n0 n1 k = some r) : (¬ sp < 0 ∧ ¬ dp < 0 ∧ ¬ n < 0 ∧ sp.toNatClampNeg + n.toNatClampNeg ≤ n0 ∧ dp.toNatClampNeg + n.toNatClampNeg ≤ n1) ∧ k = some r := by
  unfold ckC at h
  by_cases c : ¬ sp < 0 ∧ ¬ dp < 0 ∧ ¬ n < 0 ∧ sp.toNatClampNeg + n.toNatClampNeg ≤ n0 ∧ dp.toNatClampNeg + n.toNatClampNeg ≤ n1
  · rw [if_pos c] at h
    exact ⟨c, h⟩
  · rw [if_neg c] at h
    cases h
theorem bnd_some {α β : Type} {o : Option β} {k : β → Option α} {r : α} (h : o.bind k = some r) : ∃ z, o = some z ∧ k z = some r := by
  cases o with
  | none => cases h
  | some z => exact ⟨z, rfl, h⟩
theorem if_t {α : Type} {c : Prop} [Decidable c] {a b x : α} (h : (if c then a else b) = x) (hc : c) : a = x := by rw [if_pos hc] at h; exact h
theorem if_f {α : Type} {c : Prop} [Decidable c] {a b x : α} (h : (if c then a else b) = x) (hc : ¬ c) : b = x := by rw [if_neg hc] at h; exact h
/-- the statics of the class: three tables of numbers -/
def tPRICES : Nat → Value := fun j => .int (([3, 2, 1, 2] : List Int32).getD j 0)
def tSORT : Nat → Value := fun j => .int (([6, 3, 0] : List Int32).getD j 0)
def tWORTH : Nat → Value := fun j => .int (([12, 7, 3] : List Int32).getD j 0)
def nwL : List Cond := [.fieldLinkNest RX5 112 "RagVats$Mill" "moulds" "LRagVats$Moulds;" "RagVats", .fieldLinkNest RX5 116 "RagVats$Moulds" "number" "I" "RagVats", .fieldLinkNest RX5 143 "RagVats$Mill" "teams" "LRagVats$Teams;" "RagVats", .fieldLinkNest RX5 147 "RagVats$Teams" "number" "I" "RagVats", .fieldLinkNest RX5 172 "RagVats$Mill" "water" "[I" "RagVats", .fieldLinkNest RX5 190 "RagVats$Mill" "posts" "LRagVats$Posts;" "RagVats", .fieldLinkNest RX5 206 "RagVats$Mill" "made" "I" "RagVats", .fieldLinkNest RX5 42 "RagVats$Mill" "coins" "I" "RagVats", .fieldLinkNest RX5 51 "RagVats$Mill" "felts" "I" "RagVats", .fieldLinkNest RX5 81 "RagVats$Mill" "vats" "LRagVats$Vats;" "RagVats", .fieldLinkNest RX5 92 "RagVats$Mill" "rags" "[I" "RagVats", .fieldLinkNest RX0 101 "RagVats$Posts" "number" "I" "RagVats", .fieldLinkNest RX0 190 "RagVats" "SORT_POINTS" "[I" "RagVats", .fieldLinkNest RX0 94 "RagVats$Posts" "allSheets" "I" "RagVats"]
def nwF : List Cond := [.fieldLinkNest RX0 160 "RagVats$Teams" "number" "I" "RagVats"]
def nwM : List Cond := [.methodLinkNest RX0 174 yX5_worthOf "RagVats", .methodLinkNest RX0 43 yX1_init "RagVats", .methodLinkNest RX0 50 yX3_init "RagVats", .methodLinkNest RX0 57 yX2_init "RagVats", .methodLinkNest RX0 90 yX5_isBelow "RagVats", .methodLinkNest RX4 33 yX5_isBelow "RagVats", .methodLinkNest RL 91 yX6_init "RagVatsLaw"]
def nwC : List Cond := [.castable "[I" "java/lang/Cloneable", .castable "java/lang/IndexOutOfBoundsException" "java/lang/IndexOutOfBoundsException", .castable "java/lang/IllegalArgumentException" "java/lang/IllegalArgumentException", .castable "java/lang/IllegalStateException" "java/lang/IllegalStateException"]
def nwD : List Cond := [.declares (Bundle.initS "java/lang/RuntimeException"), .declares (Bundle.initS "java/lang/Exception"), .declares (Bundle.initS "java/lang/Throwable")]
def nwA : List Cond := nwL ++ nwF ++ nwM ++ nwC ++ nwD
theorem nwL_w : ∀ w ∈ nwL ++ nwF, ∀ {s U : State}, s.WarmedH U.vm → va_Nw w s → va_Nw w U := by
  show ∀ w ∈ ([_, _, _, _, _, _, _, _, _, _, _, _, _, _, _] : List Cond), ∀ {s U : State}, s.WarmedH U.vm → va_Nw w s → va_Nw w U
  exact List.forall_mem_cons.mpr ⟨fun h z => va_Nw.warmF h z, List.forall_mem_cons.mpr ⟨fun h z => va_Nw.warmF h z, List.forall_mem_cons.mpr ⟨fun h z => va_Nw.warmF h z, List.forall_mem_cons.mpr ⟨fun h z => va_Nw.warmF h z, List.forall_mem_cons.mpr ⟨fun h z => va_Nw.warmF h z, List.forall_mem_cons.mpr ⟨fun h z => va_Nw.warmF h z, List.forall_mem_cons.mpr ⟨fun h z => va_Nw.warmF h z, List.forall_mem_cons.mpr ⟨fun h z => va_Nw.warmF h z, List.forall_mem_cons.mpr ⟨fun h z => va_Nw.warmF h z, List.forall_mem_cons.mpr ⟨fun h z => va_Nw.warmF h z, List.forall_mem_cons.mpr ⟨fun h z => va_Nw.warmF h z, List.forall_mem_cons.mpr ⟨fun h z => va_Nw.warmF h z, List.forall_mem_cons.mpr ⟨fun h z => va_Nw.warmF h z, List.forall_mem_cons.mpr ⟨fun h z => va_Nw.warmF h z, List.forall_mem_cons.mpr ⟨fun h z => va_Nw.warmF h z, fun _ h => absurd h List.not_mem_nil⟩⟩⟩⟩⟩⟩⟩⟩⟩⟩⟩⟩⟩⟩⟩
theorem nwM_w : ∀ w ∈ nwM, ∀ {s U : State}, s.WarmedH U.vm → va_Nw w s → va_Nw w U := by
  show ∀ w ∈ ([_, _, _, _, _, _, _] : List Cond), ∀ {s U : State}, s.WarmedH U.vm → va_Nw w s → va_Nw w U
  exact List.forall_mem_cons.mpr ⟨fun h z => va_Nw.warmM h z, List.forall_mem_cons.mpr ⟨fun h z => va_Nw.warmM h z, List.forall_mem_cons.mpr ⟨fun h z => va_Nw.warmM h z, List.forall_mem_cons.mpr ⟨fun h z => va_Nw.warmM h z, List.forall_mem_cons.mpr ⟨fun h z => va_Nw.warmM h z, List.forall_mem_cons.mpr ⟨fun h z => va_Nw.warmM h z, List.forall_mem_cons.mpr ⟨fun h z => va_Nw.warmM h z, fun _ h => absurd h List.not_mem_nil⟩⟩⟩⟩⟩⟩⟩
theorem nwC_w : ∀ w ∈ nwC, ∀ {s U : State}, s.WarmedH U.vm → va_Nw w s → va_Nw w U := by
  show ∀ w ∈ ([_, _, _, _] : List Cond), ∀ {s U : State}, s.WarmedH U.vm → va_Nw w s → va_Nw w U
  exact List.forall_mem_cons.mpr ⟨fun h z => va_Nw.warmC h z, List.forall_mem_cons.mpr ⟨fun h z => va_Nw.warmC h z, List.forall_mem_cons.mpr ⟨fun h z => va_Nw.warmC h z, List.forall_mem_cons.mpr ⟨fun h z => va_Nw.warmC h z, fun _ h => absurd h List.not_mem_nil⟩⟩⟩⟩
theorem nwD_w : ∀ w ∈ nwD, ∀ {s U : State}, s.WarmedH U.vm → va_Nw w s → va_Nw w U := by
  show ∀ w ∈ ([_, _, _] : List Cond), ∀ {s U : State}, s.WarmedH U.vm → va_Nw w s → va_Nw w U
  exact List.forall_mem_cons.mpr ⟨fun h z => va_Nw.warmD h z, List.forall_mem_cons.mpr ⟨fun h z => va_Nw.warmD h z, List.forall_mem_cons.mpr ⟨fun h z => va_Nw.warmD h z, fun _ h => absurd h List.not_mem_nil⟩⟩⟩
theorem nwA_w : ∀ w ∈ nwA, ∀ {s U : State}, s.WarmedH U.vm → va_Nw w s → va_Nw w U := by
  intro w hw s U
  rcases List.mem_append.mp (show w ∈ ((nwL ++ nwF ++ nwM) ++ nwC) ++ nwD from hw) with hw | h
  rcases List.mem_append.mp hw with h | h
  · rcases List.mem_append.mp h with h | h
    · exact nwL_w w h
    · exact nwM_w w h
  · exact nwC_w w h
  · exact nwD_w w h
/-- the class of rows of ints has been made -/
def AOA (U : State) : Prop := (Cond.arrayOver (.array .int)).before #[] U = true
theorem AOA.moved {u U : State} (hvm : u.vm.Alike U.vm) (h : AOA u) : AOA U := by
  obtain ⟨comp, c, k, h1, h2, h3, h4, h5⟩ := arrayOverA_spec (args := #[]) (first := u) (o := none) (idx := []) h
  obtain ⟨k', hk', he⟩ := hvm.2.2 _ _ h3
  have hi : (U.vm.classes.findIdx? fun (x : Class) => match x.kind with | .array component _ => component == comp | _ => false) = some c := by
    have hbr : U.vm.bare = u.vm.bare := by first | exact hvm.bare_eq | exact hvm.bare_eq.symm
    refine (va_idx_bare U.vm comp).symm.trans ?_
    rw [hbr]
    exact (va_idx_bare u.vm comp).trans h2
  have hkind : k'.kind = .array comp (.array .int) := by rw [he]; exact h4
  have f1 : U.vm.findClass (FieldType.array .int).toString = some comp := by rw [hvm.findClass]; exact h1
  have f2 : U.vm.findClass ("[" ++ (FieldType.array .int).toString) = some c := by rw [hvm.findClass]; exact h5
  unfold AOA Cond.before Cond.holds
  simp only [Cond.value]
  rw [f1, Option.bind_some]
  refine (congrArg (fun o : Option Nat => (o.bind (fun c => (U.vm.classes[c]?).map fun (k : Class) => match k.kind with | .array _ ty => decide (ty = FieldType.array .int) && decide (U.vm.findClass ("[" ++ (FieldType.array .int).toString) = some c) | _ => false) == some true)) hi).trans ?_
  simp [hk', hkind, f2]
def ncL : List (String × String) := []
def strL : List (Nat × String) := [(100, "no such vat"), (102, "the vat is empty"), (108, "mark is not 0 to 9"), (110, "size is not 1 to 3"), (121, "there are 5 pairs"), (130, "no such pair"), (135, "the pair is not worn"), (141, "skill is not 1 to 12"), (150, "there are 3 teams"), (155, "no such team"), (160, "another team has this pair"), (168, "day is not 0 to 6"), (170, "water is not 0 to 9"), (175, "no such vat, or what is not 0 to 2"), (180, "no such pair, or what is not 0 to 3"), (185, "no such team, or what is not 0 to 3"), (197, "no such post, or what is not 0 to 2"), (200, "what is not 0 to 11"), (204, "days is not 1 to 40"), (212, "beat is not 1 to 99"), (25, "what is not 0 to 3"), (35, "many is not 1 to 99"), (48, "too few coins"), (54, "more than 90 felts"), (60, "no such mark or grade"), (62, "quires is not 1 to 9"), (67, "too few sheets in the loft"), (77, "no such vat or sort"), (79, "pounds is not 1 to 40"), (90, "the vat is not empty"), (95, "too few pounds")]
/-- what the tables say everywhere, beside the words -/
def GEt (U : State) : Prop := (∀ w ∈ nwA, va_Nw w U) ∧ (∀ q ∈ ncL, va_Nc q.1 q.2 U) ∧ (∀ q ∈ strL, ∃ a, vk_R RX5 q.1 q.2 a U) ∧ AOA U
/-- the statics -/
def GEh (sa : SAT) (A : Nat → Prop) (U : State) (H : Heap) : Prop := (va_Z RX5 "PRICES" "[I" (.ref (sa.1 0)) A U H ∧ va_T .int (sa.1 0) 4 tPRICES A U H) ∧ (va_Z RX5 "SORT_POINTS" "[I" (.ref (sa.1 1)) A U H ∧ va_T .int (sa.1 1) 3 tSORT A U H) ∧ (va_Z RX5 "SHEET_WORTH" "[I" (.ref (sa.1 2)) A U H ∧ va_T .int (sa.1 2) 3 tWORTH A U H) ∧ vx_Zq Bundle.tN "UNASSIGNED_STACK" Bundle.steD A U H ∧ vx_Zq Bundle.tN "SUPPRESSED_SENTINEL" Bundle.listD A U H ∧ va_T .int (sa.1 3) sa.2.1 (fun j => .int (sa.2.2 j)) A U H
def GE (sa : SAT) (A : Nat → Prop) (U : State) (H : Heap) : Prop := GEt U ∧ GEh sa A U H
theorem GE.moved {sa : SAT} {A : Nat → Prop} {s U : State} {H : Heap} (hW : s.WarmedH U.vm) (h : GE sa A s H) : GE sa A U H := by
  obtain ⟨⟨h1, h2, h3, h4⟩, ⟨a1, a2⟩, ⟨b1, b2⟩, ⟨c1, c2⟩, d1, e1, x1⟩ := h
  refine ⟨⟨fun w hw => nwA_w w hw hW (h1 w hw), fun q hq => (h2 q hq).moved hW.alike, fun q hq => ?_, h4.moved hW.alike⟩, ⟨a1.moved hW.alike, a2.moved hW.alike⟩, ⟨b1.moved hW.alike, b2.moved hW.alike⟩, ⟨c1.moved hW.alike, c2.moved hW.alike⟩, vx_Zq.moved hW.alike d1, vx_Zq.moved hW.alike e1, x1.moved hW.alike⟩
  obtain ⟨a, ha⟩ := h3 q hq
  exact ⟨a, vk_R.warm hW ha⟩
theorem GE.kept {sa : SAT} {A : Nat → Prop} {U : State} {H H1 : Heap} (h : GE sa A U H) (hq : ∀ a : Nat, a < H.size → ¬ A a → H1[a]? = H[a]?) : GE sa A U H1 := by
  obtain ⟨h1, ⟨a1, a2⟩, ⟨b1, b2⟩, ⟨c1, c2⟩, d1, e1, x1⟩ := h
  exact ⟨h1, ⟨a1.kept hq, a2.kept hq⟩, ⟨b1.kept hq, b2.kept hq⟩, ⟨c1.kept hq, c2.kept hq⟩, d1.kept hq, e1.kept hq, x1.kept hq⟩
theorem GE.narrow {sa : SAT} {A B : Nat → Prop} {U : State} {H : Heap} (h : GE sa A U H) (hq : ∀ q, B q → A q) : GE sa B U H := by
  obtain ⟨h1, ⟨a1, a2⟩, ⟨b1, b2⟩, ⟨c1, c2⟩, d1, e1, x1⟩ := h
  exact ⟨h1, ⟨a1.narrow hq, a2.narrow hq⟩, ⟨b1.narrow hq, b2.narrow hq⟩, ⟨c1.narrow hq, c2.narrow hq⟩, d1.narrow hq, e1.narrow hq, x1.narrow hq⟩
/-- a method's start over the world w -/
def KPc (D : va_G) (tys : List (ClassId × FieldType)) (sa : SAT) (w : va_W) (sz : Nat) : State → Prop := fun U => U.heap.size = sz ∧ va_P D vwCl w U.heap ∧ va_K D vwCl tys U ∧ va_D (fun _ => True) w ∧ GE sa (va_A w sz) U U.heap
/-- the world behind it -/
def KB (D : va_G) (tys : List (ClassId × FieldType)) (w : va_W) (sz : Nat) (w1 : (Nat → Nat) → va_W) : (Nat → Nat) → State → Prop := fun ad t => va_P D vwCl (w1 ad) t.heap ∧ va_K D vwCl tys t ∧ va_D (va_A w sz) (w1 ad)
theorem KPc_blind (D : va_G) (tys : List (ClassId × FieldType)) (sa : SAT) (w : va_W) (sz : Nat) (As : List Value) : FrameBlind (va_Pc As (KPc D tys sa w sz)) := by
  intro a U g mk q
  obtain ⟨q0, q1, qP, qK, qD, qG⟩ := q
  exact ⟨q0, q1, qP, va_K.moved (u := U) (U := U.calling g mk a) (Vm.Alike.refl U.vm) qK, qD, GE.moved (s := U) (U := U.calling g mk a) (State.WarmedH.refl U) qG⟩
/-- contracts: from any heap with the world w, the method answers r0, and the world is w1 -/
def KI (l : Launch) (D : va_G) (tys : List (ClassId × FieldType)) (sa : SAT) (y : MethodName) (ws : List Cond) (rm : Room) (As : List Value) (w : va_W) (r0 : Int32) (w1 : (Nat → Nat) → va_W) (mc ms : Nat) : Prop := ∀ sz : Nat, Met l y ws rm (va_Pc As (KPc D tys sa w sz)) (va_Qi (fun (r : Int32) (_ : Nat → Nat) => r = r0) (KB D tys w sz w1) (va_A w sz)) mc ms (va_A w sz)
def KL (l : Launch) (D : va_G) (tys : List (ClassId × FieldType)) (sa : SAT) (y : MethodName) (ws : List Cond) (rm : Room) (As : List Value) (w : va_W) (r0 : Int64) (w1 : (Nat → Nat) → va_W) (mc ms : Nat) : Prop := ∀ sz : Nat, Met l y ws rm (va_Pc As (KPc D tys sa w sz)) (va_Ql (fun (r : Int64) (_ : Nat → Nat) => r = r0) (KB D tys w sz w1) (va_A w sz)) mc ms (va_A w sz)
def KV (l : Launch) (D : va_G) (tys : List (ClassId × FieldType)) (sa : SAT) (y : MethodName) (ws : List Cond) (rm : Room) (As : List Value) (w : va_W) (w1 : (Nat → Nat) → va_W) (mc ms : Nat) : Prop := ∀ sz : Nat, Met l y ws rm (va_Pc As (KPc D tys sa w sz)) (va_Qv (fun (_ : Nat → Nat) => True) (KB D tys w sz w1) (va_A w sz)) mc ms (va_A w sz)
/-- what a body has at its entry -/
def KEn (D : va_G) (tys : List (ClassId × FieldType)) (sa : SAT) (y : MethodName) (ws : List Cond) (cc : ByteArray) (maxL : Nat) (As : List Value) (w : va_W) (p : Program) (s : State) (m : MethodId) (args : Array Value) (meth : Method) (c : Code) (A : Nat → Prop) (ls : Array Slot) : Prop :=
  p.tables.exec = Jvm.exec ∧ c.code = cc ∧ c.maxLocals = maxL ∧ s.vm.findClass y.cls = some m.cls ∧ (∀ q ∈ ws, q.before args s = true) ∧ (∀ q : Nat, s.heap.size ≤ q → A q) ∧ va_P D vwCl w s.heap ∧ va_K D vwCl tys s ∧ va_D A w ∧ GE sa A s s.heap ∧ lv_has ls maxL (lv_args 0 As) ∧ meth.name = y.name
theorem KI.of {l : Launch} {D : va_G} {tys : List (ClassId × FieldType)} {sa : SAT} {y : MethodName} {ws ws' : List Cond} {rm : Room} {As : List Value} {w : va_W} {r0 : Int32} {w1 : (Nat → Nat) → va_W} {mc ms : Nat} {cc : ByteArray} {maxL : Nat}
    (hy : plainName y.cls = true) (hw : ws = Cond.code y cc maxL (some .int) :: ws') (hlen : (lg_sl As).length ≤ maxL)
    (body : ∀ (p : Program) (e : Env) (s : State) (m : MethodId) (args : Array Value) (below : List Frame) (meth : Method) (c : Code) (A : Nat → Prop) (ls : Array Slot) (Q : State → Prop), KEn D tys sa y ws cc maxL As w p s m args meth c A ls →
      (∀ (H : Heap) (locs : List Loc) (cells slots pc : Nat) (ls : Array Slot) (ad : Nat → Nat), decode cc pc = .ok (.ireturn, 1) → va_P D vwCl (w1 ad) H → va_D A (w1 ad) → va_S A s.heap H locs → cells ≤ mc → slots ≤ ms → W p l e rm s m args below meth c H locs cells slots Q (F0 m pc ls [.int r0])) →
      W p l e rm s m args below meth c s.heap [] 0 0 Q (F0 m 0 ls [])) : KI l D tys sa y ws rm As w r0 w1 mc ms := by
  intro sz
  refine Met.ofW (cc := cc) (maxL := maxL) (ret := some .int) hy hw ?_
  intro p e s m args below meth c s₁ B hml hv
  obtain ⟨rfl, hsz, hP, hK, hD0, hG⟩ := hv
  have hx := B.exec
  have hb := B.bytes
  have hr := B.returns
  have hts := atoms_spec (ws := ws) B.pre
  have hown : s.vm.findClass y.cls = some m.cls := findClass_of_methodNamed B.named
  have hlocks := B.notSynchronized
  have hnm := (name_of_methodNamed B.named B.method).1
  subst hsz
  have hD := hD0.self (sz := s.heap.size)
  have hl := lv_entry As (n := maxL) hlen
  rw [lg_entry_eq]
  refine body p e s m _ below meth c (va_A w s.heap.size) _ _ ⟨hx, hb, hml, hown, hts, fun q h => Or.inr h, hP, hK, hD, hG, hl, hnm⟩ ?_
  intro H locs cells slots pc ls ad hdg hP1 hD1 hS h1 h2
  refine W.widen (k := mc) (n := ms) h1 h2 ?_
  exact W.iret (v := r0) hx hb hr (fun t ht hW => ⟨⟨r0, ad, rfl, rfl, by rw [ht]; exact hP1, va_K.moved hW.alike hK, hD1⟩, hS.F ht⟩) hS.2.2 hdg
theorem KI.ofZ {l : Launch} {D : va_G} {tys : List (ClassId × FieldType)} {sa : SAT} {y : MethodName} {ws ws' : List Cond} {rm : Room} {As : List Value} {w : va_W} {r0 : Int32} {w1 : (Nat → Nat) → va_W} {mc ms : Nat} {cc : ByteArray} {maxL : Nat}
    (hy : plainName y.cls = true) (hw : ws = Cond.code y cc maxL (some .boolean) :: ws') (hlen : (lg_sl As).length ≤ maxL)
    (body : ∀ (p : Program) (e : Env) (s : State) (m : MethodId) (args : Array Value) (below : List Frame) (meth : Method) (c : Code) (A : Nat → Prop) (ls : Array Slot) (Q : State → Prop), KEn D tys sa y ws cc maxL As w p s m args meth c A ls →
      (∀ (H : Heap) (locs : List Loc) (cells slots pc : Nat) (ls : Array Slot) (ad : Nat → Nat), narrow .boolean (.int r0) = .int r0 → decode cc pc = .ok (.ireturn, 1) → va_P D vwCl (w1 ad) H → va_D A (w1 ad) → va_S A s.heap H locs → cells ≤ mc → slots ≤ ms → W p l e rm s m args below meth c H locs cells slots Q (F0 m pc ls [.int r0])) →
      W p l e rm s m args below meth c s.heap [] 0 0 Q (F0 m 0 ls [])) : KI l D tys sa y ws rm As w r0 w1 mc ms := by
  intro sz
  refine Met.ofW (cc := cc) (maxL := maxL) (ret := some .boolean) hy hw ?_
  intro p e s m args below meth c s₁ B hml hv
  obtain ⟨rfl, hsz, hP, hK, hD0, hG⟩ := hv
  have hx := B.exec
  have hb := B.bytes
  have hr := B.returns
  have hts := atoms_spec (ws := ws) B.pre
  have hown : s.vm.findClass y.cls = some m.cls := findClass_of_methodNamed B.named
  have hlocks := B.notSynchronized
  have hnm := (name_of_methodNamed B.named B.method).1
  subst hsz
  have hD := hD0.self (sz := s.heap.size)
  have hl := lv_entry As (n := maxL) hlen
  rw [lg_entry_eq]
  refine body p e s m _ below meth c (va_A w s.heap.size) _ _ ⟨hx, hb, hml, hown, hts, fun q h => Or.inr h, hP, hK, hD, hG, hl, hnm⟩ ?_
  intro H locs cells slots pc ls ad hnr hdg hP1 hD1 hS h1 h2
  refine W.widen (k := mc) (n := ms) h1 h2 ?_
  exact W.zret (v := r0) hx hb hr hnr (fun t ht hW => ⟨⟨r0, ad, rfl, rfl, by rw [ht]; exact hP1, va_K.moved hW.alike hK, hD1⟩, hS.F ht⟩) hS.2.2 hdg
theorem KL.of {l : Launch} {D : va_G} {tys : List (ClassId × FieldType)} {sa : SAT} {y : MethodName} {ws ws' : List Cond} {rm : Room} {As : List Value} {w : va_W} {r0 : Int64} {w1 : (Nat → Nat) → va_W} {mc ms : Nat} {cc : ByteArray} {maxL : Nat}
    (hy : plainName y.cls = true) (hw : ws = Cond.code y cc maxL (some .long) :: ws') (hlen : (lg_sl As).length ≤ maxL)
    (body : ∀ (p : Program) (e : Env) (s : State) (m : MethodId) (args : Array Value) (below : List Frame) (meth : Method) (c : Code) (A : Nat → Prop) (ls : Array Slot) (Q : State → Prop), KEn D tys sa y ws cc maxL As w p s m args meth c A ls →
      (∀ (H : Heap) (locs : List Loc) (cells slots pc : Nat) (ls : Array Slot) (ad : Nat → Nat), decode cc pc = .ok (.lreturn, 1) → va_P D vwCl (w1 ad) H → va_D A (w1 ad) → va_S A s.heap H locs → cells ≤ mc → slots ≤ ms → W p l e rm s m args below meth c H locs cells slots Q (F0 m pc ls [.long r0])) →
      W p l e rm s m args below meth c s.heap [] 0 0 Q (F0 m 0 ls [])) : KL l D tys sa y ws rm As w r0 w1 mc ms := by
  intro sz
  refine Met.ofW (cc := cc) (maxL := maxL) (ret := some .long) hy hw ?_
  intro p e s m args below meth c s₁ B hml hv
  obtain ⟨rfl, hsz, hP, hK, hD0, hG⟩ := hv
  have hx := B.exec
  have hb := B.bytes
  have hr := B.returns
  have hts := atoms_spec (ws := ws) B.pre
  have hown : s.vm.findClass y.cls = some m.cls := findClass_of_methodNamed B.named
  have hlocks := B.notSynchronized
  have hnm := (name_of_methodNamed B.named B.method).1
  subst hsz
  have hD := hD0.self (sz := s.heap.size)
  have hl := lv_entry As (n := maxL) hlen
  rw [lg_entry_eq]
  refine body p e s m _ below meth c (va_A w s.heap.size) _ _ ⟨hx, hb, hml, hown, hts, fun q h => Or.inr h, hP, hK, hD, hG, hl, hnm⟩ ?_
  intro H locs cells slots pc ls ad hdg hP1 hD1 hS h1 h2
  refine W.widen (k := mc) (n := ms) h1 h2 ?_
  exact W.lret (v := r0) hx hb hr (fun t ht hW => ⟨⟨r0, ad, rfl, rfl, by rw [ht]; exact hP1, va_K.moved hW.alike hK, hD1⟩, hS.F ht⟩) hS.2.2 hdg
theorem KV.of {l : Launch} {D : va_G} {tys : List (ClassId × FieldType)} {sa : SAT} {y : MethodName} {ws ws' : List Cond} {rm : Room} {As : List Value} {w : va_W} {w1 : (Nat → Nat) → va_W} {mc ms : Nat} {cc : ByteArray} {maxL : Nat}
    (hy : plainName y.cls = true) (hw : ws = Cond.code y cc maxL none :: ws') (hlen : (lg_sl As).length ≤ maxL)
    (body : ∀ (p : Program) (e : Env) (s : State) (m : MethodId) (args : Array Value) (below : List Frame) (meth : Method) (c : Code) (A : Nat → Prop) (ls : Array Slot) (Q : State → Prop), KEn D tys sa y ws cc maxL As w p s m args meth c A ls →
      (∀ (H : Heap) (locs : List Loc) (cells slots pc : Nat) (ls : Array Slot) (ad : Nat → Nat), decode cc pc = .ok (.return_, 1) → va_P D vwCl (w1 ad) H → va_D A (w1 ad) → va_S A s.heap H locs → cells ≤ mc → slots ≤ ms → W p l e rm s m args below meth c H locs cells slots Q (F0 m pc ls [])) →
      W p l e rm s m args below meth c s.heap [] 0 0 Q (F0 m 0 ls [])) : KV l D tys sa y ws rm As w w1 mc ms := by
  intro sz
  refine Met.ofW (cc := cc) (maxL := maxL) (ret := none) hy hw ?_
  intro p e s m args below meth c s₁ B hml hv
  obtain ⟨rfl, hsz, hP, hK, hD0, hG⟩ := hv
  have hx := B.exec
  have hb := B.bytes
  have hr := B.returns
  have hts := atoms_spec (ws := ws) B.pre
  have hown : s.vm.findClass y.cls = some m.cls := findClass_of_methodNamed B.named
  have hlocks := B.notSynchronized
  have hnm := (name_of_methodNamed B.named B.method).1
  subst hsz
  have hD := hD0.self (sz := s.heap.size)
  have hl := lv_entry As (n := maxL) hlen
  rw [lg_entry_eq]
  refine body p e s m _ below meth c (va_A w s.heap.size) _ _ ⟨hx, hb, hml, hown, hts, fun q h => Or.inr h, hP, hK, hD, hG, hl, hnm⟩ ?_
  intro H locs cells slots pc ls ad hdg hP1 hD1 hS h1 h2
  refine W.widen (k := mc) (n := ms) h1 h2 ?_
  exact W.vret hx hb hr (fun t ht hW => ⟨⟨ad, rfl, trivial, by rw [ht]; exact hP1, va_K.moved hW.alike hK, hD1⟩, hS.F ht⟩) hS.2.2 hdg
/-- the world with the places is set anew -/
def kput : va_W → List Nat → va_W → va_W
  | w, i :: is, q :: qs => kput (w.set i q) is qs
  | w, [], _ => w
  | w, _ :: _, [] => w
theorem kput_get {k : Nat} {x : Nat × va_E} : ∀ (is : List Nat) (qs w : va_W), is.length = qs.length → (kput w is qs)[k]? = some x → (∃ j : Nat, is[j]? = some k ∧ qs[j]? = some x) ∨ (w[k]? = some x ∧ k ∉ is) := by
  intro is
  induction is with
  | nil =>
    intro qs w _ h
    exact Or.inr ⟨by simpa [kput] using h, List.not_mem_nil⟩
  | cons i is ih =>
    intro qs w hl h
    cases qs with
    | nil => simp at hl
    | cons q qs =>
      rcases ih qs (w.set i q) (by simpa using hl) h with ⟨j, h1, h2⟩ | ⟨h1, h2⟩
      · exact Or.inl ⟨j + 1, by simpa using h1, by simpa using h2⟩
      · by_cases hk : k = i
        · subst hk
          refine Or.inl ⟨0, rfl, ?_⟩
          have hlt : k < (w.set k q).length := (List.getElem?_eq_some_iff.mp h1).1
          rw [List.length_set] at hlt
          rw [List.getElem?_set_self hlt] at h1
          simpa using h1
        · rw [List.getElem?_set_ne (fun e => hk e.symm)] at h1
          refine Or.inr ⟨h1, fun hm => ?_⟩
          rcases List.mem_cons.mp hm with e | e
          · exact hk e
          · exact h2 e
theorem kmap_len {α β : Type} {is : List α} {g : α → Option β} {ws : List β} (h : is.map g = ws.map some) : is.length = ws.length := by
  have := congrArg List.length h
  simpa using this
theorem kmap_get {is : List Nat} {w wc : va_W} {j k : Nat} {x : Nat × va_E} (hC : is.map (fun i => w[i]?) = wc.map some) (h1 : is[j]? = some k) (h2 : wc[j]? = some x) : w[k]? = some x := by
  have h3 : (is.map (fun i => w[i]?))[j]? = some (some x) := by rw [hC, List.getElem?_map, h2]; rfl
  rw [List.getElem?_map, h1] at h3
  exact Option.some.inj h3
theorem kjoin {A0 : Nat → Prop} {D : va_G} {w wc wm : va_W} {H H1 : Heap} (hP : va_P D vwCl w H) (hD : va_D A0 w) (isC : List Nat) (hC : isC.map (fun i => w[i]?) = wc.map some) (hm : wm.map (fun q => q.1) = wc.map (fun q => q.1))
    (hk : ∀ q : Nat, q < H.size → ¬ va_A wc H.size q → H1[q]? = H[q]?) (hP1 : va_P D vwCl wm H1) : va_P D vwCl (kput w isC wm) H1 ∧ va_D A0 (kput w isC wm) := by
  have hlen : isC.length = wm.length := by
    have h1 := kmap_len hC
    have h2 := congrArg List.length hm
    rw [List.length_map, List.length_map] at h2
    omega
  have key : ∀ (k : Nat) (x : Nat × va_E), (kput w isC wm)[k]? = some x → ∃ e, w[k]? = some (x.1, e) := by
    intro k x hx
    rcases kput_get isC wm w hlen hx with ⟨j, h1, h2⟩ | ⟨h1, -⟩
    · have hj : (wm.map (fun q => q.1))[j]? = some x.1 := by rw [List.getElem?_map, h2]; rfl
      rw [hm, List.getElem?_map] at hj
      cases hw : wc[j]? with
      | none => rw [hw] at hj; cases hj
      | some y =>
        rw [hw] at hj
        have e1 : y.1 = x.1 := Option.some.inj hj
        have := kmap_get hC h1 hw
        exact ⟨y.2, by rw [this, ← e1]⟩
    · exact ⟨x.2, h1⟩
  refine ⟨fun k x hx => ?_, fun i j a b ha hb hab => ?_, fun k x hx => ?_⟩
  · rcases kput_get isC wm w hlen hx with ⟨j, h1, h2⟩ | ⟨h1, hn⟩
    · exact hP1 j x h2
    · refine (hP k x h1).kept (hk x.1 (hP k x h1).lt ?_)
      rintro (⟨k2, e, h⟩ | h)
      · have h3 : k2 < isC.length := by
          rw [kmap_len hC]
          exact (List.getElem?_eq_some_iff.mp h).1
        obtain ⟨i2, hi2⟩ : ∃ i2, isC[k2]? = some i2 := ⟨_, List.getElem?_eq_getElem h3⟩
        have h4 := kmap_get hC hi2 h
        have h5 := hD.1 i2 k _ _ h4 h1 rfl
        subst h5
        exact hn (List.mem_of_getElem? hi2)
      · exact absurd (hP k x h1).lt (Nat.not_lt.mpr h)
  · obtain ⟨e1, h1⟩ := key i a ha
    obtain ⟨e2, h2⟩ := key j b hb
    exact hD.1 i j _ _ h1 h2 hab
  · obtain ⟨e1, h1⟩ := key k x hx
    exact hD.2 k (x.1, e1) h1
/-- a reader's world comes back as it was -/
theorem kread {D : va_G} {w wc : va_W} {A0 : Nat → Prop} {H H1 : Heap} (hP : va_P D vwCl w H) (hD : va_D A0 w) (isC : List Nat) (hC : isC.map (fun i => w[i]?) = wc.map some)
    (hk : ∀ q : Nat, q < H.size → ¬ va_A wc H.size q → H1[q]? = H[q]?) (hP1 : va_P D vwCl wc H1) : va_P D vwCl w H1 := by
  intro k x hx
  by_cases hn : k ∈ isC
  · obtain ⟨j, hj⟩ := List.getElem?_of_mem hn
    have h3 : j < wc.length := by
      rw [← kmap_len hC]
      exact (List.getElem?_eq_some_iff.mp hj).1
    have h4 := kmap_get hC hj (List.getElem?_eq_getElem h3)
    rw [h4] at hx
    have := hP1 j _ (List.getElem?_eq_getElem h3)
    rw [Option.some.inj hx] at this
    exact this
  · refine (hP k x hx).kept (hk x.1 (hP k x hx).lt ?_)
    rintro (⟨k2, e, h⟩ | h)
    · have h3 : k2 < isC.length := by
        rw [kmap_len hC]
        exact (List.getElem?_eq_some_iff.mp h).1
      obtain ⟨i2, hi2⟩ : ∃ i2, isC[k2]? = some i2 := ⟨_, List.getElem?_eq_getElem h3⟩
      have h4 := kmap_get hC hi2 h
      have h5 := hD.1 i2 k _ _ h4 hx rfl
      subst h5
      exact hn (List.mem_of_getElem? hi2)
    · exact absurd (hP k x hx).lt (Nat.not_lt.mpr h)
