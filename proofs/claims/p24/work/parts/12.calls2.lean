/-! throwing -/
abbrev exNames : List String := ["java/lang/RuntimeException", "java/lang/Exception"]
def exN : Nat → String
  | 0 => "java/lang/IndexOutOfBoundsException"
  | 1 => "java/lang/IllegalArgumentException"
  | _ => "java/lang/IllegalStateException"
def KX (l : Launch) (D : va_G) (tys : List (ClassId × FieldType)) (sa : SAT) (y : MethodName) (ws : List Cond) (rm : Room) (As : List Value) (w : va_W) (E0 : String) (mc ms : Nat) : Prop := ∀ sz : Nat, vx_Met l y ws rm (va_Pc As (KPc D tys sa w sz)) (va_Qi (fun (_ : Int32) (_ : Unit) => False) (fun _ _ => True) (va_A w sz)) (vx_X (fun (_ : Unit) => True) (fun E _ t => E = E0 ∧ va_P D vwCl w t.heap ∧ va_K D vwCl tys t ∧ va_D (va_A w sz) w) (va_A w sz)) mc ms (va_A w sz)
theorem KX.of {l : Launch} {D : va_G} {tys : List (ClassId × FieldType)} {sa : SAT} {y : MethodName} {ws ws' : List Cond} {rm : Room} {As : List Value} {w : va_W} {E0 : String} {mc ms : Nat} {cc : ByteArray} {maxL : Nat} {ret : Option FieldType} (hst : l.stackTraces = false)
    (hy : plainName y.cls = true) (hw : ws = Cond.code y cc maxL ret :: ws') (hlen : (lg_sl As).length ≤ maxL) (hrf : 6 ≤ rm.frames) (hrl : 98 ≤ rm.locals) (hrc : mc ≤ rm.cells) (hrs : ms ≤ rm.slots)
    (body : ∀ (p : Program) (e : Env) (s : State) (m : MethodId) (args : Array Value) (below : List Frame) (meth : Method) (c : Code) (A : Nat → Prop) (ls : Array Slot) (Q : State → Prop), KEn D tys sa y ws cc maxL As w p s m args meth c A ls →
      (∀ (H : Heap) (locs : List Loc) (cells slots pc ik is ic : Nat) (ls : Array Slot) (rest : List Value) (text : String), decode cc pc = .ok (.new ik, 3) → decode cc (pc + 3) = .ok (.dup, 1) → decode cc (pc + 4) = .ok (.ldc is, 2) → decode cc (pc + 6) = .ok (.invokespecial ic, 3) → decode cc (pc + 9) = .ok (.athrow, 1) →
        (Cond.classLink RX5 ik E0).before args s = true → (Cond.initialized E0).before args s = true → (is, text) ∈ strL → (∀ q ∈ vx_atS RX5 ic E0 exNames, q.before args s = true) → (Bundle.fit E0 = true ∧ (∀ q ∈ Cond.classLink RX5 ik E0 :: Cond.initialized E0 :: vx_atS RX5 ic E0 exNames, vx_ot q = true)) →
        va_P D vwCl w H → va_D A w → va_S A s.heap H locs → ls.size = maxL → (rest.map fun v => v.category).sum ≤ 8 → cells + 1 ≤ mc → slots + 6 ≤ ms → W p l e rm s m args below meth c H locs cells slots Q (F0 m pc ls rest)) →
      W p l e rm s m args below meth c s.heap [] 0 0 Q (F0 m 0 ls [])) (hyc : y.cls = RX5 := by rfl) : KX l D tys sa y ws rm As w E0 mc ms := by
  intro sz
  refine vx_ofW (cc := cc) (maxL := maxL) (ret := ret) hy hw ?_
  intro p e s m args below meth c s₁ B hml htab hv
  obtain ⟨rfl, hsz, hP, hK, hD0, hG⟩ := hv
  have hx := B.exec
  have hb := B.bytes
  have hr := B.returns
  have hts := atoms_spec (ws := ws) B.pre
  have hown : s.vm.findClass y.cls = some m.cls := findClass_of_methodNamed B.named
  have hlocks := B.notSynchronized
  have hnm := (name_of_methodNamed B.named B.method).1
  subst hsz
  have hD := hD0.self (sz := s.heap.size)
  have hl := lv_entry As (n := maxL) hlen
  rw [lg_entry_eq]
  refine body p e s m _ below meth c (va_A w s.heap.size) _ _ ⟨hx, hb, hml, hown, hts, fun q h => Or.inr h, hP, hK, hD, hG, hl, hnm⟩ ?_
  intro H locs cells slots pc ik is ic ls rest text d0 d3 d4 d6 d9 hk hini hstr hat hgood hP1 hD1 hS hls hcat h1 h2
  obtain ⟨sa9, hstr⟩ := hG.1.2.2.1 _ hstr
  have hownR : s.vm.findClass RX5 = some m.cls := by rw [← hyc]; exact hown
  refine vx_throwS (own := RX5) (cls := E0) (text := text) (names := exNames) (A := va_A w s.heap.size) hx hb hst hownR hgood.1 (by decide +kernel) hk hini hstr hat hgood.2 hG.2.2.2.2.1 hG.2.2.2.2.2.1 hS (hls.trans hml.symm) d0 d3 d4 d6 d9 (fun x hx9 => (htab x hx9).elim) (Nat.lt_of_lt_of_le (by decide) hrf) (Nat.le_trans (Nat.add_le_add hcat (Nat.le_of_ble_eq_true rfl : 13 * (exNames.length + 1) + 43 ≤ 90)) hrl) (Nat.le_trans h1 hrc) (Nat.le_trans h2 hrs) hlocks ?_ hS.2.2 h1 h2
  intro t hvm hz hk9
  refine ⟨(), trivial, ⟨rfl, hP1.kept (fun k q hq => hk9 q.1 (hP1 k q hq).lt), hK.moved hvm, hD1⟩, Nat.le_trans hS.1 hz, fun q g1 g2 => ?_⟩
  rw [hk9 q (Nat.lt_of_lt_of_le g1 hS.1)]
  exact hS.2.1 q g1 g2
