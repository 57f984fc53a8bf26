theorem Met_ofWF {l : Launch} {y : MethodName} {ws ws' : List Cond} {rm : Room} {Pc : Array Value → State → Prop} {Qc : Array Value → State → Outcome → State → Prop} {mc ms : Nat} {free : Addr → Prop} {cc : ByteArray} {maxL : Nat} {ret : Option FieldType}
    (hy : plainFor y = true) (hw : ws = Cond.code y cc maxL ret :: ws')
    (body : ∀ p e s m args below meth c s₁, BodyLoose p l y (headSpec ws rm) cc maxL ret e s m args below meth c s₁ → c.maxLocals = maxL → Pc args s →
      W p l e (headSpec ws rm).room s m args below meth c s.heap [] 0 0 (MQ below Qc args s mc ms free) (entryFrame m args maxL)) : Met l y ws rm Pc Qc mc ms free := by
  refine MetFree.of_bodySF (code := cc) (maxLocals := maxL) (ret := ret) hy ?_ ?_
  · intro args s m h hn
    obtain ⟨meth, c, h1, h2, h3, h4, h5, h6, -, -⟩ := Cond.code_spec hn (atoms_spec (ws := ws) h _ (by rw [hw]; exact List.mem_cons_self))
    exact ⟨meth, c, h1, h2, h3, h4, h5, h6⟩
  · intro p e s m args below meth c s₁ B hml hP _
    have hh0 : s₁.heap = s.heap := by rw [B.state]; rfl
    obtain ⟨t, a1, o, b1, b2, b3⟩ := body p e s m args below meth c s₁ B hml hP s₁ hh0 (Stand.of_body B)
    exact ⟨t, o, a1, b1, b2, ⟨b3.1, b3.2⟩⟩
theorem KI.ofF {l : Launch} {D : va_G} {tys : List (ClassId × FieldType)} {sa : SAT} {y : MethodName} {ws ws' : List Cond} {rm : Room} {As : List Value} {w : va_W} {r0 : Int32} {w1 : (Nat → Nat) → va_W} {mc ms : Nat} {cc : ByteArray} {maxL : Nat}
    (hy : plainFor y = true) (hw : ws = Cond.code y cc maxL (some .int) :: ws') (hlen : (lg_sl As).length ≤ maxL)
    (body : ∀ (p : Program) (e : Env) (s : State) (m : MethodId) (args : Array Value) (below : List Frame) (meth : Method) (c : Code) (A : Nat → Prop) (ls : Array Slot) (Q : State → Prop), KEn D tys sa y ws cc maxL As w p s m args meth c A ls →
      (∀ (H : Heap) (locs : List Loc) (cells slots pc : Nat) (ls : Array Slot) (ad : Nat → Nat), decode cc pc = .ok (.ireturn, 1) → va_P D vwCl (w1 ad) H → va_D A (w1 ad) → va_S A s.heap H locs → cells ≤ mc → slots ≤ ms → W p l e rm s m args below meth c H locs cells slots Q (F0 m pc ls [.int r0])) →
      W p l e rm s m args below meth c s.heap [] 0 0 Q (F0 m 0 ls [])) : KI l D tys sa y ws rm As w r0 w1 mc ms := by
  intro sz
  refine Met_ofWF (cc := cc) (maxL := maxL) (ret := some .int) hy hw ?_
  intro p e s m args below meth c s₁ B hml hv
  obtain ⟨rfl, hsz, hP, hK, hD0, hG⟩ := hv
  have hx := B.exec
  have hb := B.bytes
  have hr := B.returns
  have hts := atoms_spec (ws := ws) B.pre
  have hown : s.vm.findClass y.cls = some m.cls := findClass_of_methodNamed B.named
  have hlocks := B.notSynchronized
  have hnm := (name_of_methodNamed B.named B.method).1
  subst hsz
  have hD := hD0.self (sz := s.heap.size)
  have hl := lv_entry As (n := maxL) hlen
  rw [lg_entry_eq]
  refine body p e s m _ below meth c (va_A w s.heap.size) _ _ ⟨hx, hb, hml, hown, hts, fun q h => Or.inr h, hP, hK, hD, hG, hl, hnm⟩ ?_
  intro H locs cells slots pc ls ad hdg hP1 hD1 hS h1 h2
  refine W.widen (k := mc) (n := ms) h1 h2 ?_
  exact W.iret (v := r0) hx hb hr (fun t ht hW => ⟨⟨r0, ad, rfl, rfl, by rw [ht]; exact hP1, va_K.moved hW.alike hK, hD1⟩, hS.F ht⟩) hS.2.2 hdg
section KE
variable {p : Program} {l : Launch} {e : Env} {R : Room} {s : State} {m : MethodId} {args : Array Value} {below : List Frame} {meth : Method} {c : Code} {H : Heap} {locs : List Loc} {cells slots : Nat} {Q : State → Prop}
variable {D : va_G} {tys : List (ClassId × FieldType)} {pc : Nat} {ls : Array Slot} {rest st0 : List Value} {a : Array Value} {A0 : Nat → Prop} {H0 : Heap} {mc ms : Nat} {w wc wm w2 : va_W}
theorem kwIE {r0 : Int32} (hr : va_Run p l e R s m args below meth c H locs cells slots mc ms (F0 m pc ls st0) rest (va_Qi (fun (r : Int32) (_ : Nat → Nat) => r = r0) (KB D tys wc H.size (fun _ => wm)) (va_A wc H.size) a) (va_A wc H.size)) (hP : va_P D vwCl w H) (hD : va_D A0 w) (hS : va_S A0 H0 H locs) (hA : ∀ q, H0.size ≤ q → A0 q) (isC : List Nat) (hC : isC.map (fun i => w[i]?) = wc.map some) (hm : wm.map (fun q => q.1) = wc.map (fun q => q.1)) (hw : kput w isC wm = w2)
    (kk : ∀ (H1 : Heap) (locs1 : List Loc), va_P D vwCl w2 H1 → va_D A0 w2 → va_S A0 H0 H1 locs1 → W p l e R s m args below meth c H1 locs1 (cells + mc) (slots + ms) Q (F0 m (pc + 3) ls (.int r0 :: rest))) : W p l e R s m args below meth c H locs cells slots Q (F0 m pc ls st0) := by
  subst hw
  exact kwI hr hP hD hS hA isC hC hm kk
theorem kwVE (hr : va_Run p l e R s m args below meth c H locs cells slots mc ms (F0 m pc ls st0) rest (va_Qv (fun (_ : Nat → Nat) => True) (KB D tys wc H.size (fun _ => wm)) (va_A wc H.size) a) (va_A wc H.size)) (hP : va_P D vwCl w H) (hD : va_D A0 w) (hS : va_S A0 H0 H locs) (hA : ∀ q, H0.size ≤ q → A0 q) (isC : List Nat) (hC : isC.map (fun i => w[i]?) = wc.map some) (hm : wm.map (fun q => q.1) = wc.map (fun q => q.1)) (hw : kput w isC wm = w2)
    (kk : ∀ (H1 : Heap) (locs1 : List Loc), va_P D vwCl w2 H1 → va_D A0 w2 → va_S A0 H0 H1 locs1 → W p l e R s m args below meth c H1 locs1 (cells + mc) (slots + ms) Q (F0 m (pc + 3) ls rest)) : W p l e R s m args below meth c H locs cells slots Q (F0 m pc ls st0) := by
  subst hw
  exact kwV hr hP hD hS hA isC hC hm kk
end KE
theorem kset_mid (x y : Nat × va_E) (r : List (Nat × va_E)) : ∀ pre : List (Nat × va_E), (pre ++ (x :: r)).set pre.length y = pre ++ (y :: r)
  | [] => rfl
  | q :: pre => congrArg (fun l => q :: l) (kset_mid x y r pre)
theorem kput_block : ∀ (mid new pre post : List (Nat × va_E)), mid.length = new.length → kput (pre ++ (mid ++ post)) (List.range' pre.length mid.length) new = pre ++ (new ++ post)
  | [], new, pre, post, h => by
    have e : new = [] := List.eq_nil_of_length_eq_zero h.symm
    subst e
    rfl
  | x :: mid, [], pre, post, h => by cases h
  | x :: mid, y :: new, pre, post, h => by
    have ih := kput_block mid new (pre ++ [y]) post (Nat.succ.inj h)
    rw [List.length_append, List.append_assoc, List.append_assoc] at ih
    have e := kset_mid x y (mid ++ post) pre
    show kput ((pre ++ (x :: (mid ++ post))).set pre.length y) (List.range' (pre.length + 1) mid.length) new = _
    rw [e]
    exact ih
theorem kput_app : ∀ (is1 is2 : List Nat) (n1 n2 w : va_W), is1.length = n1.length → kput w (is1 ++ is2) (n1 ++ n2) = kput (kput w is1 n1) is2 n2
  | [], is2, n1, n2, w, h => by
    have e : n1 = [] := List.eq_nil_of_length_eq_zero h.symm
    subst e
    show kput w is2 n2 = kput (kput w [] []) is2 n2
    rfl
  | i :: is1, is2, [], n2, w, h => by cases h
  | i :: is1, is2, y :: n1, n2, w, h => kput_app is1 is2 n1 n2 (w.set i y) (Nat.succ.inj h)
theorem kput_at {w mid new pre post w2 : va_W} {is : List Nat} (hw : w = pre ++ (mid ++ post)) (his : is = List.range' pre.length mid.length) (hl : mid.length = new.length) (h2 : pre ++ (new ++ post) = w2) : kput w is new = w2 := by
  subst hw; subst his; subst h2
  exact kput_block mid new pre post hl
def ckB {α : Type} (z : Int32) (k : Option α) : Option α := if z = 0 ∨ z = 1 then k else none
theorem ckB_some {α : Type} {z : Int32} {k : Option α} {r : α} (h : ckB z k = some r) : narrow .boolean (.int z) = .int z ∧ k = some r := by
  unfold ckB at h
  by_cases c : z = 0 ∨ z = 1
  · rw [if_pos c] at h
    refine ⟨?_, h⟩
    rcases c with rfl | rfl <;> rfl
  · rw [if_neg c] at h
    cases h
