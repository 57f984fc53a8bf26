/-! the law's world: the class's cells first, then the law's object and its rows -/
theorem zw_l {P : va_W} {cy : Nat → ClassId} {hs : Nat} {ad : Nat → Nat} {G : FN} {F : Nat → Nat} {h : zs_H} : zs_W P cy hs ad G F h = P ++ zs_W [] cy hs ad G F h := by
  show (P ++ [_]) ++ _ = P ++ (([] ++ [_]) ++ _)
  rw [List.append_assoc]
  rfl
theorem zw_map1 {P : va_W} {cy : Nat → ClassId} {hs : Nat} {ad : Nat → Nat} {G : FN} {F : Nat → Nat} {h : zs_H} : (List.range P.length).map (fun i => (zs_W P cy hs ad G F h)[i]?) = P.map some := by
  rw [zw_l]
  exact zp_map _ _
theorem zw_map2 {P : va_W} {cy : Nat → ClassId} {hs : Nat} {ad : Nat → Nat} {G : FN} {F : Nat → Nat} {h : zs_H} : (List.range' P.length (zs_W [] cy hs ad G F h).length).map (fun i => (zs_W P cy hs ad G F h)[i]?) = (zs_W [] cy hs ad G F h).map some := by
  have e : zs_W P cy hs ad G F h = P ++ zs_W [] cy hs ad G F h := zw_l
  rw [e]
  exact zp_map2 _ _
/-- what a maker of rows leaves: references to rows, no fewer rows, the old ones where they were -/
def zs_ok (h : zs_H) (F2 : Nat → Nat) (h2 : zs_H) (ad u : Nat → Nat) : Prop := zs_wf h2 ∧ zs_fs F2 h2 ∧ h.1 ≤ h2.1 ∧ ∀ i, i < h.1 → u i = ad i
theorem zs_cl_row {h h1 : zs_H} {q B : Nat} (z : zs_cl h q B = some h1) : ∃ x, h1.2 h.1 = .inl x := by
  obtain ⟨k, f, -, -, -, rfl⟩ := zs_cl_of z
  exact ⟨(k, f), if_pos rfl⟩
section ZWC
variable {p : Program} {l : Launch} {e : Env} {R : Room} {s : State} {m : MethodId} {args : Array Value} {below : List Frame} {meth : Method} {c : Code} {H : Heap} {locs : List Loc} {cells slots : Nat} {Q : State → Prop}
variable {D : va_G} {cy : Nat → ClassId} {sa : SAT} {pc : Nat} {ls : Array Slot} {rest st0 : List Value} {a : Array Value} {A0 : Nat → Prop} {H0 : Heap} {mc ms : Nat} {P P2 : va_W} {hs : Nat} {ad : Nat → Nat} {G G2 : FN} {F F2 : Nat → Nat} {h h2 : zs_H} {cc : ByteArray}
theorem zw_rI {r0 : Int32} (hr : va_Run p l e R s m args below meth c H locs cells slots mc ms (F0 m pc ls st0) rest (va_Qi (fun (r : Int32) (_ : Nat → Nat) => r = r0) (KB D (tyW cy) (zs_W [] cy hs ad G F h) H.size (fun _ => zs_W [] cy hs ad G F h)) (va_A (zs_W [] cy hs ad G F h) H.size) a) (va_A (zs_W [] cy hs ad G F h) H.size)) (hP : va_P D vwCl (zs_W P cy hs ad G F h) H) (hD : va_D A0 (zs_W P cy hs ad G F h)) (hS : va_S A0 H0 H locs) (hA : ∀ q, H0.size ≤ q → A0 q)
    (kk : ∀ (H1 : Heap) (locs1 : List Loc), va_P D vwCl (zs_W P cy hs ad G F h) H1 → va_S A0 H0 H1 locs1 → W p l e R s m args below meth c H1 locs1 (cells + mc) (slots + ms) Q (F0 m (pc + 3) ls (.int r0 :: rest))) : W p l e R s m args below meth c H locs cells slots Q (F0 m pc ls st0) := krI hr hP hD hS hA _ zw_map2 kk
theorem zw_I {post : Int32 → (Nat → Nat) → Prop} (hr : va_Run p l e R s m args below meth c H locs cells slots mc ms (F0 m pc ls st0) rest (va_Qi post (zg_B D (tyW cy) (zs_W [] cy hs ad G F h) H.size (fun u => zs_W [] cy hs u G2 F2 h2)) (va_A (zs_W [] cy hs ad G F h) H.size) a) (va_A (zs_W [] cy hs ad G F h) H.size)) (hP : va_P D vwCl (zs_W P cy hs ad G F h) H) (hD : va_D A0 (zs_W P cy hs ad G F h)) (hS : va_S A0 H0 H locs) (hA : ∀ q, H0.size ≤ q → A0 q)
    (kk : ∀ (r : Int32) (u : Nat → Nat) (H1 : Heap) (locs1 : List Loc), post r u → va_P D vwCl (zs_W P cy hs u G2 F2 h2) H1 → va_D A0 (zs_W P cy hs u G2 F2 h2) → va_S A0 H0 H1 locs1 → W p l e R s m args below meth c H1 locs1 (cells + mc) (slots + ms) Q (F0 m (pc + 3) ls (.int r :: rest))) : W p l e R s m args below meth c H locs cells slots Q (F0 m pc ls st0) := by
  rw [zw_l] at hP hD
  refine zc_I hr hP hD hS hA (fun r u H1 locs1 hp hP hD hS => ?_)
  exact kk r u H1 locs1 hp (by rw [zw_l]; exact hP) (by rw [zw_l]; exact hD) hS
theorem zw_R {post : (Nat → Nat) → Prop} {pa : (Nat → Nat) → Nat} (hr : va_Run p l e R s m args below meth c H locs cells slots mc ms (F0 m pc ls st0) rest (va_Qr post (fun u x t => x = pa u ∧ zg_B D (tyW cy) (zs_W [] cy hs ad G F h) H.size (fun u => zs_W [] cy hs u G2 F2 h2) u t) (va_A (zs_W [] cy hs ad G F h) H.size) a) (va_A (zs_W [] cy hs ad G F h) H.size)) (hP : va_P D vwCl (zs_W P cy hs ad G F h) H) (hD : va_D A0 (zs_W P cy hs ad G F h)) (hS : va_S A0 H0 H locs) (hA : ∀ q, H0.size ≤ q → A0 q)
    (kk : ∀ (u : Nat → Nat) (H1 : Heap) (locs1 : List Loc), post u → va_P D vwCl (zs_W P cy hs u G2 F2 h2) H1 → va_D A0 (zs_W P cy hs u G2 F2 h2) → va_S A0 H0 H1 locs1 → W p l e R s m args below meth c H1 locs1 (cells + mc) (slots + ms) Q (F0 m (pc + 3) ls (.ref (pa u) :: rest))) : W p l e R s m args below meth c H locs cells slots Q (F0 m pc ls st0) := by
  rw [zw_l] at hP hD
  refine zc_R hr hP hD hS hA (fun u H1 locs1 hp hP hD hS => ?_)
  exact kk u H1 locs1 hp (by rw [zw_l]; exact hP) (by rw [zw_l]; exact hD) hS
theorem zw_xI {r0 : Int32} (hr : va_Run p l e R s m args below meth c H locs cells slots mc ms (F0 m pc ls st0) rest (va_Qi (fun (r : Int32) (_ : Nat → Nat) => r = r0) (KB D (tyW cy) P H.size (fun _ => P2)) (va_A P H.size) a) (va_A P H.size)) (hP : va_P D vwCl (zs_W P cy hs ad G F h) H) (hD : va_D A0 (zs_W P cy hs ad G F h)) (hS : va_S A0 H0 H locs) (hA : ∀ q, H0.size ≤ q → A0 q) (hm : P2.map (fun q => q.1) = P.map (fun q => q.1))
    (kk : ∀ (H1 : Heap) (locs1 : List Loc), va_P D vwCl (zs_W P2 cy hs ad G F h) H1 → va_D A0 (zs_W P2 cy hs ad G F h) → va_S A0 H0 H1 locs1 → W p l e R s m args below meth c H1 locs1 (cells + mc) (slots + ms) Q (F0 m (pc + 3) ls (.int r0 :: rest))) : W p l e R s m args below meth c H locs cells slots Q (F0 m pc ls st0) := by
  rw [zw_l] at hP hD
  refine zc_xI hr hP hD hS hA hm (fun H1 locs1 hP hD hS => ?_)
  exact kk H1 locs1 (by rw [zw_l]; exact hP) (by rw [zw_l]; exact hD) hS
theorem zw_xD {r0 : UInt64} (hr : va_Run p l e R s m args below meth c H locs cells slots mc ms (F0 m pc ls st0) rest (va_Qd (fun (r : UInt64) (_ : Nat → Nat) => r = r0) (KB D (tyW cy) P H.size (fun _ => P)) (va_A P H.size) a) (va_A P H.size)) (hP : va_P D vwCl (zs_W P cy hs ad G F h) H) (hD : va_D A0 (zs_W P cy hs ad G F h)) (hS : va_S A0 H0 H locs) (hA : ∀ q, H0.size ≤ q → A0 q)
    (kk : ∀ (H1 : Heap) (locs1 : List Loc), va_P D vwCl (zs_W P cy hs ad G F h) H1 → va_S A0 H0 H1 locs1 → W p l e R s m args below meth c H1 locs1 (cells + mc) (slots + ms) Q (F0 m (pc + 3) ls (.double r0 :: rest))) : W p l e R s m args below meth c H locs cells slots Q (F0 m pc ls st0) := krD hr hP hD hS hA _ zw_map1 kk
theorem sx_cast (hx : p.tables.exec = Jvm.exec) (hb : c.code = cc) {own : String} {index : Nat} (hown : s.vm.findClass own = some m.cls) (hlink : (Cond.classLink own index "[I").before args s = true) (hK : va_K D vwCl (tyW cy) s) (hP : va_P D vwCl (zs_W P cy hs ad G F h) H) {q : Nat} (hq : q < h.1) (he : ∃ x, h.2 q = .inl x) (hdg : decode cc pc = .ok (.checkcast index, 3))
    (kk : W p l e R s m args below meth c H locs cells slots Q (F0 m (pc + 3) ls (.ref (ad q) :: rest))) : W p l e R s m args below meth c H locs cells slots Q (F0 m pc ls (.ref (ad q) :: rest)) := by
  obtain ⟨x, hx2⟩ := he
  refine va_castA (cA := cy 0) (x := (x.1, .inl x.2)) hx hb hown hlink hP ((P ++ [(hs, .inr (6, zs_obj ad G F))] : va_W).length + q) ?_ (show s.vm.findClass "[I" = some (cy 0) from (hK.2 0 _ rfl).2) hdg kk
  rw [zs_rows_get hq, hx2]
  rfl
end ZWC
section ZKV
variable {p : Program} {l : Launch} {e : Env} {R : Room} {s : State} {m : MethodId} {args : Array Value} {below : List Frame} {meth : Method} {c : Code} {H : Heap} {locs : List Loc} {cells slots : Nat} {Q : State → Prop}
variable {D : va_G} {tys : List (ClassId × FieldType)} {sa : SAT} {pc : Nat} {ls : Array Slot} {rest st0 : List Value} {w wc : va_W} {y : MethodName} {bytes cc : ByteArray} {maxL nL n index mc ms : Nat} {ret : Option FieldType} {ws : List Cond} {rm : Room} {Qc : Array Value → State → Outcome → State → Prop} {free : Addr → Prop} {Ts : List Cond} {own C : String} {b : Addr} {As : List Value}
/-- a virtual call, the receiver at any place of the callee's world -/
theorem kVj {A : Nat → Prop} (S : CallFix p m c cc nL s args Ts own) (hM : Met l y ws rm (va_Pc (.ref b :: As) (KPc D tys sa wc H.size)) Qc mc ms free) (cw : CallW R s args own C index y bytes maxL ret ws rm mc ms n) (hK : va_K D vwCl tys s) (hP : va_P D vwCl w H) (hD : va_D A w) (hS : va_S A s.heap H locs) (hA : ∀ q, s.heap.size ≤ q → A q) (hG : GE sa A s s.heap) (isC : List Nat) (hC : isC.map (fun i => w[i]?) = wc.map some) (hnd : va_nd isC = true)
    {ci j : Nat} {fs : List Value} {q : vw_C} (hb : wc[j]? = some (b, .inr (ci, fs))) (hc : vwCl[ci]? = some q) (hq : q.1 = C) (hn : As.length = n) (hls : ls.size = nL) (rest : List Value) (hst : st0 = As.reverse ++ .ref b :: rest) (hcat : (rest.map fun v => v.category).sum ≤ 8) (hdg : decode cc pc = .ok (.invokevirtual index, 3)) (hf : cells + mc ≤ R.cells ∧ slots + ms ≤ R.slots) :
    va_Run p l e R s m args below meth c H locs cells slots mc ms (F0 m pc ls st0) rest (Qc (Value.ref b :: As).toArray) free := by
  subst hq
  have hPc : va_P D vwCl wc H := fun k q hq => by
    have h1 : k < isC.length := by
      rw [kmap_len hC]
      exact (List.getElem?_eq_some_iff.mp hq).1
    exact hP _ q (kmap_get hC (List.getElem?_eq_getElem h1) hq)
  exact va_runV S hM cw ⟨KPc_blind _ _ _ _ _ _, va_recv hK hPc hc hb, fun U hU hW => ⟨rfl, kpre hP hD hK hS hA hG isC hC hnd hU hW⟩⟩ rfl hn hls hst (lv_room hcat) hdg hf
end ZKV
