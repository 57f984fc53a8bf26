section ZSX
variable {p : Program} {l : Launch} {e : Env} {R : Room} {s : State} {m : MethodId} {args : Array Value} {below : List Frame} {meth : Method} {c : Code} {H : Heap} {locs : List Loc} {cells slots : Nat} {Q : State → Prop}
variable {cc : ByteArray} {pc : Nat} {ls : Array Slot} {rest : List Value} {D : va_G} {A : Nat → Prop} {cy : Nat → ClassId} {H0 : Heap} {ad : Nat → Nat} {h h1 : zs_H} {X P : va_W} {hs : Nat} {G : FN} {F : Nat → Nat}
theorem sx_ld (hx : p.tables.exec = Jvm.exec) (hb : c.code = cc) (hK : va_K D vwCl (tyW cy) s) (hP : va_P D vwCl (X ++ zs_rows cy ad h) H) {q : Nat} {i v : Int32} (hz : zs_ld h q i = some v) (hdg : decode cc pc = .ok (.iaload, 1))
    (kk : W p l e R s m args below meth c H locs cells slots Q (F0 m (pc + 1) ls (.int v :: rest))) : W p l e R s m args below meth c H locs cells slots Q (F0 m pc ls (.int i :: .ref (ad q) :: rest)) := by
  obtain ⟨k, f, h1, h2, h3, rfl⟩ := zs_ld_of hz
  exact va_iald hx hb hK hP (X.length + q) 0 (by rw [zs_rows_get h1, h2]; rfl) rfl h3 hdg kk
theorem sx_ldr (hx : p.tables.exec = Jvm.exec) (hb : c.code = cc) (hK : va_K D vwCl (tyW cy) s) (hP : va_P D vwCl (X ++ zs_rows cy ad h) H) {q v : Nat} {i : Int32} (hz : zs_ldr h q i = some v) (hdg : decode cc pc = .ok (.aaload, 1))
    (kk : W p l e R s m args below meth c H locs cells slots Q (F0 m (pc + 1) ls (.ref (ad v) :: rest))) : W p l e R s m args below meth c H locs cells slots Q (F0 m pc ls (.int i :: .ref (ad q) :: rest)) := by
  obtain ⟨k, g, h1, h2, h3, h4⟩ := zs_ldr_of hz
  exact va_aldA (v := .ref (ad v)) (f := fun j => (g j).map ad) hx hb hK hP (X.length + q) (by rw [zs_rows_get h1, h2]; rfl) h3 (by show va_rf ((g i.toNatClampNeg).map ad) = _; rw [h4]; rfl) hdg kk
theorem sx_len (hx : p.tables.exec = Jvm.exec) (hb : c.code = cc) (hK : va_K D vwCl (tyW cy) s) (hP : va_P D vwCl (X ++ zs_rows cy ad h) H) {q : Nat} {v : Int32} (hz : zs_len h q = some v) (hdg : decode cc pc = .ok (.arraylength, 1))
    (kk : W p l e R s m args below meth c H locs cells slots Q (F0 m (pc + 1) ls (.int v :: rest))) : W p l e R s m args below meth c H locs cells slots Q (F0 m pc ls (.ref (ad q) :: rest)) := by
  obtain ⟨h1, ⟨k, f, h2, h3⟩ | ⟨k, g, h2, h3⟩⟩ := zs_len_of hz
  · exact va_alen (v := v) (x := (k, .inl f)) (ty := .int) hx hb hK hP (X.length + q) 0 (by rw [zs_rows_get h1, h2]; rfl) rfl h3 hdg kk
  · exact va_alen (v := v) (x := (k, .inr (.inr (.inr (.inr (fun j => (g j).map ad)))))) (ty := .array .int) hx hb hK hP (X.length + q) 1 (by rw [zs_rows_get h1, h2]; rfl) rfl h3 hdg kk
theorem sx_st (hx : p.tables.exec = Jvm.exec) (hb : c.code = cc) (hK : va_K D vwCl (tyW cy) s) (hP : va_P D vwCl (X ++ zs_rows cy ad h) H) (hD : va_D A (X ++ zs_rows cy ad h)) (hS : va_S A H0 H locs) {q : Nat} {i v : Int32} (hz : zs_st h q i v = some h1) (hdg : decode cc pc = .ok (.iastore, 1))
    (kk : ∀ (H1 : Heap) (locs1 : List Loc), va_P D vwCl (X ++ zs_rows cy ad h1) H1 → va_D A (X ++ zs_rows cy ad h1) → va_S A H0 H1 locs1 → W p l e R s m args below meth c H1 locs1 cells slots Q (F0 m (pc + 1) ls rest)) : W p l e R s m args below meth c H locs cells slots Q (F0 m pc ls (.int v :: .int i :: .ref (ad q) :: rest)) := by
  obtain ⟨k, f, g1, g2, g3, rfl⟩ := zs_st_of hz
  refine va_iast hx hb hK hP hD hS (X.length + q) 0 (n := k) (f := f) (by rw [zs_rows_get g1, g2]; rfl) rfl g3 hdg (fun H1 locs1 a1 a2 a3 => ?_)
  have e1 : (X ++ zs_rows cy ad h).set (X.length + q) (ad q, .inl (cy 0, k, .inl (upd f i.toNatClampNeg v))) = _ := zs_rows_set (cy := cy) (ad := ad) (h := h) (Q := X) (i := q) (e := .inl (k, upd f i.toNatClampNeg v))
  rw [e1] at a1 a2
  exact kk H1 locs1 a1 a2 a3
theorem sx_str (hx : p.tables.exec = Jvm.exec) (hb : c.code = cc) (hK : va_K D vwCl (tyW cy) s) (hAA : AOA s) (hP : va_P D vwCl (X ++ zs_rows cy ad h) H) (hD : va_D A (X ++ zs_rows cy ad h)) (hS : va_S A H0 H locs) {q r : Nat} {i : Int32} (hz : zs_str h q i r = some h1) (hdg : decode cc pc = .ok (.aastore, 1))
    (kk : ∀ (H1 : Heap) (locs1 : List Loc), va_P D vwCl (X ++ zs_rows cy ad h1) H1 → va_D A (X ++ zs_rows cy ad h1) → va_S A H0 H1 locs1 → W p l e R s m args below meth c H1 locs1 cells slots Q (F0 m (pc + 1) ls rest)) : W p l e R s m args below meth c H locs cells slots Q (F0 m pc ls (.ref (ad r) :: .int i :: .ref (ad q) :: rest)) := by
  obtain ⟨k, g, x, g1, g0, g2, g3, g4, rfl⟩ := zs_str_of hz
  refine va_astA hx hb hK hAA hP hD hS (X.length + q) (X.length + r) (n := k) (x := (x.1, .inl x.2)) (f := fun j => (g j).map ad) (by rw [zs_rows_get g1, g2]; rfl) (by rw [zs_rows_get g0, g3]; rfl) g4 hdg (fun H1 locs1 a1 a2 a3 => ?_)
  have e0 : va_up (fun j => (g j).map ad) i.toNatClampNeg (some (ad r)) = fun j => (va_up g i.toNatClampNeg (some r) j).map ad := by
    funext j
    unfold va_up
    by_cases cj : j = i.toNatClampNeg
    · rw [if_pos cj, if_pos cj]; rfl
    · rw [if_neg cj, if_neg cj]
  have e1 : (X ++ zs_rows cy ad h).set (X.length + q) (ad q, .inl (cy 1, k, .inr (.inr (.inr (.inr (fun j => (va_up g i.toNatClampNeg (some r) j).map ad)))))) = _ := zs_rows_set (cy := cy) (ad := ad) (h := h) (Q := X) (i := q) (e := .inr (k, va_up g i.toNatClampNeg (some r)))
  rw [e0, e1] at a1 a2
  exact kk H1 locs1 a1 a2 a3
theorem zs_up_ne {q n : Nat} : ∀ i, i < n → (va_up ad n q) i = ad i := fun i hi => if_neg (by omega)
/-- new rows: their places are new -/
theorem sx_nwi (hx : p.tables.exec = Jvm.exec) (hb : c.code = cc) (harr : (Cond.arrayClass .int).before args s = true) (hK : va_K D vwCl (tyW cy) s) (hw : zs_wf h) (hP : va_P D vwCl (X ++ zs_rows cy ad h) H) (hD : va_D A (X ++ zs_rows cy ad h)) (hS : va_S A H0 H locs) (hA : ∀ q, H0.size ≤ q → A q) {v : Int32} {B : Nat} (hz : zs_nwi h v B = some h1) (hB : B * 4 ≤ 536870912) (hc : cells + 1 ≤ R.cells) (hsl : slots + B ≤ R.slots) (hdg : decode cc pc = .ok (.newarray .int, 2))
    (kk : ∀ (a2 : Nat → Nat) (H1 : Heap), (∀ i, i < h.1 → a2 i = ad i) → va_P D vwCl (X ++ zs_rows cy a2 h1) H1 → va_D A (X ++ zs_rows cy a2 h1) → va_S A H0 H1 locs → W p l e R s m args below meth c H1 locs (cells + 1) (slots + B) Q (F0 m (pc + 2) ls (.ref (a2 h.1) :: rest))) : W p l e R s m args below meth c H locs cells slots Q (F0 m pc ls (.int v :: rest)) := by
  obtain ⟨g1, g2, rfl⟩ := zs_nwi_of hz
  refine va_newa (atype := .int) hx hb harr rfl hK hP hD hS hA (a0 := (v.toNatClampNeg, .inl (fun _ => 0))) (fun _ => rfl) g1 rfl (Nat.le_trans (Nat.mul_le_mul_right 4 g2) hB) hc (Nat.le_trans (Nat.add_le_add_left g2 _) hsl) hdg (fun q cA H1 hK2 hP hD hS => ?_)
  obtain rfl := kcls hK2 0 rfl (fun h1 h2 => Option.some.inj (h1.symm.trans h2))
  have e1 : (X ++ zs_rows cy ad h) ++ [(q, .inl (cy 0, v.toNatClampNeg, .inl (fun _ => 0)))] = _ := zs_rows_push (cy := cy) (ad := ad) (ad2 := va_up ad h.1 q) hw (Q := X) (q := q) (e := .inl (v.toNatClampNeg, fun _ => 0)) zs_up_ne (if_pos rfl)
  rw [e1] at hP hD
  have e2 : va_up ad h.1 q h.1 = q := if_pos rfl
  refine W.widen (Nat.le_refl _) (Nat.add_le_add_left g2 _) ?_
  have := kk (va_up ad h.1 q) H1 zs_up_ne hP hD hS
  rw [e2] at this
  exact this
theorem sx_nwr (hx : p.tables.exec = Jvm.exec) (hb : c.code = cc) {own : String} {index : Nat} (hown : s.vm.findClass own = some m.cls) (hclink : (Cond.classLink own index "[I").before args s = true) (hAA : AOA s) (hK : va_K D vwCl (tyW cy) s) (hw : zs_wf h) (hP : va_P D vwCl (X ++ zs_rows cy ad h) H) (hD : va_D A (X ++ zs_rows cy ad h)) (hS : va_S A H0 H locs) (hA : ∀ q, H0.size ≤ q → A q) {v : Int32} {B : Nat} (hz : zs_nwr h v B = some h1) (hB : B * 4 ≤ 536870912) (hc : cells + 1 ≤ R.cells) (hsl : slots + B ≤ R.slots) (hdg : decode cc pc = .ok (.anewarray index, 3))
    (kk : ∀ (a2 : Nat → Nat) (H1 : Heap), (∀ i, i < h.1 → a2 i = ad i) → va_P D vwCl (X ++ zs_rows cy a2 h1) H1 → va_D A (X ++ zs_rows cy a2 h1) → va_S A H0 H1 locs → W p l e R s m args below meth c H1 locs (cells + 1) (slots + B) Q (F0 m (pc + 3) ls (.ref (a2 h.1) :: rest))) : W p l e R s m args below meth c H locs cells slots Q (F0 m pc ls (.int v :: rest)) := by
  obtain ⟨g1, g2, rfl⟩ := zs_nwr_of hz
  refine va_newA (N' := v.toNatClampNeg) hx hb hown hclink hAA hK hP hD hS hA g1 rfl (Nat.le_trans (Nat.mul_le_mul_right 4 g2) hB) hc (Nat.le_trans (Nat.add_le_add_left g2 _) hsl) hdg (fun q H1 hP hD hS => ?_)
  have e1 : (X ++ zs_rows cy ad h) ++ [(q, .inl (cy 1, v.toNatClampNeg, .inr (.inr (.inr (.inr (fun _ => none))))))] = _ := zs_rows_push (cy := cy) (ad := ad) (ad2 := va_up ad h.1 q) hw (Q := X) (q := q) (e := .inr (v.toNatClampNeg, fun _ => none)) zs_up_ne (if_pos rfl)
  rw [e1] at hP hD
  have e2 : va_up ad h.1 q h.1 = q := if_pos rfl
  refine W.widen (Nat.le_refl _) (Nat.add_le_add_left g2 _) ?_
  have := kk (va_up ad h.1 q) H1 zs_up_ne hP hD hS
  rw [e2] at this
  exact this
/-- a row's clone -/
theorem sx_cl (hx : p.tables.exec = Jvm.exec) (hb : c.code = cc) (hml : c.maxLocals = ls.size) {own : String} {index : Nat} (hown : s.vm.findClass own = some m.cls) (ht1 : (Cond.methodLink own index ⟨"[I", "clone", "()Ljava/lang/Object;"⟩).before args s = true) (ht2 : (Cond.sameMethod "[I" "java/lang/Object" "clone" "()Ljava/lang/Object;").before args s = true) (ht3 : (Cond.native ⟨"java/lang/Object", "clone", "()Ljava/lang/Object;"⟩).before args s = true) (ht4 : (Cond.instanceMethod ⟨"java/lang/Object", "clone", "()Ljava/lang/Object;"⟩).before args s = true) (ht5 : (Cond.selects "[I" ⟨"[I", "clone", "()Ljava/lang/Object;"⟩ ⟨"java/lang/Object", "clone", "()Ljava/lang/Object;"⟩).before args s = true) (hnw : va_Nw (.castable "[I" "java/lang/Cloneable") s)
    (hK : va_K D vwCl (tyW cy) s) (hw : zs_wf h) (hP : va_P D vwCl (X ++ zs_rows cy ad h) H) (hD : va_D A (X ++ zs_rows cy ad h)) (hS : va_S A H0 H locs) (hA : ∀ q, H0.size ≤ q → A q) {q0 B : Nat} (hz : zs_cl h q0 B = some h1) (hR1 : 1 ≤ R.frames) (hR2 : (rest.map fun v => v.category).sum + 14 ≤ R.locals) (hc : cells + 1 ≤ R.cells) (hsl : slots + B ≤ R.slots) (hdg : decode cc pc = .ok (.invokevirtual index, 3))
    (kk : ∀ (a2 : Nat → Nat) (H1 : Heap), (∀ i, i < h.1 → a2 i = ad i) → va_P D vwCl (X ++ zs_rows cy a2 h1) H1 → va_D A (X ++ zs_rows cy a2 h1) → va_S A H0 H1 locs → W p l e R s m args below meth c H1 locs (cells + 1) (slots + B) Q (F0 m (pc + 3) ls (.ref (a2 h.1) :: rest))) : W p l e R s m args below meth c H locs cells slots Q (F0 m pc ls (.ref (ad q0) :: rest)) := by
  obtain ⟨k, f, g0, g1, g2, rfl⟩ := zs_cl_of hz
  refine va_clone (own := own) (ad := "[I") (x := (k, .inl f)) (ty := .int) hx hb hml hown ht1 ht2 ht3 ht4 ht5 hnw hK hP hD hS hA (X.length + q0) 0 (by rw [zs_rows_get g0, g1]; rfl) rfl (show s.vm.findClass "[I" = some (cy 0) from (hK.2 0 _ rfl).2) (kfit _ _ _) hR1 hR2 hc (Nat.le_trans (Nat.add_le_add_left g2 _) hsl) hdg (fun q H1 _ hP hD hS => ?_)
  have e1 : (X ++ zs_rows cy ad h) ++ [(q, .inl (cy 0, k, .inl f))] = _ := zs_rows_push (cy := cy) (ad := ad) (ad2 := va_up ad h.1 q) hw (Q := X) (q := q) (e := .inl (k, f)) zs_up_ne (if_pos rfl)
  rw [e1] at hP hD
  have e2 : va_up ad h.1 q h.1 = q := if_pos rfl
  refine W.widen (Nat.le_refl _) (Nat.add_le_add_left g2 _) ?_
  have := kk (va_up ad h.1 q) H1 zs_up_ne hP hD hS
  rw [e2] at this
  exact this
/-- rows of rows, made at once -/
theorem sx_nwm (hx : p.tables.exec = Jvm.exec) (hb : c.code = cc) {own : String} {index : Nat} (hown : s.vm.findClass own = some m.cls) (hclink : (Cond.classLink own index "[[I").before args s = true) (hAA : AOA s) (harr : (Cond.arrayClass .int).before args s = true) (hK : va_K D vwCl (tyW cy) s) (hw : zs_wf h) (hP : va_P D vwCl (X ++ zs_rows cy ad h) H) (hD : va_D A (X ++ zs_rows cy ad h)) (hS : va_S A H0 H locs) (hA : ∀ q, H0.size ≤ q → A q) {v w : Int32} {a b : Nat} (hv : ¬ v < 0) (hw2 : ¬ w < 0) (hva : v.toNatClampNeg = a) (hwb : w.toNatClampNeg = b) (hb1 : a * 4 ≤ 536870912) (hb2 : b * 4 ≤ 536870912) (hc : cells + (1 + a) ≤ R.cells) (hsl : slots + (a + a * b) ≤ R.slots) (hdg : decode cc pc = .ok (.multianewarray index 2, 4))
    (kk : ∀ (a2 : Nat → Nat) (H1 : Heap), (∀ i, i < h.1 → a2 i = ad i) → va_P D vwCl (X ++ zs_rows cy a2 (zs_nwm h a b)) H1 → va_D A (X ++ zs_rows cy a2 (zs_nwm h a b)) → va_S A H0 H1 locs → W p l e R s m args below meth c H1 locs (cells + 1 + a) (slots + a + a * b) Q (F0 m (pc + 4) ls (.ref (a2 h.1) :: rest))) : W p l e R s m args below meth c H locs cells slots Q (F0 m pc ls (.int w :: .int v :: rest)) := by
  refine va_mna (X := X ++ zs_rows cy ad h) (L := []) (f := fun _ => .inr (0, [])) (ty := .int) (cy := cy 0) (N' := a) (K' := b) (z := (b, .inl (fun _ => 0))) hx hb hown hclink hAA harr (hK.2 0 _ rfl).2 hK (by show va_P D vwCl ((X ++ zs_rows cy ad h) ++ []) H; rw [List.append_nil]; exact hP) (by show va_D A ((X ++ zs_rows cy ad h) ++ []); rw [List.append_nil]; exact hD) hS hA hv hw2 hva hwb hb1 hb2 (Nat.le_trans (Nat.le_mul_of_pos_right b (by decide : 0 < 4)) hb2) rfl rfl hc hsl (fun c9 => ?_) hdg (fun q r cA H1 hr _ hK2 hP hD hS => ?_)
  · show ({ cls := c9, slots := Array.replicate b (.int 0), vm := .none } : Cell) = arrV c9 b (fun j => .int 0)
    exact arrV_new c9 b (.int 0)
  · obtain rfl := kcls hK2 1 rfl (fun h1 h2 => Option.some.inj (h1.symm.trans h2))
    let a2 : Nat → Nat := fun i => if i < h.1 then ad i else if i = h.1 then q else r (i - h.1 - 1)
    have ha : ∀ i, i < h.1 → a2 i = ad i := fun i hi => if_pos hi
    have h0 : a2 h.1 = q := by
      show (if h.1 < h.1 then ad h.1 else if h.1 = h.1 then q else r (h.1 - h.1 - 1)) = q
      rw [if_neg (Nat.lt_irrefl _), if_pos rfl]
    have hr2 : ∀ j, a2 (h.1 + 1 + j) = r j := fun j => by
      show (if h.1 + 1 + j < h.1 then ad (h.1 + 1 + j) else if h.1 + 1 + j = h.1 then q else r (h.1 + 1 + j - h.1 - 1)) = r j
      rw [if_neg (by omega), if_neg (by omega), show h.1 + 1 + j - h.1 - 1 = j by omega]
    have e1 : ((X ++ zs_rows cy ad h) ++ [(q, .inl (cy 1, a, .inr (.inr (.inr (.inr (fun i => if i < a then some (r i) else none))))))]) ++ va_pl ([] ++ (List.range a).map r) (vr_up (fun _ => .inr (0, [])) ((List.range a).map r) (.inl (cy 0, (b, .inl (fun _ => 0))))) = X ++ zs_rows cy a2 (zs_nwm h a b) := by
      rw [List.append_assoc, List.append_assoc, ← zs_rows_congr hw ha]
      congr 1
      unfold zs_rows
      show _ = (List.range (h.1 + 1 + a)).map (fun k => (a2 k, zs_row cy a2 ((zs_nwm h a b).2 k)))
      rw [Nat.add_assoc, List.range_add, List.map_append, List.map_map]
      congr 1
      · refine List.map_congr_left (fun i hi => ?_)
        have hi' := List.mem_range.mp hi
        show _ = (a2 i, zs_row cy a2 (if i < h.1 then h.2 i else _))
        rw [if_pos hi']
      · rw [Nat.add_comm 1 a, List.range_succ_eq_map, List.map_cons, List.map_map]
        show _ :: _ = _ :: _
        refine congr (congrArg List.cons ?_) ?_
        · show _ = (a2 (h.1 + 0), zs_row cy a2 (if h.1 + 0 < h.1 then h.2 (h.1 + 0) else if h.1 + 0 = h.1 then _ else _))
          rw [Nat.add_zero, if_neg (Nat.lt_irrefl _), if_pos rfl, h0]
          show (q, (.inl (cy 1, a, .inr (.inr (.inr (.inr (fun i => if i < a then some (r i) else none))))) : va_E)) = (q, .inl (cy 1, a, .inr (.inr (.inr (.inr (fun j => (if j < a then some (h.1 + 1 + j) else none).map a2))))))
          have : (fun i => if i < a then some (r i) else none) = (fun j => (if j < a then some (h.1 + 1 + j) else none).map a2) := by
            funext j
            by_cases c3 : j < a
            · rw [if_pos c3, if_pos c3]
              show some (r j) = some (a2 (h.1 + 1 + j))
              rw [hr2]
            · rw [if_neg c3, if_neg c3]; rfl
          rw [this]
        · unfold va_pl
          rw [List.nil_append, List.map_map]
          refine List.map_congr_left (fun i hi => ?_)
          show (r i, vr_up _ _ _ (r i)) = (a2 (h.1 + (i + 1)), zs_row cy a2 (if h.1 + (i + 1) < h.1 then _ else if h.1 + (i + 1) = h.1 then _ else .inl (b, fun _ => 0)))
          rw [if_neg (by omega), if_neg (by omega), vr_up_in (List.mem_map.mpr ⟨i, hi, rfl⟩), show h.1 + (i + 1) = h.1 + 1 + i by omega, hr2]
          rfl
    rw [e1] at hP hD
    have := kk a2 H1 ha hP hD hS
    rw [h0] at this
    exact this
end ZSX
/-! at the law's object: what a field holds, and new rows -/
section ZSW
variable {p : Program} {l : Launch} {e : Env} {R : Room} {s : State} {m : MethodId} {args : Array Value} {below : List Frame} {meth : Method} {c : Code} {H : Heap} {locs : List Loc} {cells slots : Nat} {Q : State → Prop}
variable {cc : ByteArray} {pc : Nat} {ls : Array Slot} {rest : List Value} {D : va_G} {A : Nat → Prop} {cy : Nat → ClassId} {H0 : Heap} {ad : Nat → Nat} {h h1 : zs_H} {P : va_W} {hs : Nat} {G : FN} {F : Nat → Nat}
/-- the world behind a making: the object's own references as they were -/
theorem zs_W_up {a2 : Nat → Nat} (hf : zs_fs F h) (ha : ∀ i, i < h.1 → a2 i = ad i) : (P ++ [(hs, .inr (6, zs_obj ad G F))]) ++ zs_rows cy a2 h1 = zs_W P cy hs a2 G F h1 := by
  unfold zs_W
  rw [zs_obj_congr hf ha]
end ZSW
