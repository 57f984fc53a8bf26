def fX4_becomeLike (o_pulp : FN) (o_beat : FN) (o_sort : FN) : Option (FN × FN × FN) := some (o_pulp, o_beat, o_sort)
abbrev rX4_becomeLike : Room := { frames := 1, cells := 0, slots := 0, locals := 40 }
set_option maxHeartbeats 4000000 in
set_option maxRecDepth 100000 in
theorem kX4_becomeLike (l : Launch) (D : va_G) (cy : Nat → ClassId) (sa : SAT) (h : Nat → Nat) (g : Nat → Nat) (pulp : FN) (beat : FN) (sort : FN) (o_pulp : FN) (o_beat : FN) (o_sort : FN) (z : FN × FN × FN) (hF : fX4_becomeLike o_pulp o_beat o_sort = some z) : KV l D (tyW cy) sa yX4_becomeLike wsX4_becomeLike rX4_becomeLike [.ref (h 0), .ref (g 0)] (wX4X4 cy h g pulp beat sort o_pulp o_beat o_sort) (fun _ => wX4X4 cy h g z.1 z.2.1 z.2.2 o_pulp o_beat o_sort) 0 0 := by
  refine KV.of (cc := cX4_becomeLike) (maxL := 2) (by decide +kernel) rfl (Nat.le_of_ble_eq_true rfl) ?_
  intro p e s m args below meth c A ls Q hE hQ
  obtain ⟨hx, hb, hml, hown, hts, hA, hP, hK, hD, hG, hl, hnm⟩ := hE
  replace hown : s.vm.findClass RX4 = some m.cls := hown
  have hiX4 : ∀ w ∈ u_ws RX4 TX4 3, w ∈ wsX4_becomeLike := by decide +kernel
  have hf9 : (Cond.fieldLink RX4 9 "RagVats$Vats" "pulp" "[I").before args s = true := hts _ (by decide +kernel)
  have hf15 : (Cond.fieldLink RX4 15 "RagVats$Vats" "beat" "[I").before args s = true := hts _ (by decide +kernel)
  have hf18 : (Cond.fieldLink RX4 18 "RagVats$Vats" "sort" "[I").before args s = true := hts _ (by decide +kernel)
  replace hl : lv_has ls 2 [(0, .ref (h 0)), (1, .ref (g 0))] := hl
  have hS : va_S A s.heap s.heap [] := va_S.rf
  unfold fX4_becomeLike at hF
  refine lv_aload_n hx hb dX4_becomeLike_0 rfl (lv_at hl 1 rfl) ?_
  refine va_get (D := D) (C := RX4) (T := TX4) (N := 3) hx hb hts hiX4 hown hK hP 4 gtX4X4_4 rfl 0 (by decide) hf9 (fun _ h9 => h9) rfl dX4_becomeLike_1 ?_
  refine lv_iconst (v := 0) hx hb dX4_becomeLike_4 (by decide) ?_
  refine lv_aload_n hx hb dX4_becomeLike_5 rfl (lv_at hl 0 rfl) ?_
  refine va_get (D := D) (C := RX4) (T := TX4) (N := 3) hx hb hts hiX4 hown hK hP 0 gtX4X4_0 rfl 0 (by decide) hf9 (fun _ h9 => h9) rfl dX4_becomeLike_6 ?_
  refine lv_iconst (v := 0) hx hb dX4_becomeLike_9 (by decide) ?_
  refine lv_iconst (v := 4) hx hb dX4_becomeLike_10 (by decide) ?_
  refine va_copyi (own := RX4) hx hb (hml.trans hl.1.symm) hown (hts (.methodLink RX4 27 arraycopyName) (by decide +kernel)) (hts (.native arraycopyName) (by decide +kernel)) (hts (.static arraycopyName) (by decide +kernel)) (hts (.initialized "java/lang/System") (by decide +kernel)) hK hP hD hS 5 1 0 0 gtX4X4_5 gtX4X4_1 rfl rfl rfl (by decide) (by decide) (by decide) (by decide) (by decide) (fun _ _ => rfl) (Nat.le_of_ble_eq_true rfl) (by decide) dX4_becomeLike_11 (fun H locs hP hD hS => ?_)
  replace hP := kcopy hP rfl
  replace hD := kcopyD (e2 := .inl (cy 0, 4, .inl o_pulp)) hD
  rw [stX4X4_1] at hP hD
  refine lv_aload_n hx hb dX4_becomeLike_14 rfl (lv_at hl 1 rfl) ?_
  refine va_get (D := D) (C := RX4) (T := TX4) (N := 3) hx hb hts hiX4 hown hK hP 4 gtX4X4_4 rfl 1 (by decide) hf15 (fun _ h9 => h9) rfl dX4_becomeLike_15 ?_
  refine lv_iconst (v := 0) hx hb dX4_becomeLike_18 (by decide) ?_
  refine lv_aload_n hx hb dX4_becomeLike_19 rfl (lv_at hl 0 rfl) ?_
  refine va_get (D := D) (C := RX4) (T := TX4) (N := 3) hx hb hts hiX4 hown hK hP 0 gtX4X4_0 rfl 1 (by decide) hf15 (fun _ h9 => h9) rfl dX4_becomeLike_20 ?_
  refine lv_iconst (v := 0) hx hb dX4_becomeLike_23 (by decide) ?_
  refine lv_iconst (v := 4) hx hb dX4_becomeLike_24 (by decide) ?_
  refine va_copyi (own := RX4) hx hb (hml.trans hl.1.symm) hown (hts (.methodLink RX4 27 arraycopyName) (by decide +kernel)) (hts (.native arraycopyName) (by decide +kernel)) (hts (.static arraycopyName) (by decide +kernel)) (hts (.initialized "java/lang/System") (by decide +kernel)) hK hP hD hS 6 2 0 0 gtX4X4_6 gtX4X4_2 rfl rfl rfl (by decide) (by decide) (by decide) (by decide) (by decide) (fun _ _ => rfl) (Nat.le_of_ble_eq_true rfl) (by decide) dX4_becomeLike_25 (fun H locs hP hD hS => ?_)
  replace hP := kcopy hP rfl
  replace hD := kcopyD (e2 := .inl (cy 0, 4, .inl o_beat)) hD
  rw [stX4X4_2] at hP hD
  refine lv_aload_n hx hb dX4_becomeLike_28 rfl (lv_at hl 1 rfl) ?_
  refine va_get (D := D) (C := RX4) (T := TX4) (N := 3) hx hb hts hiX4 hown hK hP 4 gtX4X4_4 rfl 2 (by decide) hf18 (fun _ h9 => h9) rfl dX4_becomeLike_29 ?_
  refine lv_iconst (v := 0) hx hb dX4_becomeLike_32 (by decide) ?_
  refine lv_aload_n hx hb dX4_becomeLike_33 rfl (lv_at hl 0 rfl) ?_
  refine va_get (D := D) (C := RX4) (T := TX4) (N := 3) hx hb hts hiX4 hown hK hP 0 gtX4X4_0 rfl 2 (by decide) hf18 (fun _ h9 => h9) rfl dX4_becomeLike_34 ?_
  refine lv_iconst (v := 0) hx hb dX4_becomeLike_37 (by decide) ?_
  refine lv_iconst (v := 4) hx hb dX4_becomeLike_38 (by decide) ?_
  refine va_copyi (own := RX4) hx hb (hml.trans hl.1.symm) hown (hts (.methodLink RX4 27 arraycopyName) (by decide +kernel)) (hts (.native arraycopyName) (by decide +kernel)) (hts (.static arraycopyName) (by decide +kernel)) (hts (.initialized "java/lang/System") (by decide +kernel)) hK hP hD hS 7 3 0 0 gtX4X4_7 gtX4X4_3 rfl rfl rfl (by decide) (by decide) (by decide) (by decide) (by decide) (fun _ _ => rfl) (Nat.le_of_ble_eq_true rfl) (by decide) dX4_becomeLike_39 (fun H locs hP hD hS => ?_)
  replace hP := kcopy hP rfl
  replace hD := kcopyD (e2 := .inl (cy 0, 4, .inl o_sort)) hD
  rw [stX4X4_3] at hP hD
  cases hF
  exact hQ _ _ _ _ _ _ (fun _ => 0) dX4_becomeLike_42 hP hD hS (Nat.le_of_ble_eq_true rfl) (Nat.le_of_ble_eq_true rfl)

def fX5_isBelow (a1 : Int32) (a2 : Int32) : Option (Int32) := if a1 < 0 then some 0 else if a2 ≤ a1 then some 0 else some 1
abbrev rX5_isBelow : Room := { frames := 0, cells := 0, slots := 0, locals := 0 }
set_option maxHeartbeats 4000000 in
set_option maxRecDepth 100000 in
theorem kX5_isBelow (l : Launch) (D : va_G) (cy : Nat → ClassId) (sa : SAT) (a1 : Int32) (a2 : Int32) (z : Int32) (hF : fX5_isBelow a1 a2 = some z) : KI l D (tyW cy) sa yX5_isBelow wsX5_isBelow rX5_isBelow [.int a1, .int a2] (([] : va_W)) z (fun _ => ([] : va_W)) 0 0 := by
  refine KI.ofZ (cc := cX5_isBelow) (maxL := 2) (by decide +kernel) rfl (Nat.le_of_ble_eq_true rfl) ?_
  intro p e s m args below meth c A ls Q hE hQ
  obtain ⟨hx, hb, hml, hown, hts, hA, hP, hK, hD, hG, hl, hnm⟩ := hE
  replace hown : s.vm.findClass RX5 = some m.cls := hown
  replace hl : lv_has ls 2 [(0, .int a1), (1, .int a2)] := hl
  have hS : va_S A s.heap s.heap [] := va_S.rf
  unfold fX5_isBelow at hF
  refine lv_iload_n hx hb dX5_isBelow_0 rfl (lv_at hl 0 rfl) ?_
  refine lv_if_lt (tgt := 13) hx hb dX5_isBelow_1 (by decide) (fun c_1 => ?_) (fun c_1 => ?_)
  · replace hF := if_t hF c_1
    refine lv_iconst (v := 0) hx hb dX5_isBelow_13 (by decide) ?_
    cases hF
    exact hQ _ _ _ _ _ _ (fun _ => 0) rfl dX5_isBelow_14 hP hD hS (Nat.le_of_ble_eq_true rfl) (Nat.le_of_ble_eq_true rfl)
  · replace hF := if_f hF c_1
    refine lv_iload_n hx hb dX5_isBelow_4 rfl (lv_at hl 0 rfl) ?_
    refine lv_iload_n hx hb dX5_isBelow_5 rfl (lv_at hl 1 rfl) ?_
    refine lv_icmp_ge (tgt := 13) hx hb dX5_isBelow_6 (by decide) (fun c_2 => ?_) (fun c_2 => ?_)
    · replace hF := if_t hF c_2
      refine lv_iconst (v := 0) hx hb dX5_isBelow_13 (by decide) ?_
      cases hF
      exact hQ _ _ _ _ _ _ (fun _ => 0) rfl dX5_isBelow_14 hP hD hS (Nat.le_of_ble_eq_true rfl) (Nat.le_of_ble_eq_true rfl)
    · replace hF := if_f hF c_2
      refine lv_iconst (v := 1) hx hb dX5_isBelow_9 (by decide) ?_
      refine lv_goto (tgt := 14) hx hb dX5_isBelow_10 (by decide) ?_
      cases hF
      exact hQ _ _ _ _ _ _ (fun _ => 0) rfl dX5_isBelow_14 hP hD hS (Nat.le_of_ble_eq_true rfl) (Nat.le_of_ble_eq_true rfl)

def fX4_allPulp_L4 (pulp : FN) : Nat → Int32 → Int32 → Option (Int32)
  | 0, _, _ => none
  | k + 1, x1_4, x2_4 => if 4 ≤ x2_4 then some x1_4 else ckI x2_4 4 (fX4_allPulp_L4 pulp k (x1_4 + (pulp x2_4.toNatClampNeg)) (x2_4 + 1))
def fX4_allPulp (pulp : FN) : Option (Int32) := fX4_allPulp_L4 pulp 300 0 0
abbrev rX4_allPulp : Room := { frames := 0, cells := 0, slots := 0, locals := 0 }
set_option maxHeartbeats 4000000 in
set_option maxRecDepth 100000 in
theorem kX4_allPulp (l : Launch) (D : va_G) (cy : Nat → ClassId) (sa : SAT) (h : Nat → Nat) (pulp : FN) (beat : FN) (sort : FN) (z : Int32) (hF : fX4_allPulp pulp = some z) : KI l D (tyW cy) sa yX4_allPulp wsX4_allPulp rX4_allPulp [.ref (h 0)] (wX4 cy h pulp beat sort) z (fun _ => wX4 cy h pulp beat sort) 0 0 := by
  refine KI.of (cc := cX4_allPulp) (maxL := 3) (by decide +kernel) rfl (Nat.le_of_ble_eq_true rfl) ?_
  intro p e s m args below meth c A ls Q hE hQ
  obtain ⟨hx, hb, hml, hown, hts, hA, hP, hK, hD, hG, hl, hnm⟩ := hE
  replace hown : s.vm.findClass RX4 = some m.cls := hown
  have hiX4 : ∀ w ∈ u_ws RX4 TX4 3, w ∈ wsX4_allPulp := by decide +kernel
  have hf9 : (Cond.fieldLink RX4 9 "RagVats$Vats" "pulp" "[I").before args s = true := hts _ (by decide +kernel)
  replace hl : lv_has ls 3 [(0, .ref (h 0))] := hl
  have hS : va_S A s.heap s.heap [] := va_S.rf
  have L4 : ∀ (k : Nat) (x1_4 : Int32) (x2_4 : Int32), fX4_allPulp_L4 pulp k x1_4 x2_4 = some z → ∀ (H : Heap) (locs : List Loc) (ls : Array Slot), va_P D vwCl (wX4 cy h pulp beat sort) H → va_D A (wX4 cy h pulp beat sort) → va_S A s.heap H locs → lv_has ls 3 [(0, .ref (h 0)), (1, .int x1_4), (2, .int x2_4)] → W p l e rX4_allPulp s m args below meth c H locs 0 0 Q (F0 m 4 ls []) := by
    intro k
    induction k with
    | zero =>
      intro x1_4 x2_4 hF
      rw [fX4_allPulp_L4] at hF
      cases hF
    | succ k ih =>
      intro x1_4 x2_4 hF H locs ls hP hD hS hl
      rw [fX4_allPulp_L4] at hF
      refine lv_iload_n hx hb dX4_allPulp_4 rfl (lv_at hl 2 rfl) ?_
      refine lv_iconst (v := 4) hx hb dX4_allPulp_5 (by decide) ?_
      refine lv_icmp_ge (tgt := 24) hx hb dX4_allPulp_6 (by decide) (fun c_1 => ?_) (fun c_1 => ?_)
      · replace hF := if_t hF c_1
        refine lv_iload_n hx hb dX4_allPulp_24 rfl (lv_at hl 1 rfl) ?_
        cases hF
        exact hQ _ _ _ _ _ _ (fun _ => 0) dX4_allPulp_25 hP hD hS (Nat.le_of_ble_eq_true rfl) (Nat.le_of_ble_eq_true rfl)
      · replace hF := if_f hF c_1
        refine lv_iload_n hx hb dX4_allPulp_9 rfl (lv_at hl 1 rfl) ?_
        refine lv_aload_n hx hb dX4_allPulp_10 rfl (lv_at hl 0 rfl) ?_
        refine va_get (D := D) (C := RX4) (T := TX4) (N := 3) hx hb hts hiX4 hown hK hP 0 gtX4_0 rfl 0 (by decide) hf9 (fun _ h9 => h9) rfl dX4_allPulp_11 ?_
        refine lv_iload_n hx hb dX4_allPulp_14 rfl (lv_at hl 2 rfl) ?_
        replace hF := ckI_some hF
        obtain ⟨hi_2, hF⟩ := hF
        refine va_iald hx hb hK hP 1 0 gtX4_1 rfl hi_2 dX4_allPulp_15 ?_
        refine lv_iadd hx hb dX4_allPulp_16 ?_
        refine lv_istore_n (lv' := [(1, .int (x1_4 + (pulp x2_4.toNatClampNeg))), (0, .ref (h 0)), (2, .int x2_4)]) hx hb dX4_allPulp_17 rfl hl (by decide) rfl (fun ls hl => ?_)
        refine lv_iinc (v := x2_4 + 1) (lv' := [(2, .int (x2_4 + 1)), (1, .int (x1_4 + (pulp x2_4.toNatClampNeg))), (0, .ref (h 0))]) hx hb dX4_allPulp_18 hl (k := 2) rfl rfl (by decide) rfl (fun ls hl => ?_)
        refine lv_goto (tgt := 4) hx hb dX4_allPulp_21 (by decide) ?_
        exact ih  (x1_4 + (pulp x2_4.toNatClampNeg)) (x2_4 + 1)  hF _ _ _ hP hD hS (lv_sub hl [2, 1, 0] rfl)
  unfold fX4_allPulp at hF
  refine lv_iconst (v := 0) hx hb dX4_allPulp_0 (by decide) ?_
  refine lv_istore_n (lv' := [(1, .int 0), (0, .ref (h 0))]) hx hb dX4_allPulp_1 rfl hl (by decide) rfl (fun ls hl => ?_)
  refine lv_iconst (v := 0) hx hb dX4_allPulp_2 (by decide) ?_
  refine lv_istore_n (lv' := [(2, .int 0), (1, .int 0), (0, .ref (h 0))]) hx hb dX4_allPulp_3 rfl hl (by decide) rfl (fun ls hl => ?_)
  exact L4 300 0 0  hF _ _ _ hP hD hS (lv_sub hl [2, 1, 0] rfl)

def fX4_beatOf (beat : FN) (a1 : Int32) : Option (Int32) := (fX5_isBelow a1 4).bind fun z1 => if z1 = 0 then some 0 else ckI a1 4 (some (beat a1.toNatClampNeg))
abbrev rX4_beatOf : Room := { frames := 1, cells := 0, slots := 0, locals := 21 }
set_option maxHeartbeats 4000000 in
set_option maxRecDepth 100000 in
theorem kX4_beatOf (l : Launch) (D : va_G) (cy : Nat → ClassId) (sa : SAT) (h : Nat → Nat) (pulp : FN) (beat : FN) (sort : FN) (a1 : Int32) (z : Int32) (hF : fX4_beatOf beat a1 = some z) : KI l D (tyW cy) sa yX4_beatOf wsX4_beatOf rX4_beatOf [.ref (h 0), .int a1] (wX4 cy h pulp beat sort) z (fun _ => wX4 cy h pulp beat sort) 0 0 := by
  refine KI.of (cc := cX4_beatOf) (maxL := 2) (by decide +kernel) rfl (Nat.le_of_ble_eq_true rfl) ?_
  intro p e s m args below meth c A ls Q hE hQ
  obtain ⟨hx, hb, hml, hown, hts, hA, hP, hK, hD, hG, hl, hnm⟩ := hE
  replace hown : s.vm.findClass RX4 = some m.cls := hown
  have hiX4 : ∀ w ∈ u_ws RX4 TX4 3, w ∈ wsX4_beatOf := by decide +kernel
  have hf15 : (Cond.fieldLink RX4 15 "RagVats$Vats" "beat" "[I").before args s = true := hts _ (by decide +kernel)
  have hn33 : va_Nw (.methodLinkNest RX4 33 yX5_isBelow "RagVats") s := hG.1.1 _ (by decide +kernel)
  replace hl : lv_has ls 2 [(0, .ref (h 0)), (1, .int a1)] := hl
  have hS : va_S A s.heap s.heap [] := va_S.rf
  unfold fX4_beatOf at hF
  refine lv_iload_n hx hb dX4_beatOf_0 rfl (lv_at hl 1 rfl) ?_
  refine lv_iconst (v := 4) hx hb dX4_beatOf_1 (by decide) ?_
  replace hF := bnd_some hF
  obtain ⟨z1, hz_1, hF⟩ := hF
  refine krI (kSN (As := [.int a1, .int 4]) ⟨hx, hb, hml, hown, hts⟩ (kX5_isBelow l D cy sa a1 4 z1 hz_1 _) ⟨va_cnB (host := "RagVats") 2 hts gX4_beatOf_X5_isBelow_n33 rfl rfl rfl hn33 (hts (.initialized RX5) (by decide +kernel)) (by decide +kernel) ⟨Nat.le_of_ble_eq_true rfl, Nat.le_of_ble_eq_true rfl⟩, hts (.static yX5_isBelow) (by decide +kernel), trivial⟩ hK hP hD hS hA hG [] rfl rfl rfl hl.1 [] rfl (Nat.le_of_ble_eq_true rfl) dX4_beatOf_2 ⟨(Nat.le_of_ble_eq_true rfl), (Nat.le_of_ble_eq_true rfl)⟩) hP hD hS hA [] rfl (fun H locs hP hS => ?_)
  refine lv_if_eq (tgt := 17) hx hb dX4_beatOf_5 (by decide) (fun c_2 => ?_) (fun c_2 => ?_)
  · replace hF := if_t hF c_2
    refine lv_iconst (v := 0) hx hb dX4_beatOf_17 (by decide) ?_
    cases hF
    exact hQ _ _ _ _ _ _ (fun _ => 0) dX4_beatOf_18 hP hD hS (Nat.le_of_ble_eq_true rfl) (Nat.le_of_ble_eq_true rfl)
  · replace hF := if_f hF c_2
    refine lv_aload_n hx hb dX4_beatOf_8 rfl (lv_at hl 0 rfl) ?_
    refine va_get (D := D) (C := RX4) (T := TX4) (N := 3) hx hb hts hiX4 hown hK hP 0 gtX4_0 rfl 1 (by decide) hf15 (fun _ h9 => h9) rfl dX4_beatOf_9 ?_
    refine lv_iload_n hx hb dX4_beatOf_12 rfl (lv_at hl 1 rfl) ?_
    replace hF := ckI_some hF
    obtain ⟨hi_3, hF⟩ := hF
    refine va_iald hx hb hK hP 2 0 gtX4_2 rfl hi_3 dX4_beatOf_13 ?_
    refine lv_goto (tgt := 18) hx hb dX4_beatOf_14 (by decide) ?_
    cases hF
    exact hQ _ _ _ _ _ _ (fun _ => 0) dX4_beatOf_18 hP hD hS (Nat.le_of_ble_eq_true rfl) (Nat.le_of_ble_eq_true rfl)

def fX4_pulpOf (pulp : FN) (a1 : Int32) : Option (Int32) := (fX5_isBelow a1 4).bind fun z1 => if z1 = 0 then some 0 else ckI a1 4 (some (pulp a1.toNatClampNeg))
abbrev rX4_pulpOf : Room := { frames := 1, cells := 0, slots := 0, locals := 21 }
set_option maxHeartbeats 4000000 in
set_option maxRecDepth 100000 in
theorem kX4_pulpOf (l : Launch) (D : va_G) (cy : Nat → ClassId) (sa : SAT) (h : Nat → Nat) (pulp : FN) (beat : FN) (sort : FN) (a1 : Int32) (z : Int32) (hF : fX4_pulpOf pulp a1 = some z) : KI l D (tyW cy) sa yX4_pulpOf wsX4_pulpOf rX4_pulpOf [.ref (h 0), .int a1] (wX4 cy h pulp beat sort) z (fun _ => wX4 cy h pulp beat sort) 0 0 := by
  refine KI.of (cc := cX4_pulpOf) (maxL := 2) (by decide +kernel) rfl (Nat.le_of_ble_eq_true rfl) ?_
  intro p e s m args below meth c A ls Q hE hQ
  obtain ⟨hx, hb, hml, hown, hts, hA, hP, hK, hD, hG, hl, hnm⟩ := hE
  replace hown : s.vm.findClass RX4 = some m.cls := hown
  have hiX4 : ∀ w ∈ u_ws RX4 TX4 3, w ∈ wsX4_pulpOf := by decide +kernel
  have hf9 : (Cond.fieldLink RX4 9 "RagVats$Vats" "pulp" "[I").before args s = true := hts _ (by decide +kernel)
  have hn33 : va_Nw (.methodLinkNest RX4 33 yX5_isBelow "RagVats") s := hG.1.1 _ (by decide +kernel)
  replace hl : lv_has ls 2 [(0, .ref (h 0)), (1, .int a1)] := hl
  have hS : va_S A s.heap s.heap [] := va_S.rf
  unfold fX4_pulpOf at hF
  refine lv_iload_n hx hb dX4_pulpOf_0 rfl (lv_at hl 1 rfl) ?_
  refine lv_iconst (v := 4) hx hb dX4_pulpOf_1 (by decide) ?_
  replace hF := bnd_some hF
  obtain ⟨z1, hz_1, hF⟩ := hF
  refine krI (kSN (As := [.int a1, .int 4]) ⟨hx, hb, hml, hown, hts⟩ (kX5_isBelow l D cy sa a1 4 z1 hz_1 _) ⟨va_cnB (host := "RagVats") 2 hts gX4_pulpOf_X5_isBelow_n33 rfl rfl rfl hn33 (hts (.initialized RX5) (by decide +kernel)) (by decide +kernel) ⟨Nat.le_of_ble_eq_true rfl, Nat.le_of_ble_eq_true rfl⟩, hts (.static yX5_isBelow) (by decide +kernel), trivial⟩ hK hP hD hS hA hG [] rfl rfl rfl hl.1 [] rfl (Nat.le_of_ble_eq_true rfl) dX4_pulpOf_2 ⟨(Nat.le_of_ble_eq_true rfl), (Nat.le_of_ble_eq_true rfl)⟩) hP hD hS hA [] rfl (fun H locs hP hS => ?_)
  refine lv_if_eq (tgt := 17) hx hb dX4_pulpOf_5 (by decide) (fun c_2 => ?_) (fun c_2 => ?_)
  · replace hF := if_t hF c_2
    refine lv_iconst (v := 0) hx hb dX4_pulpOf_17 (by decide) ?_
    cases hF
    exact hQ _ _ _ _ _ _ (fun _ => 0) dX4_pulpOf_18 hP hD hS (Nat.le_of_ble_eq_true rfl) (Nat.le_of_ble_eq_true rfl)
  · replace hF := if_f hF c_2
    refine lv_aload_n hx hb dX4_pulpOf_8 rfl (lv_at hl 0 rfl) ?_
    refine va_get (D := D) (C := RX4) (T := TX4) (N := 3) hx hb hts hiX4 hown hK hP 0 gtX4_0 rfl 0 (by decide) hf9 (fun _ h9 => h9) rfl dX4_pulpOf_9 ?_
    refine lv_iload_n hx hb dX4_pulpOf_12 rfl (lv_at hl 1 rfl) ?_
    replace hF := ckI_some hF
    obtain ⟨hi_3, hF⟩ := hF
    refine va_iald hx hb hK hP 1 0 gtX4_1 rfl hi_3 dX4_pulpOf_13 ?_
    refine lv_goto (tgt := 18) hx hb dX4_pulpOf_14 (by decide) ?_
    cases hF
    exact hQ _ _ _ _ _ _ (fun _ => 0) dX4_pulpOf_18 hP hD hS (Nat.le_of_ble_eq_true rfl) (Nat.le_of_ble_eq_true rfl)

def fJ9_floorMod_7cf53 (a1 : Int32) (a2 : Int32) : Option (Int32) := ckZ a2 (if 0 ≤ (a1 ^^^ a2) then some (a1 - a1 / a2 * a2) else if (a1 - a1 / a2 * a2) = 0 then some (a1 - a1 / a2 * a2) else some ((a1 - a1 / a2 * a2) + a2))
abbrev rJ9_floorMod_7cf53 : Room := { frames := 0, cells := 0, slots := 0, locals := 0 }
set_option maxHeartbeats 4000000 in
set_option maxRecDepth 100000 in
theorem kJ9_floorMod_7cf53 (l : Launch) (D : va_G) (cy : Nat → ClassId) (sa : SAT) (a1 : Int32) (a2 : Int32) (z : Int32) (hF : fJ9_floorMod_7cf53 a1 a2 = some z) : KI l D (tyW cy) sa yJ9_floorMod_7cf53 wsJ9_floorMod_7cf53 rJ9_floorMod_7cf53 [.int a1, .int a2] (([] : va_W)) z (fun _ => ([] : va_W)) 0 0 := by
  refine KI.ofF (cc := cJ9_floorMod_7cf53) (maxL := 3) (by decide +kernel) rfl (Nat.le_of_ble_eq_true rfl) ?_
  intro p e s m args below meth c A ls Q hE hQ
  obtain ⟨hx, hb, hml, hown, hts, hA, hP, hK, hD, hG, hl, hnm⟩ := hE
  replace hown : s.vm.findClass RJ9 = some m.cls := hown
  replace hl : lv_has ls 3 [(0, .int a1), (1, .int a2)] := hl
  have hS : va_S A s.heap s.heap [] := va_S.rf
  unfold fJ9_floorMod_7cf53 at hF
  refine lv_iload_n hx hb dJ9_floorMod_7cf53_0 rfl (lv_at hl 0 rfl) ?_
  refine lv_iload_n hx hb dJ9_floorMod_7cf53_1 rfl (lv_at hl 1 rfl) ?_
  replace hF := ckZ_some hF
  obtain ⟨hz_1, hF⟩ := hF
  refine lv_irem hx hb dJ9_floorMod_7cf53_2 hz_1 ?_
  refine lv_istore_n (lv' := [(2, .int (a1 - a1 / a2 * a2)), (0, .int a1), (1, .int a2)]) hx hb dJ9_floorMod_7cf53_3 rfl hl (by decide) rfl (fun ls hl => ?_)
  refine lv_iload_n hx hb dJ9_floorMod_7cf53_4 rfl (lv_at hl 1 rfl) ?_
  refine lv_iload_n hx hb dJ9_floorMod_7cf53_5 rfl (lv_at hl 2 rfl) ?_
  refine lv_ixor hx hb dJ9_floorMod_7cf53_6 ?_
  refine lv_if_ge (tgt := 18) hx hb dJ9_floorMod_7cf53_7 (by decide) (fun c_2 => ?_) (fun c_2 => ?_)
  · replace hF := if_t hF c_2
    refine lv_iload_n hx hb dJ9_floorMod_7cf53_18 rfl (lv_at hl 0 rfl) ?_
    cases hF
    exact hQ _ _ _ _ _ _ (fun _ => 0) dJ9_floorMod_7cf53_19 hP hD hS (Nat.le_of_ble_eq_true rfl) (Nat.le_of_ble_eq_true rfl)
  · replace hF := if_f hF c_2
    refine lv_iload_n hx hb dJ9_floorMod_7cf53_10 rfl (lv_at hl 0 rfl) ?_
    refine lv_if_eq (tgt := 18) hx hb dJ9_floorMod_7cf53_11 (by decide) (fun c_3 => ?_) (fun c_3 => ?_)
    · replace hF := if_t hF c_3
      refine lv_iload_n hx hb dJ9_floorMod_7cf53_18 rfl (lv_at hl 0 rfl) ?_
      cases hF
      exact hQ _ _ _ _ _ _ (fun _ => 0) dJ9_floorMod_7cf53_19 hP hD hS (Nat.le_of_ble_eq_true rfl) (Nat.le_of_ble_eq_true rfl)
    · replace hF := if_f hF c_3
      refine lv_iload_n hx hb dJ9_floorMod_7cf53_14 rfl (lv_at hl 0 rfl) ?_
      refine lv_iload_n hx hb dJ9_floorMod_7cf53_15 rfl (lv_at hl 2 rfl) ?_
      refine lv_iadd hx hb dJ9_floorMod_7cf53_16 ?_
      cases hF
      exact hQ _ _ _ _ _ _ (fun _ => 0) dJ9_floorMod_7cf53_17 hP hD hS (Nat.le_of_ble_eq_true rfl) (Nat.le_of_ble_eq_true rfl)

def fX4_numberWithPulp_L4 (pulp : FN) : Nat → Int32 → Int32 → Option (Int32)
  | 0, _, _ => none
  | k + 1, x1_4, x2_4 => if 4 ≤ x2_4 then some x1_4 else ckI x2_4 4 (if (pulp x2_4.toNatClampNeg) ≤ 0 then fX4_numberWithPulp_L4 pulp k x1_4 (x2_4 + 1) else fX4_numberWithPulp_L4 pulp k (x1_4 + 1) (x2_4 + 1))
def fX4_numberWithPulp (pulp : FN) : Option (Int32) := fX4_numberWithPulp_L4 pulp 300 0 0
abbrev rX4_numberWithPulp : Room := { frames := 0, cells := 0, slots := 0, locals := 0 }
set_option maxHeartbeats 4000000 in
set_option maxRecDepth 100000 in
theorem kX4_numberWithPulp (l : Launch) (D : va_G) (cy : Nat → ClassId) (sa : SAT) (h : Nat → Nat) (pulp : FN) (beat : FN) (sort : FN) (z : Int32) (hF : fX4_numberWithPulp pulp = some z) : KI l D (tyW cy) sa yX4_numberWithPulp wsX4_numberWithPulp rX4_numberWithPulp [.ref (h 0)] (wX4 cy h pulp beat sort) z (fun _ => wX4 cy h pulp beat sort) 0 0 := by
  refine KI.of (cc := cX4_numberWithPulp) (maxL := 3) (by decide +kernel) rfl (Nat.le_of_ble_eq_true rfl) ?_
  intro p e s m args below meth c A ls Q hE hQ
  obtain ⟨hx, hb, hml, hown, hts, hA, hP, hK, hD, hG, hl, hnm⟩ := hE
  replace hown : s.vm.findClass RX4 = some m.cls := hown
  have hiX4 : ∀ w ∈ u_ws RX4 TX4 3, w ∈ wsX4_numberWithPulp := by decide +kernel
  have hf9 : (Cond.fieldLink RX4 9 "RagVats$Vats" "pulp" "[I").before args s = true := hts _ (by decide +kernel)
  replace hl : lv_has ls 3 [(0, .ref (h 0))] := hl
  have hS : va_S A s.heap s.heap [] := va_S.rf
  have L4 : ∀ (k : Nat) (x1_4 : Int32) (x2_4 : Int32), fX4_numberWithPulp_L4 pulp k x1_4 x2_4 = some z → ∀ (H : Heap) (locs : List Loc) (ls : Array Slot), va_P D vwCl (wX4 cy h pulp beat sort) H → va_D A (wX4 cy h pulp beat sort) → va_S A s.heap H locs → lv_has ls 3 [(0, .ref (h 0)), (1, .int x1_4), (2, .int x2_4)] → W p l e rX4_numberWithPulp s m args below meth c H locs 0 0 Q (F0 m 4 ls []) := by
    intro k
    induction k with
    | zero =>
      intro x1_4 x2_4 hF
      rw [fX4_numberWithPulp_L4] at hF
      cases hF
    | succ k ih =>
      intro x1_4 x2_4 hF H locs ls hP hD hS hl
      rw [fX4_numberWithPulp_L4] at hF
      refine lv_iload_n hx hb dX4_numberWithPulp_4 rfl (lv_at hl 2 rfl) ?_
      refine lv_iconst (v := 4) hx hb dX4_numberWithPulp_5 (by decide) ?_
      refine lv_icmp_ge (tgt := 27) hx hb dX4_numberWithPulp_6 (by decide) (fun c_1 => ?_) (fun c_1 => ?_)
      · replace hF := if_t hF c_1
        refine lv_iload_n hx hb dX4_numberWithPulp_27 rfl (lv_at hl 1 rfl) ?_
        cases hF
        exact hQ _ _ _ _ _ _ (fun _ => 0) dX4_numberWithPulp_28 hP hD hS (Nat.le_of_ble_eq_true rfl) (Nat.le_of_ble_eq_true rfl)
      · replace hF := if_f hF c_1
        refine lv_aload_n hx hb dX4_numberWithPulp_9 rfl (lv_at hl 0 rfl) ?_
        refine va_get (D := D) (C := RX4) (T := TX4) (N := 3) hx hb hts hiX4 hown hK hP 0 gtX4_0 rfl 0 (by decide) hf9 (fun _ h9 => h9) rfl dX4_numberWithPulp_10 ?_
        refine lv_iload_n hx hb dX4_numberWithPulp_13 rfl (lv_at hl 2 rfl) ?_
        replace hF := ckI_some hF
        obtain ⟨hi_2, hF⟩ := hF
        refine va_iald hx hb hK hP 1 0 gtX4_1 rfl hi_2 dX4_numberWithPulp_14 ?_
        refine lv_if_le (tgt := 21) hx hb dX4_numberWithPulp_15 (by decide) (fun c_3 => ?_) (fun c_3 => ?_)
        · replace hF := if_t hF c_3
          refine lv_iinc (v := x2_4 + 1) (lv' := [(2, .int (x2_4 + 1)), (0, .ref (h 0)), (1, .int x1_4)]) hx hb dX4_numberWithPulp_21 hl (k := 2) rfl rfl (by decide) rfl (fun ls hl => ?_)
          refine lv_goto (tgt := 4) hx hb dX4_numberWithPulp_24 (by decide) ?_
          exact ih  x1_4 (x2_4 + 1)  hF _ _ _ hP hD hS (lv_sub hl [1, 2, 0] rfl)
        · replace hF := if_f hF c_3
          refine lv_iinc (v := x1_4 + 1) (lv' := [(1, .int (x1_4 + 1)), (0, .ref (h 0)), (2, .int x2_4)]) hx hb dX4_numberWithPulp_18 hl (k := 1) rfl rfl (by decide) rfl (fun ls hl => ?_)
          refine lv_iinc (v := x2_4 + 1) (lv' := [(2, .int (x2_4 + 1)), (1, .int (x1_4 + 1)), (0, .ref (h 0))]) hx hb dX4_numberWithPulp_21 hl (k := 2) rfl rfl (by decide) rfl (fun ls hl => ?_)
          refine lv_goto (tgt := 4) hx hb dX4_numberWithPulp_24 (by decide) ?_
          exact ih  (x1_4 + 1) (x2_4 + 1)  hF _ _ _ hP hD hS (lv_sub hl [2, 1, 0] rfl)
  unfold fX4_numberWithPulp at hF
  refine lv_iconst (v := 0) hx hb dX4_numberWithPulp_0 (by decide) ?_
  refine lv_istore_n (lv' := [(1, .int 0), (0, .ref (h 0))]) hx hb dX4_numberWithPulp_1 rfl hl (by decide) rfl (fun ls hl => ?_)
  refine lv_iconst (v := 0) hx hb dX4_numberWithPulp_2 (by decide) ?_
  refine lv_istore_n (lv' := [(2, .int 0), (1, .int 0), (0, .ref (h 0))]) hx hb dX4_numberWithPulp_3 rfl hl (by decide) rfl (fun ls hl => ?_)
  exact L4 300 0 0  hF _ _ _ hP hD hS (lv_sub hl [2, 1, 0] rfl)

def fX4_beatAll_L19 (pulp : FN) : Nat → FN → Int32 → Int32 → Option (FN)
  | 0, _, _, _ => none
  | k + 1, beat_19, x3_19, x4_19 => if 4 ≤ x4_19 then some beat_19 else ckI x4_19 4 (if (pulp x4_19.toNatClampNeg) ≤ 0 then fX4_beatAll_L19 pulp k beat_19 x3_19 (x4_19 + 1) else ckI x4_19 4 (ckI x4_19 4 (fX4_beatAll_L19 pulp k (upd beat_19 x4_19.toNatClampNeg (if ((beat_19 x4_19.toNatClampNeg) + x3_19) < 99 then ((beat_19 x4_19.toNatClampNeg) + x3_19) else 99)) x3_19 (x4_19 + 1))))
def fX4_beatAll (pulp : FN) (beat : FN) (a1 : Int32) : Option (FN) := (fX4_numberWithPulp pulp).bind fun z1 => if z1 = 0 then some beat else ckZ z1 (fX4_beatAll_L19 pulp 300 beat ((3 * a1) / z1) 0)
abbrev rX4_beatAll : Room := { frames := 1, cells := 0, slots := 0, locals := 30 }
set_option maxHeartbeats 4000000 in
set_option maxRecDepth 100000 in
theorem kX4_beatAll (l : Launch) (D : va_G) (cy : Nat → ClassId) (sa : SAT) (h : Nat → Nat) (pulp : FN) (beat : FN) (sort : FN) (a1 : Int32) (z : FN) (hF : fX4_beatAll pulp beat a1 = some z) : KV l D (tyW cy) sa yX4_beatAll wsX4_beatAll rX4_beatAll [.ref (h 0), .int a1] (wX4 cy h pulp beat sort) (fun _ => wX4 cy h pulp z sort) 0 0 := by
  refine KV.of (cc := cX4_beatAll) (maxL := 5) (by decide +kernel) rfl (Nat.le_of_ble_eq_true rfl) ?_
  intro p e s m args below meth c A ls Q hE hQ
  obtain ⟨hx, hb, hml, hown, hts, hA, hP, hK, hD, hG, hl, hnm⟩ := hE
  replace hown : s.vm.findClass RX4 = some m.cls := hown
  have hiX4 : ∀ w ∈ u_ws RX4 TX4 3, w ∈ wsX4_beatAll := by decide +kernel
  have hf9 : (Cond.fieldLink RX4 9 "RagVats$Vats" "pulp" "[I").before args s = true := hts _ (by decide +kernel)
  have hf15 : (Cond.fieldLink RX4 15 "RagVats$Vats" "beat" "[I").before args s = true := hts _ (by decide +kernel)
  replace hl : lv_has ls 5 [(0, .ref (h 0)), (1, .int a1)] := hl
  have hS : va_S A s.heap s.heap [] := va_S.rf
  have L19 : ∀ (k : Nat) (beat_19 : FN) (x3_19 : Int32) (x4_19 : Int32), fX4_beatAll_L19 pulp k beat_19 x3_19 x4_19 = some z → ∀ (H : Heap) (locs : List Loc) (ls : Array Slot), va_P D vwCl (wX4 cy h pulp beat_19 sort) H → va_D A (wX4 cy h pulp beat_19 sort) → va_S A s.heap H locs → lv_has ls 5 [(0, .ref (h 0)), (3, .int x3_19), (4, .int x4_19)] → W p l e rX4_beatAll s m args below meth c H locs 0 0 Q (F0 m 19 ls []) := by
    intro k
    induction k with
    | zero =>
      intro beat_19 x3_19 x4_19 hF
      rw [fX4_beatAll_L19] at hF
      cases hF
    | succ k ih =>
      intro beat_19 x3_19 x4_19 hF H locs ls hP hD hS hl
      rw [fX4_beatAll_L19] at hF
      refine lv_iload hx hb dX4_beatAll_19 (lv_at hl 2 rfl) ?_
      refine lv_iconst (v := 4) hx hb dX4_beatAll_21 (by decide) ?_
      refine lv_icmp_ge (tgt := 62) hx hb dX4_beatAll_22 (by decide) (fun c_4 => ?_) (fun c_4 => ?_)
      · replace hF := if_t hF c_4
        cases hF
        exact hQ _ _ _ _ _ _ (fun _ => 0) dX4_beatAll_62 hP hD hS (Nat.le_of_ble_eq_true rfl) (Nat.le_of_ble_eq_true rfl)
      · replace hF := if_f hF c_4
        refine lv_aload_n hx hb dX4_beatAll_25 rfl (lv_at hl 0 rfl) ?_
        refine va_get (D := D) (C := RX4) (T := TX4) (N := 3) hx hb hts hiX4 hown hK hP 0 gtX4_0 rfl 0 (by decide) hf9 (fun _ h9 => h9) rfl dX4_beatAll_26 ?_
        refine lv_iload hx hb dX4_beatAll_29 (lv_at hl 2 rfl) ?_
        replace hF := ckI_some hF
        obtain ⟨hi_5, hF⟩ := hF
        refine va_iald hx hb hK hP 1 0 gtX4_1 rfl hi_5 dX4_beatAll_31 ?_
        refine lv_if_le (tgt := 56) hx hb dX4_beatAll_32 (by decide) (fun c_6 => ?_) (fun c_6 => ?_)
        · replace hF := if_t hF c_6
          refine lv_iinc (v := x4_19 + 1) (lv' := [(4, .int (x4_19 + 1)), (0, .ref (h 0)), (3, .int x3_19)]) hx hb dX4_beatAll_56 hl (k := 2) rfl rfl (by decide) rfl (fun ls hl => ?_)
          refine lv_goto (tgt := 19) hx hb dX4_beatAll_59 (by decide) ?_
          exact ih  beat_19 x3_19 (x4_19 + 1)  hF _ _ _ hP hD hS (lv_sub hl [1, 2, 0] rfl)
        · replace hF := if_f hF c_6
          refine lv_aload_n hx hb dX4_beatAll_35 rfl (lv_at hl 0 rfl) ?_
          refine va_get (D := D) (C := RX4) (T := TX4) (N := 3) hx hb hts hiX4 hown hK hP 0 gtX4_0 rfl 1 (by decide) hf15 (fun _ h9 => h9) rfl dX4_beatAll_36 ?_
          refine lv_iload hx hb dX4_beatAll_39 (lv_at hl 2 rfl) ?_
          refine lv_bipush (v := 99) hx hb dX4_beatAll_41 (by decide) ?_
          refine lv_aload_n hx hb dX4_beatAll_43 rfl (lv_at hl 0 rfl) ?_
          refine va_get (D := D) (C := RX4) (T := TX4) (N := 3) hx hb hts hiX4 hown hK hP 0 gtX4_0 rfl 1 (by decide) hf15 (fun _ h9 => h9) rfl dX4_beatAll_44 ?_
          refine lv_iload hx hb dX4_beatAll_47 (lv_at hl 2 rfl) ?_
          replace hF := ckI_some hF
          obtain ⟨hi_7, hF⟩ := hF
          refine va_iald hx hb hK hP 2 0 gtX4_2 rfl hi_7 dX4_beatAll_49 ?_
          refine lv_iload_n hx hb dX4_beatAll_50 rfl (lv_at hl 1 rfl) ?_
          refine lv_iadd hx hb dX4_beatAll_51 ?_
          refine va_mmin hx hb (hml.trans hl.1.symm) hown (hts (.methodLink RX4 55 Lib.Math.min.name) (by decide +kernel)) (hts (.static Lib.Math.min.name) (by decide +kernel)) (hts (.initialized "java/lang/Math") (by decide +kernel)) (hts (.code Lib.Math.min.name Lib.Math.min.code 2 (some .int)) (by decide +kernel)) (Nat.le_of_ble_eq_true rfl) (Nat.le_of_ble_eq_true rfl) (Nat.le_of_ble_eq_true rfl) (Nat.le_of_ble_eq_true rfl) dX4_beatAll_52 ?_
          replace hF := ckI_some hF
          obtain ⟨hi_8, hF⟩ := hF
          refine va_iast hx hb hK hP hD hS 2 0 gtX4_2 rfl hi_8 dX4_beatAll_55 (fun H locs hP hD hS => ?_)
          rw [stX4_2] at hP hD
          refine lv_iinc (v := x4_19 + 1) (lv' := [(4, .int (x4_19 + 1)), (0, .ref (h 0)), (3, .int x3_19)]) hx hb dX4_beatAll_56 hl (k := 2) rfl rfl (by decide) rfl (fun ls hl => ?_)
          refine lv_goto (tgt := 19) hx hb dX4_beatAll_59 (by decide) ?_
          exact ih  (upd beat_19 x4_19.toNatClampNeg (if ((beat_19 x4_19.toNatClampNeg) + x3_19) < 99 then ((beat_19 x4_19.toNatClampNeg) + x3_19) else 99)) x3_19 (x4_19 + 1)  hF _ _ _ hP hD hS (lv_sub hl [1, 2, 0] rfl)
  unfold fX4_beatAll at hF
  refine lv_aload_n hx hb dX4_beatAll_0 rfl (lv_at hl 0 rfl) ?_
  replace hF := bnd_some hF
  obtain ⟨z1, hz_1, hF⟩ := hF
  refine krI (kV (As := []) ⟨hx, hb, hml, hown, hts⟩ (kX4_numberWithPulp l D cy sa h pulp beat sort z1 hz_1 _) (cwV 0 hts gX4_beatAll_X4_numberWithPulp rfl rfl rfl (by decide +kernel) ⟨Nat.le_of_ble_eq_true rfl, Nat.le_of_ble_eq_true rfl⟩) hK hP hD hS hA hG [0, 1, 2, 3] hcX4_X4_0 ndX4_0 gtX4_0 rfl rfl rfl hl.1 [] rfl (Nat.le_of_ble_eq_true rfl) dX4_beatAll_1 ⟨(Nat.le_of_ble_eq_true rfl), (Nat.le_of_ble_eq_true rfl)⟩) hP hD hS hA [0, 1, 2, 3] hcX4_X4_0 (fun H locs hP hS => ?_)
  refine lv_istore_n (lv' := [(2, .int z1), (0, .ref (h 0)), (1, .int a1)]) hx hb dX4_beatAll_4 rfl hl (by decide) rfl (fun ls hl => ?_)
  refine lv_iload_n hx hb dX4_beatAll_5 rfl (lv_at hl 0 rfl) ?_
  refine lv_if_ne (tgt := 10) hx hb dX4_beatAll_6 (by decide) (fun c_2 => ?_) (fun c_2 => ?_)
  · replace hF := if_f hF c_2
    refine lv_iconst (v := 3) hx hb dX4_beatAll_10 (by decide) ?_
    refine lv_iload_n hx hb dX4_beatAll_11 rfl (lv_at hl 2 rfl) ?_
    refine lv_imul hx hb dX4_beatAll_12 ?_
    refine lv_iload_n hx hb dX4_beatAll_13 rfl (lv_at hl 0 rfl) ?_
    replace hF := ckZ_some hF
    obtain ⟨hz_3, hF⟩ := hF
    refine lv_idiv hx hb dX4_beatAll_14 hz_3 ?_
    refine lv_istore_n (lv' := [(3, .int ((3 * a1) / z1)), (2, .int z1), (0, .ref (h 0)), (1, .int a1)]) hx hb dX4_beatAll_15 rfl hl (by decide) rfl (fun ls hl => ?_)
    refine lv_iconst (v := 0) hx hb dX4_beatAll_16 (by decide) ?_
    refine lv_istore (lv' := [(4, .int 0), (3, .int ((3 * a1) / z1)), (2, .int z1), (0, .ref (h 0)), (1, .int a1)]) hx hb dX4_beatAll_17 hl (by decide) rfl (fun ls hl => ?_)
    exact L19 300 beat ((3 * a1) / z1) 0  hF _ _ _ hP hD hS (lv_sub hl [3, 1, 0] rfl)
  · replace hF := if_t hF c_2
    cases hF
    exact hQ _ _ _ _ _ _ (fun _ => 0) dX4_beatAll_9 hP hD hS (Nat.le_of_ble_eq_true rfl) (Nat.le_of_ble_eq_true rfl)

def fX4_sortOf (sort : FN) (a1 : Int32) : Option (Int32) := (fX5_isBelow a1 4).bind fun z1 => if z1 = 0 then some (-1) else ckI a1 4 (some (sort a1.toNatClampNeg))
abbrev rX4_sortOf : Room := { frames := 1, cells := 0, slots := 0, locals := 21 }
set_option maxHeartbeats 4000000 in
set_option maxRecDepth 100000 in
theorem kX4_sortOf (l : Launch) (D : va_G) (cy : Nat → ClassId) (sa : SAT) (h : Nat → Nat) (pulp : FN) (beat : FN) (sort : FN) (a1 : Int32) (z : Int32) (hF : fX4_sortOf sort a1 = some z) : KI l D (tyW cy) sa yX4_sortOf wsX4_sortOf rX4_sortOf [.ref (h 0), .int a1] (wX4 cy h pulp beat sort) z (fun _ => wX4 cy h pulp beat sort) 0 0 := by
  refine KI.of (cc := cX4_sortOf) (maxL := 2) (by decide +kernel) rfl (Nat.le_of_ble_eq_true rfl) ?_
  intro p e s m args below meth c A ls Q hE hQ
  obtain ⟨hx, hb, hml, hown, hts, hA, hP, hK, hD, hG, hl, hnm⟩ := hE
  replace hown : s.vm.findClass RX4 = some m.cls := hown
  have hiX4 : ∀ w ∈ u_ws RX4 TX4 3, w ∈ wsX4_sortOf := by decide +kernel
  have hf18 : (Cond.fieldLink RX4 18 "RagVats$Vats" "sort" "[I").before args s = true := hts _ (by decide +kernel)
  have hn33 : va_Nw (.methodLinkNest RX4 33 yX5_isBelow "RagVats") s := hG.1.1 _ (by decide +kernel)
  replace hl : lv_has ls 2 [(0, .ref (h 0)), (1, .int a1)] := hl
  have hS : va_S A s.heap s.heap [] := va_S.rf
  unfold fX4_sortOf at hF
  refine lv_iload_n hx hb dX4_sortOf_0 rfl (lv_at hl 1 rfl) ?_
  refine lv_iconst (v := 4) hx hb dX4_sortOf_1 (by decide) ?_
  replace hF := bnd_some hF
  obtain ⟨z1, hz_1, hF⟩ := hF
  refine krI (kSN (As := [.int a1, .int 4]) ⟨hx, hb, hml, hown, hts⟩ (kX5_isBelow l D cy sa a1 4 z1 hz_1 _) ⟨va_cnB (host := "RagVats") 2 hts gX4_sortOf_X5_isBelow_n33 rfl rfl rfl hn33 (hts (.initialized RX5) (by decide +kernel)) (by decide +kernel) ⟨Nat.le_of_ble_eq_true rfl, Nat.le_of_ble_eq_true rfl⟩, hts (.static yX5_isBelow) (by decide +kernel), trivial⟩ hK hP hD hS hA hG [] rfl rfl rfl hl.1 [] rfl (Nat.le_of_ble_eq_true rfl) dX4_sortOf_2 ⟨(Nat.le_of_ble_eq_true rfl), (Nat.le_of_ble_eq_true rfl)⟩) hP hD hS hA [] rfl (fun H locs hP hS => ?_)
  refine lv_if_eq (tgt := 17) hx hb dX4_sortOf_5 (by decide) (fun c_2 => ?_) (fun c_2 => ?_)
  · replace hF := if_t hF c_2
    refine lv_iconst (v := -1) hx hb dX4_sortOf_17 (by decide) ?_
    cases hF
    exact hQ _ _ _ _ _ _ (fun _ => 0) dX4_sortOf_18 hP hD hS (Nat.le_of_ble_eq_true rfl) (Nat.le_of_ble_eq_true rfl)
  · replace hF := if_f hF c_2
    refine lv_aload_n hx hb dX4_sortOf_8 rfl (lv_at hl 0 rfl) ?_
    refine va_get (D := D) (C := RX4) (T := TX4) (N := 3) hx hb hts hiX4 hown hK hP 0 gtX4_0 rfl 2 (by decide) hf18 (fun _ h9 => h9) rfl dX4_sortOf_9 ?_
    refine lv_iload_n hx hb dX4_sortOf_12 rfl (lv_at hl 1 rfl) ?_
    replace hF := ckI_some hF
    obtain ⟨hi_3, hF⟩ := hF
    refine va_iald hx hb hK hP 3 0 gtX4_3 rfl hi_3 dX4_sortOf_13 ?_
    refine lv_goto (tgt := 18) hx hb dX4_sortOf_14 (by decide) ?_
    cases hF
    exact hQ _ _ _ _ _ _ (fun _ => 0) dX4_sortOf_18 hP hD hS (Nat.le_of_ble_eq_true rfl) (Nat.le_of_ble_eq_true rfl)

def fX5_worthOf (a1 : Int32) : Option (Int32) := (fX5_isBelow a1 3).bind fun z1 => if z1 = 0 then some 0 else ckI a1 3 (some (([12, 7, 3] : List Int32).getD a1.toNatClampNeg 0))
abbrev rX5_worthOf : Room := { frames := 1, cells := 0, slots := 0, locals := 21 }
set_option maxHeartbeats 4000000 in
set_option maxRecDepth 100000 in
theorem kX5_worthOf (l : Launch) (D : va_G) (cy : Nat → ClassId) (sa : SAT) (a1 : Int32) (z : Int32) (hF : fX5_worthOf a1 = some z) : KI l D (tyW cy) sa yX5_worthOf wsX5_worthOf rX5_worthOf [.int a1] (([] : va_W)) z (fun _ => ([] : va_W)) 0 0 := by
  refine KI.of (cc := cX5_worthOf) (maxL := 1) (by decide +kernel) rfl (Nat.le_of_ble_eq_true rfl) ?_
  intro p e s m args below meth c A ls Q hE hQ
  obtain ⟨hx, hb, hml, hown, hts, hA, hP, hK, hD, hG, hl, hnm⟩ := hE
  replace hown : s.vm.findClass RX5 = some m.cls := hown
  have hf252 : (Cond.fieldLink RX5 252 "RagVats" "SHEET_WORTH" "[I").before args s = true := hts _ (by decide +kernel)
  replace hl : lv_has ls 1 [(0, .int a1)] := hl
  have hS : va_S A s.heap s.heap [] := va_S.rf
  unfold fX5_worthOf at hF
  refine lv_iload_n hx hb dX5_worthOf_0 rfl (lv_at hl 0 rfl) ?_
  refine lv_iconst (v := 3) hx hb dX5_worthOf_1 (by decide) ?_
  replace hF := bnd_some hF
  obtain ⟨z1, hz_1, hF⟩ := hF
  refine krI (kS (As := [.int a1, .int 3]) ⟨hx, hb, hml, hown, hts⟩ (kX5_isBelow l D cy sa a1 3 z1 hz_1 _) (cwS 2 hts gX5_worthOf_X5_isBelow rfl rfl rfl (by decide +kernel) ⟨Nat.le_of_ble_eq_true rfl, Nat.le_of_ble_eq_true rfl⟩) hK hP hD hS hA hG [] rfl rfl rfl hl.1 [] rfl (Nat.le_of_ble_eq_true rfl) dX5_worthOf_2 ⟨(Nat.le_of_ble_eq_true rfl), (Nat.le_of_ble_eq_true rfl)⟩) hP hD hS hA [] rfl (fun H locs hP hS => ?_)
  refine lv_if_eq (tgt := 16) hx hb dX5_worthOf_5 (by decide) (fun c_2 => ?_) (fun c_2 => ?_)
  · replace hF := if_t hF c_2
    refine lv_iconst (v := 0) hx hb dX5_worthOf_16 (by decide) ?_
    cases hF
    exact hQ _ _ _ _ _ _ (fun _ => 0) dX5_worthOf_17 hP hD hS (Nat.le_of_ble_eq_true rfl) (Nat.le_of_ble_eq_true rfl)
  · replace hF := if_f hF c_2
    refine va_gets (C := RX5) (n := "SHEET_WORTH") (d := "[I") hx hb hG.2.2.2.1.1 hS hown hf252 (fun _ h9 => h9) dX5_worthOf_8 ?_
    refine lv_iload_n hx hb dX5_worthOf_11 rfl (lv_at hl 0 rfl) ?_
    replace hF := ckI_some hF
    obtain ⟨hi_3, hF⟩ := hF
    refine va_ti (v := .int (([12, 7, 3] : List Int32).getD a1.toNatClampNeg 0)) hx hb hG.2.2.2.1.2 hS hi_3 rfl dX5_worthOf_12 ?_
    refine lv_goto (tgt := 17) hx hb dX5_worthOf_13 (by decide) ?_
    cases hF
    exact hQ _ _ _ _ _ _ (fun _ => 0) dX5_worthOf_17 hP hD hS (Nat.le_of_ble_eq_true rfl) (Nat.le_of_ble_eq_true rfl)

def fX4_charge (pulp : FN) (beat : FN) (sort : FN) (a1 : Int32) (a2 : Int32) (a3 : Int32) : Option (FN × FN × FN) := (fX5_isBelow a1 4).bind fun z1 => if z1 = 0 then some (pulp, beat, sort) else ckI a1 4 (ckI a1 4 (ckI a1 4 (some (upd pulp a1.toNatClampNeg a3, upd beat a1.toNatClampNeg 0, upd sort a1.toNatClampNeg a2))))
abbrev rX4_charge : Room := { frames := 1, cells := 0, slots := 0, locals := 21 }
set_option maxHeartbeats 4000000 in
set_option maxRecDepth 100000 in
theorem kX4_charge (l : Launch) (D : va_G) (cy : Nat → ClassId) (sa : SAT) (h : Nat → Nat) (pulp : FN) (beat : FN) (sort : FN) (a1 : Int32) (a2 : Int32) (a3 : Int32) (z : FN × FN × FN) (hF : fX4_charge pulp beat sort a1 a2 a3 = some z) : KV l D (tyW cy) sa yX4_charge wsX4_charge rX4_charge [.ref (h 0), .int a1, .int a2, .int a3] (wX4 cy h pulp beat sort) (fun _ => wX4 cy h z.1 z.2.1 z.2.2) 0 0 := by
  refine KV.of (cc := cX4_charge) (maxL := 4) (by decide +kernel) rfl (Nat.le_of_ble_eq_true rfl) ?_
  intro p e s m args below meth c A ls Q hE hQ
  obtain ⟨hx, hb, hml, hown, hts, hA, hP, hK, hD, hG, hl, hnm⟩ := hE
  replace hown : s.vm.findClass RX4 = some m.cls := hown
  have hiX4 : ∀ w ∈ u_ws RX4 TX4 3, w ∈ wsX4_charge := by decide +kernel
  have hf9 : (Cond.fieldLink RX4 9 "RagVats$Vats" "pulp" "[I").before args s = true := hts _ (by decide +kernel)
  have hf15 : (Cond.fieldLink RX4 15 "RagVats$Vats" "beat" "[I").before args s = true := hts _ (by decide +kernel)
  have hf18 : (Cond.fieldLink RX4 18 "RagVats$Vats" "sort" "[I").before args s = true := hts _ (by decide +kernel)
  have hn33 : va_Nw (.methodLinkNest RX4 33 yX5_isBelow "RagVats") s := hG.1.1 _ (by decide +kernel)
  replace hl : lv_has ls 4 [(0, .ref (h 0)), (1, .int a1), (2, .int a2), (3, .int a3)] := hl
  have hS : va_S A s.heap s.heap [] := va_S.rf
  unfold fX4_charge at hF
  refine lv_iload_n hx hb dX4_charge_0 rfl (lv_at hl 1 rfl) ?_
  refine lv_iconst (v := 4) hx hb dX4_charge_1 (by decide) ?_
  replace hF := bnd_some hF
  obtain ⟨z1, hz_1, hF⟩ := hF
  refine krI (kSN (As := [.int a1, .int 4]) ⟨hx, hb, hml, hown, hts⟩ (kX5_isBelow l D cy sa a1 4 z1 hz_1 _) ⟨va_cnB (host := "RagVats") 2 hts gX4_charge_X5_isBelow_n33 rfl rfl rfl hn33 (hts (.initialized RX5) (by decide +kernel)) (by decide +kernel) ⟨Nat.le_of_ble_eq_true rfl, Nat.le_of_ble_eq_true rfl⟩, hts (.static yX5_isBelow) (by decide +kernel), trivial⟩ hK hP hD hS hA hG [] rfl rfl rfl hl.1 [] rfl (Nat.le_of_ble_eq_true rfl) dX4_charge_2 ⟨(Nat.le_of_ble_eq_true rfl), (Nat.le_of_ble_eq_true rfl)⟩) hP hD hS hA [] rfl (fun H locs hP hS => ?_)
  refine lv_if_eq (tgt := 29) hx hb dX4_charge_5 (by decide) (fun c_2 => ?_) (fun c_2 => ?_)
  · replace hF := if_t hF c_2
    cases hF
    exact hQ _ _ _ _ _ _ (fun _ => 0) dX4_charge_29 hP hD hS (Nat.le_of_ble_eq_true rfl) (Nat.le_of_ble_eq_true rfl)
  · replace hF := if_f hF c_2
    refine lv_aload_n hx hb dX4_charge_8 rfl (lv_at hl 0 rfl) ?_
    refine va_get (D := D) (C := RX4) (T := TX4) (N := 3) hx hb hts hiX4 hown hK hP 0 gtX4_0 rfl 0 (by decide) hf9 (fun _ h9 => h9) rfl dX4_charge_9 ?_
    refine lv_iload_n hx hb dX4_charge_12 rfl (lv_at hl 1 rfl) ?_
    refine lv_iload_n hx hb dX4_charge_13 rfl (lv_at hl 3 rfl) ?_
    replace hF := ckI_some hF
    obtain ⟨hi_3, hF⟩ := hF
    refine va_iast hx hb hK hP hD hS 1 0 gtX4_1 rfl hi_3 dX4_charge_14 (fun H locs hP hD hS => ?_)
    rw [stX4_1] at hP hD
    refine lv_aload_n hx hb dX4_charge_15 rfl (lv_at hl 0 rfl) ?_
    refine va_get (D := D) (C := RX4) (T := TX4) (N := 3) hx hb hts hiX4 hown hK hP 0 gtX4_0 rfl 1 (by decide) hf15 (fun _ h9 => h9) rfl dX4_charge_16 ?_
    refine lv_iload_n hx hb dX4_charge_19 rfl (lv_at hl 1 rfl) ?_
    refine lv_iconst (v := 0) hx hb dX4_charge_20 (by decide) ?_
    replace hF := ckI_some hF
    obtain ⟨hi_4, hF⟩ := hF
    refine va_iast hx hb hK hP hD hS 2 0 gtX4_2 rfl hi_4 dX4_charge_21 (fun H locs hP hD hS => ?_)
    rw [stX4_2] at hP hD
    refine lv_aload_n hx hb dX4_charge_22 rfl (lv_at hl 0 rfl) ?_
    refine va_get (D := D) (C := RX4) (T := TX4) (N := 3) hx hb hts hiX4 hown hK hP 0 gtX4_0 rfl 2 (by decide) hf18 (fun _ h9 => h9) rfl dX4_charge_23 ?_
    refine lv_iload_n hx hb dX4_charge_26 rfl (lv_at hl 1 rfl) ?_
    refine lv_iload_n hx hb dX4_charge_27 rfl (lv_at hl 2 rfl) ?_
    replace hF := ckI_some hF
    obtain ⟨hi_5, hF⟩ := hF
    refine va_iast hx hb hK hP hD hS 3 0 gtX4_3 rfl hi_5 dX4_charge_28 (fun H locs hP hD hS => ?_)
    rw [stX4_3] at hP hD
    cases hF
    exact hQ _ _ _ _ _ _ (fun _ => 0) dX4_charge_29 hP hD hS (Nat.le_of_ble_eq_true rfl) (Nat.le_of_ble_eq_true rfl)

def fX4_takeOut (pulp : FN) (beat : FN) (sort : FN) (a1 : Int32) (a2 : Int32) : Option (FN × FN × FN) := (fX5_isBelow a1 4).bind fun z1 => if z1 = 0 then some (pulp, beat, sort) else ckI a1 4 (ckI a1 4 (ckI a1 4 (if 0 < ((upd pulp a1.toNatClampNeg ((pulp a1.toNatClampNeg) - a2)) a1.toNatClampNeg) then some (upd pulp a1.toNatClampNeg ((pulp a1.toNatClampNeg) - a2), beat, sort) else (fX4_charge (upd pulp a1.toNatClampNeg ((pulp a1.toNatClampNeg) - a2)) beat sort a1 (-1) 0).bind fun z7 => some (z7.1, z7.2.1, z7.2.2))))
abbrev rX4_takeOut : Room := { frames := 2, cells := 0, slots := 0, locals := 44 }
set_option maxHeartbeats 4000000 in
set_option maxRecDepth 100000 in
theorem kX4_takeOut (l : Launch) (D : va_G) (cy : Nat → ClassId) (sa : SAT) (h : Nat → Nat) (pulp : FN) (beat : FN) (sort : FN) (a1 : Int32) (a2 : Int32) (z : FN × FN × FN) (hF : fX4_takeOut pulp beat sort a1 a2 = some z) : KV l D (tyW cy) sa yX4_takeOut wsX4_takeOut rX4_takeOut [.ref (h 0), .int a1, .int a2] (wX4 cy h pulp beat sort) (fun _ => wX4 cy h z.1 z.2.1 z.2.2) 0 0 := by
  refine KV.of (cc := cX4_takeOut) (maxL := 3) (by decide +kernel) rfl (Nat.le_of_ble_eq_true rfl) ?_
  intro p e s m args below meth c A ls Q hE hQ
  obtain ⟨hx, hb, hml, hown, hts, hA, hP, hK, hD, hG, hl, hnm⟩ := hE
  replace hown : s.vm.findClass RX4 = some m.cls := hown
  have hiX4 : ∀ w ∈ u_ws RX4 TX4 3, w ∈ wsX4_takeOut := by decide +kernel
  have hf9 : (Cond.fieldLink RX4 9 "RagVats$Vats" "pulp" "[I").before args s = true := hts _ (by decide +kernel)
  have hn33 : va_Nw (.methodLinkNest RX4 33 yX5_isBelow "RagVats") s := hG.1.1 _ (by decide +kernel)
  replace hl : lv_has ls 3 [(0, .ref (h 0)), (1, .int a1), (2, .int a2)] := hl
  have hS : va_S A s.heap s.heap [] := va_S.rf
  unfold fX4_takeOut at hF
  refine lv_iload_n hx hb dX4_takeOut_0 rfl (lv_at hl 1 rfl) ?_
  refine lv_iconst (v := 4) hx hb dX4_takeOut_1 (by decide) ?_
  replace hF := bnd_some hF
  obtain ⟨z1, hz_1, hF⟩ := hF
  refine krI (kSN (As := [.int a1, .int 4]) ⟨hx, hb, hml, hown, hts⟩ (kX5_isBelow l D cy sa a1 4 z1 hz_1 _) ⟨va_cnB (host := "RagVats") 2 hts gX4_takeOut_X5_isBelow_n33 rfl rfl rfl hn33 (hts (.initialized RX5) (by decide +kernel)) (by decide +kernel) ⟨Nat.le_of_ble_eq_true rfl, Nat.le_of_ble_eq_true rfl⟩, hts (.static yX5_isBelow) (by decide +kernel), trivial⟩ hK hP hD hS hA hG [] rfl rfl rfl hl.1 [] rfl (Nat.le_of_ble_eq_true rfl) dX4_takeOut_2 ⟨(Nat.le_of_ble_eq_true rfl), (Nat.le_of_ble_eq_true rfl)⟩) hP hD hS hA [] rfl (fun H locs hP hS => ?_)
  refine lv_if_ne (tgt := 9) hx hb dX4_takeOut_5 (by decide) (fun c_2 => ?_) (fun c_2 => ?_)
  · replace hF := if_f hF c_2
    refine lv_aload_n hx hb dX4_takeOut_9 rfl (lv_at hl 0 rfl) ?_
    refine va_get (D := D) (C := RX4) (T := TX4) (N := 3) hx hb hts hiX4 hown hK hP 0 gtX4_0 rfl 0 (by decide) hf9 (fun _ h9 => h9) rfl dX4_takeOut_10 ?_
    refine lv_iload_n hx hb dX4_takeOut_13 rfl (lv_at hl 1 rfl) ?_
    refine lv_dup2_11 hx hb dX4_takeOut_14 rfl rfl ?_
    replace hF := ckI_some hF
    obtain ⟨hi_3, hF⟩ := hF
    refine va_iald hx hb hK hP 1 0 gtX4_1 rfl hi_3 dX4_takeOut_15 ?_
    refine lv_iload_n hx hb dX4_takeOut_16 rfl (lv_at hl 2 rfl) ?_
    refine lv_isub hx hb dX4_takeOut_17 ?_
    replace hF := ckI_some hF
    obtain ⟨hi_4, hF⟩ := hF
    refine va_iast hx hb hK hP hD hS 1 0 gtX4_1 rfl hi_4 dX4_takeOut_18 (fun H locs hP hD hS => ?_)
    rw [stX4_1] at hP hD
    refine lv_aload_n hx hb dX4_takeOut_19 rfl (lv_at hl 0 rfl) ?_
    refine va_get (D := D) (C := RX4) (T := TX4) (N := 3) hx hb hts hiX4 hown hK hP 0 gtX4_0 rfl 0 (by decide) hf9 (fun _ h9 => h9) rfl dX4_takeOut_20 ?_
    refine lv_iload_n hx hb dX4_takeOut_23 rfl (lv_at hl 1 rfl) ?_
    replace hF := ckI_some hF
    obtain ⟨hi_5, hF⟩ := hF
    refine va_iald hx hb hK hP 1 0 gtX4_1 rfl hi_5 dX4_takeOut_24 ?_
    refine lv_if_gt (tgt := 35) hx hb dX4_takeOut_25 (by decide) (fun c_6 => ?_) (fun c_6 => ?_)
    · replace hF := if_t hF c_6
      cases hF
      exact hQ _ _ _ _ _ _ (fun _ => 0) dX4_takeOut_35 hP hD hS (Nat.le_of_ble_eq_true rfl) (Nat.le_of_ble_eq_true rfl)
    · replace hF := if_f hF c_6
      refine lv_aload_n hx hb dX4_takeOut_28 rfl (lv_at hl 0 rfl) ?_
      refine lv_iload_n hx hb dX4_takeOut_29 rfl (lv_at hl 1 rfl) ?_
      refine lv_iconst (v := -1) hx hb dX4_takeOut_30 (by decide) ?_
      refine lv_iconst (v := 0) hx hb dX4_takeOut_31 (by decide) ?_
      replace hF := bnd_some hF
      obtain ⟨z7, hz_7, hF⟩ := hF
      refine kwVE (kV (As := [.int a1, .int (-1), .int 0]) ⟨hx, hb, hml, hown, hts⟩ (kX4_charge l D cy sa h (upd pulp a1.toNatClampNeg ((pulp a1.toNatClampNeg) - a2)) beat sort a1 (-1) 0 z7 hz_7 _) (cwV 3 hts gX4_takeOut_X4_charge rfl rfl rfl (by decide +kernel) ⟨Nat.le_of_ble_eq_true rfl, Nat.le_of_ble_eq_true rfl⟩) hK hP hD hS hA hG [0, 1, 2, 3] hcX4_X4_0 ndX4_0 gtX4_0 rfl rfl rfl hl.1 [] rfl (Nat.le_of_ble_eq_true rfl) dX4_takeOut_32 ⟨(Nat.le_of_ble_eq_true rfl), (Nat.le_of_ble_eq_true rfl)⟩) hP hD hS hA [0, 1, 2, 3] hcX4_X4_0 hmX4 kpX4_X4_0 (fun H locs hP hD hS => ?_)
      cases hF
      exact hQ _ _ _ _ _ _ (fun _ => 0) dX4_takeOut_35 hP hD hS (Nat.le_of_ble_eq_true rfl) (Nat.le_of_ble_eq_true rfl)
  · replace hF := if_t hF c_2
    cases hF
    exact hQ _ _ _ _ _ _ (fun _ => 0) dX4_takeOut_8 hP hD hS (Nat.le_of_ble_eq_true rfl) (Nat.le_of_ble_eq_true rfl)

def fX4_tell (pulp : FN) (beat : FN) (sort : FN) (a1 : Int32) (a2 : Int32) : Option (Int32) := if a2 = 0 then (fX4_pulpOf pulp a1).bind fun z2 => some z2 else if a2 = 1 then (fX4_beatOf beat a1).bind fun z4 => some z4 else (fX4_sortOf sort a1).bind fun z5 => some z5
abbrev rX4_tell : Room := { frames := 2, cells := 0, slots := 0, locals := 42 }
set_option maxHeartbeats 4000000 in
set_option maxRecDepth 100000 in
theorem kX4_tell (l : Launch) (D : va_G) (cy : Nat → ClassId) (sa : SAT) (h : Nat → Nat) (pulp : FN) (beat : FN) (sort : FN) (a1 : Int32) (a2 : Int32) (z : Int32) (hF : fX4_tell pulp beat sort a1 a2 = some z) : KI l D (tyW cy) sa yX4_tell wsX4_tell rX4_tell [.ref (h 0), .int a1, .int a2] (wX4 cy h pulp beat sort) z (fun _ => wX4 cy h pulp beat sort) 0 0 := by
  refine KI.of (cc := cX4_tell) (maxL := 3) (by decide +kernel) rfl (Nat.le_of_ble_eq_true rfl) ?_
  intro p e s m args below meth c A ls Q hE hQ
  obtain ⟨hx, hb, hml, hown, hts, hA, hP, hK, hD, hG, hl, hnm⟩ := hE
  replace hown : s.vm.findClass RX4 = some m.cls := hown
  replace hl : lv_has ls 3 [(0, .ref (h 0)), (1, .int a1), (2, .int a2)] := hl
  have hS : va_S A s.heap s.heap [] := va_S.rf
  unfold fX4_tell at hF
  refine lv_iload_n hx hb dX4_tell_0 rfl (lv_at hl 2 rfl) ?_
  by_cases c_1 : a2 = 0
  · replace hF := if_t hF c_1
    refine lv_lookup (off := 27) (tgt := 28) hx hb dX4_tell_1 (by decide) (by rw [c_1] <;> rfl) (by decide) ?_
    refine lv_aload_n hx hb dX4_tell_28 rfl (lv_at hl 0 rfl) ?_
    refine lv_iload_n hx hb dX4_tell_29 rfl (lv_at hl 1 rfl) ?_
    replace hF := bnd_some hF
    obtain ⟨z2, hz_2, hF⟩ := hF
    refine krI (kV (As := [.int a1]) ⟨hx, hb, hml, hown, hts⟩ (kX4_pulpOf l D cy sa h pulp beat sort a1 z2 hz_2 _) (cwV 1 hts gX4_tell_X4_pulpOf rfl rfl rfl (by decide +kernel) ⟨Nat.le_of_ble_eq_true rfl, Nat.le_of_ble_eq_true rfl⟩) hK hP hD hS hA hG [0, 1, 2, 3] hcX4_X4_0 ndX4_0 gtX4_0 rfl rfl rfl hl.1 [] rfl (Nat.le_of_ble_eq_true rfl) dX4_tell_30 ⟨(Nat.le_of_ble_eq_true rfl), (Nat.le_of_ble_eq_true rfl)⟩) hP hD hS hA [0, 1, 2, 3] hcX4_X4_0 (fun H locs hP hS => ?_)
    cases hF
    exact hQ _ _ _ _ _ _ (fun _ => 0) dX4_tell_33 hP hD hS (Nat.le_of_ble_eq_true rfl) (Nat.le_of_ble_eq_true rfl)
  · replace hF := if_f hF c_1
    by_cases c_3 : a2 = 1
    · replace hF := if_t hF c_3
      refine lv_lookup (off := 33) (tgt := 34) hx hb dX4_tell_1 (by decide) (by rw [c_3] <;> rfl) (by decide) ?_
      refine lv_aload_n hx hb dX4_tell_34 rfl (lv_at hl 0 rfl) ?_
      refine lv_iload_n hx hb dX4_tell_35 rfl (lv_at hl 1 rfl) ?_
      replace hF := bnd_some hF
      obtain ⟨z4, hz_4, hF⟩ := hF
      refine krI (kV (As := [.int a1]) ⟨hx, hb, hml, hown, hts⟩ (kX4_beatOf l D cy sa h pulp beat sort a1 z4 hz_4 _) (cwV 1 hts gX4_tell_X4_beatOf rfl rfl rfl (by decide +kernel) ⟨Nat.le_of_ble_eq_true rfl, Nat.le_of_ble_eq_true rfl⟩) hK hP hD hS hA hG [0, 1, 2, 3] hcX4_X4_0 ndX4_0 gtX4_0 rfl rfl rfl hl.1 [] rfl (Nat.le_of_ble_eq_true rfl) dX4_tell_36 ⟨(Nat.le_of_ble_eq_true rfl), (Nat.le_of_ble_eq_true rfl)⟩) hP hD hS hA [0, 1, 2, 3] hcX4_X4_0 (fun H locs hP hS => ?_)
      cases hF
      exact hQ _ _ _ _ _ _ (fun _ => 0) dX4_tell_39 hP hD hS (Nat.le_of_ble_eq_true rfl) (Nat.le_of_ble_eq_true rfl)
    · replace hF := if_f hF c_3
      refine lv_lookup (off := 39) (tgt := 40) hx hb dX4_tell_1 (by decide) (by show Op.lookupswitch.offset [(0, 27), (1, 33)] 39 _ = 39; rw [lv_osw (a := 0) c_1 rfl, lv_osw (a := 1) c_3 rfl] <;> rfl) (by decide) ?_
      refine lv_aload_n hx hb dX4_tell_40 rfl (lv_at hl 0 rfl) ?_
      refine lv_iload_n hx hb dX4_tell_41 rfl (lv_at hl 1 rfl) ?_
      replace hF := bnd_some hF
      obtain ⟨z5, hz_5, hF⟩ := hF
      refine krI (kV (As := [.int a1]) ⟨hx, hb, hml, hown, hts⟩ (kX4_sortOf l D cy sa h pulp beat sort a1 z5 hz_5 _) (cwV 1 hts gX4_tell_X4_sortOf rfl rfl rfl (by decide +kernel) ⟨Nat.le_of_ble_eq_true rfl, Nat.le_of_ble_eq_true rfl⟩) hK hP hD hS hA hG [0, 1, 2, 3] hcX4_X4_0 ndX4_0 gtX4_0 rfl rfl rfl hl.1 [] rfl (Nat.le_of_ble_eq_true rfl) dX4_tell_42 ⟨(Nat.le_of_ble_eq_true rfl), (Nat.le_of_ble_eq_true rfl)⟩) hP hD hS hA [0, 1, 2, 3] hcX4_X4_0 (fun H locs hP hS => ?_)
      cases hF
      exact hQ _ _ _ _ _ _ (fun _ => 0) dX4_tell_45 hP hD hS (Nat.le_of_ble_eq_true rfl) (Nat.le_of_ble_eq_true rfl)

def fX5_isFrom1To (a1 : Int32) (a2 : Int32) : Option (Int32) := if a1 < 1 then some 0 else if a2 < a1 then some 0 else some 1
abbrev rX5_isFrom1To : Room := { frames := 0, cells := 0, slots := 0, locals := 0 }
set_option maxHeartbeats 4000000 in
set_option maxRecDepth 100000 in
theorem kX5_isFrom1To (l : Launch) (D : va_G) (cy : Nat → ClassId) (sa : SAT) (a1 : Int32) (a2 : Int32) (z : Int32) (hF : fX5_isFrom1To a1 a2 = some z) : KI l D (tyW cy) sa yX5_isFrom1To wsX5_isFrom1To rX5_isFrom1To [.int a1, .int a2] (([] : va_W)) z (fun _ => ([] : va_W)) 0 0 := by
  refine KI.ofZ (cc := cX5_isFrom1To) (maxL := 2) (by decide +kernel) rfl (Nat.le_of_ble_eq_true rfl) ?_
  intro p e s m args below meth c A ls Q hE hQ
  obtain ⟨hx, hb, hml, hown, hts, hA, hP, hK, hD, hG, hl, hnm⟩ := hE
  replace hown : s.vm.findClass RX5 = some m.cls := hown
  replace hl : lv_has ls 2 [(0, .int a1), (1, .int a2)] := hl
  have hS : va_S A s.heap s.heap [] := va_S.rf
  unfold fX5_isFrom1To at hF
  refine lv_iload_n hx hb dX5_isFrom1To_0 rfl (lv_at hl 0 rfl) ?_
  refine lv_iconst (v := 1) hx hb dX5_isFrom1To_1 (by decide) ?_
  refine lv_icmp_lt (tgt := 14) hx hb dX5_isFrom1To_2 (by decide) (fun c_1 => ?_) (fun c_1 => ?_)
  · replace hF := if_t hF c_1
    refine lv_iconst (v := 0) hx hb dX5_isFrom1To_14 (by decide) ?_
    cases hF
    exact hQ _ _ _ _ _ _ (fun _ => 0) rfl dX5_isFrom1To_15 hP hD hS (Nat.le_of_ble_eq_true rfl) (Nat.le_of_ble_eq_true rfl)
  · replace hF := if_f hF c_1
    refine lv_iload_n hx hb dX5_isFrom1To_5 rfl (lv_at hl 0 rfl) ?_
    refine lv_iload_n hx hb dX5_isFrom1To_6 rfl (lv_at hl 1 rfl) ?_
    refine lv_icmp_gt (tgt := 14) hx hb dX5_isFrom1To_7 (by decide) (fun c_2 => ?_) (fun c_2 => ?_)
    · replace hF := if_t hF c_2
      refine lv_iconst (v := 0) hx hb dX5_isFrom1To_14 (by decide) ?_
      cases hF
      exact hQ _ _ _ _ _ _ (fun _ => 0) rfl dX5_isFrom1To_15 hP hD hS (Nat.le_of_ble_eq_true rfl) (Nat.le_of_ble_eq_true rfl)
    · replace hF := if_f hF c_2
      refine lv_iconst (v := 1) hx hb dX5_isFrom1To_10 (by decide) ?_
      refine lv_goto (tgt := 15) hx hb dX5_isFrom1To_11 (by decide) ?_
      cases hF
      exact hQ _ _ _ _ _ _ (fun _ => 0) rfl dX5_isFrom1To_15 hP hD hS (Nat.le_of_ble_eq_true rfl) (Nat.le_of_ble_eq_true rfl)
