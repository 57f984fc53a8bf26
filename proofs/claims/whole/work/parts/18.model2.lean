def fX6_makes (vats : FN) (moulds : FN) (crews : FN) (posts : FN) (nums : FN) (a1 : Int32) : Option (Int32) := (fX6_cr crews a1 1).bind fun z1 => (fX6_cr crews a1 2).bind fun z2 => if z1 = (-1) then some 0 else if z2 = (-1) then some 0 else (fX6_va vats z1 1).bind fun z5 => if 30 ≤ z5 then (fX6_cr crews a1 0).bind fun z7 => (fX6_free posts nums).bind fun z8 => (fX6_va vats z1 0).bind fun z9 => (fX6_mo moulds z2 1).bind fun z10 => ckZ z10 (some (if (if (z9 / z10) < z8 then (z9 / z10) else z8) < z7 then (if (z9 / z10) < z8 then (z9 / z10) else z8) else z7)) else some 0
abbrev rX6_makes : Room := { frames := 3, cells := 0, slots := 0, locals := 64 }
set_option maxHeartbeats 4000000 in
set_option maxRecDepth 100000 in
theorem kX6_makes (l : Launch) (D : va_G) (cy : Nat → ClassId) (sa : Nat → Nat) (h : Nat → Nat) (thrown : Int32) (pairs : Int32) (teams : Int32) (water : FN) (vats : FN) (moulds : FN) (crews : FN) (posts : FN) (loft : FN) (nums : FN) (a1 : Int32) (z : Int32) (hF : fX6_makes vats moulds crews posts nums a1 = some z) : KI l D (tyW cy) sa yX6_makes wsX6_makes rX6_makes [.ref (h 0), .int a1] (wX6 cy h thrown pairs teams water vats moulds crews posts loft nums) z (fun _ => wX6 cy h thrown pairs teams water vats moulds crews posts loft nums) 0 0 := by
  refine KI.of (cc := cX6_makes) (maxL := 4) (by decide +kernel) rfl (Nat.le_of_ble_eq_true rfl) ?_
  intro p e s m args below meth c A ls Q hE hQ
  obtain ⟨hx, hb, hml, hown, hts, hA, hP, hK, hD, hG, hl, hnm⟩ := hE
  replace hown : s.vm.findClass RX6 = some m.cls := hown
  replace hl : lv_has ls 4 [(0, .ref (h 0)), (1, .int a1)] := hl
  have hS : va_S A s.heap s.heap [] := va_S.rf
  unfold fX6_makes at hF
  refine lv_aload_n hx hb dX6_makes_0 rfl (lv_at hl 0 rfl) ?_
  refine lv_iload_n hx hb dX6_makes_1 rfl (lv_at hl 1 rfl) ?_
  refine lv_iconst (v := 1) hx hb dX6_makes_2 (by decide) ?_
  replace hF := bnd_some hF
  obtain ⟨z1, hz_1, hF⟩ := hF
  refine krI (kV (As := [.int a1, .int 1]) ⟨hx, hb, hml, hown, hts⟩ (kX6_cr l D cy sa h thrown pairs teams water vats moulds crews posts loft nums a1 1 z1 hz_1 _) (cwV 2 hts gX6_makes_X6_cr rfl rfl rfl (by decide +kernel) ⟨Nat.le_of_ble_eq_true rfl, Nat.le_of_ble_eq_true rfl⟩) hK hP hD hS hA hG [0, 1, 2, 3, 4, 5, 6, 7] hcX6_X6_0 ndX6_0 gtX6_0 rfl rfl rfl hl.1 [] rfl (Nat.le_of_ble_eq_true rfl) dX6_makes_3 ⟨(Nat.le_of_ble_eq_true rfl), (Nat.le_of_ble_eq_true rfl)⟩) hP hD hS hA [0, 1, 2, 3, 4, 5, 6, 7] hcX6_X6_0 (fun H locs hP hS => ?_)
  refine lv_istore_n (lv' := [(2, .int z1), (0, .ref (h 0)), (1, .int a1)]) hx hb dX6_makes_6 rfl hl (by decide) rfl (fun ls hl => ?_)
  refine lv_aload_n hx hb dX6_makes_7 rfl (lv_at hl 1 rfl) ?_
  refine lv_iload_n hx hb dX6_makes_8 rfl (lv_at hl 2 rfl) ?_
  refine lv_iconst (v := 2) hx hb dX6_makes_9 (by decide) ?_
  replace hF := bnd_some hF
  obtain ⟨z2, hz_2, hF⟩ := hF
  refine krI (kV (As := [.int a1, .int 2]) ⟨hx, hb, hml, hown, hts⟩ (kX6_cr l D cy sa h thrown pairs teams water vats moulds crews posts loft nums a1 2 z2 hz_2 _) (cwV 2 hts gX6_makes_X6_cr rfl rfl rfl (by decide +kernel) ⟨Nat.le_of_ble_eq_true rfl, Nat.le_of_ble_eq_true rfl⟩) hK hP hD hS hA hG [0, 1, 2, 3, 4, 5, 6, 7] hcX6_X6_0 ndX6_0 gtX6_0 rfl rfl rfl hl.1 [] rfl (Nat.le_of_ble_eq_true rfl) dX6_makes_10 ⟨(Nat.le_of_ble_eq_true rfl), (Nat.le_of_ble_eq_true rfl)⟩) hP hD hS hA [0, 1, 2, 3, 4, 5, 6, 7] hcX6_X6_0 (fun H locs hP hS => ?_)
  refine lv_istore_n (lv' := [(3, .int z2), (2, .int z1), (0, .ref (h 0)), (1, .int a1)]) hx hb dX6_makes_13 rfl hl (by decide) rfl (fun ls hl => ?_)
  refine lv_iload_n hx hb dX6_makes_14 rfl (lv_at hl 1 rfl) ?_
  refine lv_iconst (v := -1) hx hb dX6_makes_15 (by decide) ?_
  refine lv_icmp_eq (tgt := 35) hx hb dX6_makes_16 (by decide) (fun c_3 => ?_) (fun c_3 => ?_)
  · replace hF := if_t hF c_3
    refine lv_iconst (v := 0) hx hb dX6_makes_35 (by decide) ?_
    cases hF
    exact hQ _ _ _ _ _ _ (fun _ => 0) dX6_makes_36 hP hD hS (Nat.le_of_ble_eq_true rfl) (Nat.le_of_ble_eq_true rfl)
  · replace hF := if_f hF c_3
    refine lv_iload_n hx hb dX6_makes_19 rfl (lv_at hl 0 rfl) ?_
    refine lv_iconst (v := -1) hx hb dX6_makes_20 (by decide) ?_
    refine lv_icmp_eq (tgt := 35) hx hb dX6_makes_21 (by decide) (fun c_4 => ?_) (fun c_4 => ?_)
    · replace hF := if_t hF c_4
      refine lv_iconst (v := 0) hx hb dX6_makes_35 (by decide) ?_
      cases hF
      exact hQ _ _ _ _ _ _ (fun _ => 0) dX6_makes_36 hP hD hS (Nat.le_of_ble_eq_true rfl) (Nat.le_of_ble_eq_true rfl)
    · replace hF := if_f hF c_4
      refine lv_aload_n hx hb dX6_makes_24 rfl (lv_at hl 2 rfl) ?_
      refine lv_iload_n hx hb dX6_makes_25 rfl (lv_at hl 1 rfl) ?_
      refine lv_iconst (v := 1) hx hb dX6_makes_26 (by decide) ?_
      replace hF := bnd_some hF
      obtain ⟨z5, hz_5, hF⟩ := hF
      refine krI (kV (As := [.int z1, .int 1]) ⟨hx, hb, hml, hown, hts⟩ (kX6_va l D cy sa h thrown pairs teams water vats moulds crews posts loft nums z1 1 z5 hz_5 _) (cwV 2 hts gX6_makes_X6_va rfl rfl rfl (by decide +kernel) ⟨Nat.le_of_ble_eq_true rfl, Nat.le_of_ble_eq_true rfl⟩) hK hP hD hS hA hG [0, 1, 2, 3, 4, 5, 6, 7] hcX6_X6_0 ndX6_0 gtX6_0 rfl rfl rfl hl.1 [] rfl (Nat.le_of_ble_eq_true rfl) dX6_makes_27 ⟨(Nat.le_of_ble_eq_true rfl), (Nat.le_of_ble_eq_true rfl)⟩) hP hD hS hA [0, 1, 2, 3, 4, 5, 6, 7] hcX6_X6_0 (fun H locs hP hS => ?_)
      refine lv_bipush (v := 30) hx hb dX6_makes_30 (by decide) ?_
      refine lv_icmp_ge (tgt := 37) hx hb dX6_makes_32 (by decide) (fun c_6 => ?_) (fun c_6 => ?_)
      · replace hF := if_t hF c_6
        refine lv_aload_n hx hb dX6_makes_37 rfl (lv_at hl 2 rfl) ?_
        refine lv_iload_n hx hb dX6_makes_38 rfl (lv_at hl 3 rfl) ?_
        refine lv_iconst (v := 0) hx hb dX6_makes_39 (by decide) ?_
        replace hF := bnd_some hF
        obtain ⟨z7, hz_7, hF⟩ := hF
        refine krI (kV (As := [.int a1, .int 0]) ⟨hx, hb, hml, hown, hts⟩ (kX6_cr l D cy sa h thrown pairs teams water vats moulds crews posts loft nums a1 0 z7 hz_7 _) (cwV 2 hts gX6_makes_X6_cr rfl rfl rfl (by decide +kernel) ⟨Nat.le_of_ble_eq_true rfl, Nat.le_of_ble_eq_true rfl⟩) hK hP hD hS hA hG [0, 1, 2, 3, 4, 5, 6, 7] hcX6_X6_0 ndX6_0 gtX6_0 rfl rfl rfl hl.1 [] rfl (Nat.le_of_ble_eq_true rfl) dX6_makes_40 ⟨(Nat.le_of_ble_eq_true rfl), (Nat.le_of_ble_eq_true rfl)⟩) hP hD hS hA [0, 1, 2, 3, 4, 5, 6, 7] hcX6_X6_0 (fun H locs hP hS => ?_)
        refine lv_aload_n hx hb dX6_makes_43 rfl (lv_at hl 2 rfl) ?_
        replace hF := bnd_some hF
        obtain ⟨z8, hz_8, hF⟩ := hF
        refine krI (kV (As := []) ⟨hx, hb, hml, hown, hts⟩ (kX6_free l D cy sa h thrown pairs teams water vats moulds crews posts loft nums z8 hz_8 _) (cwV 0 hts gX6_makes_X6_free rfl rfl rfl (by decide +kernel) ⟨Nat.le_of_ble_eq_true rfl, Nat.le_of_ble_eq_true rfl⟩) hK hP hD hS hA hG [0, 1, 2, 3, 4, 5, 6, 7] hcX6_X6_0 ndX6_0 gtX6_0 rfl rfl rfl hl.1 [.int z7] rfl (Nat.le_of_ble_eq_true rfl) dX6_makes_44 ⟨(Nat.le_of_ble_eq_true rfl), (Nat.le_of_ble_eq_true rfl)⟩) hP hD hS hA [0, 1, 2, 3, 4, 5, 6, 7] hcX6_X6_0 (fun H locs hP hS => ?_)
        refine lv_aload_n hx hb dX6_makes_47 rfl (lv_at hl 2 rfl) ?_
        refine lv_iload_n hx hb dX6_makes_48 rfl (lv_at hl 1 rfl) ?_
        refine lv_iconst (v := 0) hx hb dX6_makes_49 (by decide) ?_
        replace hF := bnd_some hF
        obtain ⟨z9, hz_9, hF⟩ := hF
        refine krI (kV (As := [.int z1, .int 0]) ⟨hx, hb, hml, hown, hts⟩ (kX6_va l D cy sa h thrown pairs teams water vats moulds crews posts loft nums z1 0 z9 hz_9 _) (cwV 2 hts gX6_makes_X6_va rfl rfl rfl (by decide +kernel) ⟨Nat.le_of_ble_eq_true rfl, Nat.le_of_ble_eq_true rfl⟩) hK hP hD hS hA hG [0, 1, 2, 3, 4, 5, 6, 7] hcX6_X6_0 ndX6_0 gtX6_0 rfl rfl rfl hl.1 [.int z8, .int z7] rfl (Nat.le_of_ble_eq_true rfl) dX6_makes_50 ⟨(Nat.le_of_ble_eq_true rfl), (Nat.le_of_ble_eq_true rfl)⟩) hP hD hS hA [0, 1, 2, 3, 4, 5, 6, 7] hcX6_X6_0 (fun H locs hP hS => ?_)
        refine lv_aload_n hx hb dX6_makes_53 rfl (lv_at hl 2 rfl) ?_
        refine lv_iload_n hx hb dX6_makes_54 rfl (lv_at hl 0 rfl) ?_
        refine lv_iconst (v := 1) hx hb dX6_makes_55 (by decide) ?_
        replace hF := bnd_some hF
        obtain ⟨z10, hz_10, hF⟩ := hF
        refine krI (kV (As := [.int z2, .int 1]) ⟨hx, hb, hml, hown, hts⟩ (kX6_mo l D cy sa h thrown pairs teams water vats moulds crews posts loft nums z2 1 z10 hz_10 _) (cwV 2 hts gX6_makes_X6_mo rfl rfl rfl (by decide +kernel) ⟨Nat.le_of_ble_eq_true rfl, Nat.le_of_ble_eq_true rfl⟩) hK hP hD hS hA hG [0, 1, 2, 3, 4, 5, 6, 7] hcX6_X6_0 ndX6_0 gtX6_0 rfl rfl rfl hl.1 [.int z9, .int z8, .int z7] rfl (Nat.le_of_ble_eq_true rfl) dX6_makes_56 ⟨(Nat.le_of_ble_eq_true rfl), (Nat.le_of_ble_eq_true rfl)⟩) hP hD hS hA [0, 1, 2, 3, 4, 5, 6, 7] hcX6_X6_0 (fun H locs hP hS => ?_)
        replace hF := ckZ_some hF
        obtain ⟨hz_11, hF⟩ := hF
        refine lv_idiv hx hb dX6_makes_59 hz_11 ?_
        refine va_mmin hx hb (hml.trans hl.1.symm) hown (hts (.methodLink RX6 83 Lib.Math.min.name) (by decide +kernel)) (hts (.static Lib.Math.min.name) (by decide +kernel)) (hts (.initialized "java/lang/Math") (by decide +kernel)) (hts (.code Lib.Math.min.name Lib.Math.min.code 2 (some .int)) (by decide +kernel)) (Nat.le_of_ble_eq_true rfl) (Nat.le_of_ble_eq_true rfl) (Nat.le_of_ble_eq_true rfl) (Nat.le_of_ble_eq_true rfl) dX6_makes_60 ?_
        refine va_mmin hx hb (hml.trans hl.1.symm) hown (hts (.methodLink RX6 83 Lib.Math.min.name) (by decide +kernel)) (hts (.static Lib.Math.min.name) (by decide +kernel)) (hts (.initialized "java/lang/Math") (by decide +kernel)) (hts (.code Lib.Math.min.name Lib.Math.min.code 2 (some .int)) (by decide +kernel)) (Nat.le_of_ble_eq_true rfl) (Nat.le_of_ble_eq_true rfl) (Nat.le_of_ble_eq_true rfl) (Nat.le_of_ble_eq_true rfl) dX6_makes_63 ?_
        cases hF
        exact hQ _ _ _ _ _ _ (fun _ => 0) dX6_makes_66 hP hD hS (Nat.le_of_ble_eq_true rfl) (Nat.le_of_ble_eq_true rfl)
      · replace hF := if_f hF c_6
        refine lv_iconst (v := 0) hx hb dX6_makes_35 (by decide) ?_
        cases hF
        exact hQ _ _ _ _ _ _ (fun _ => 0) dX6_makes_36 hP hD hS (Nat.le_of_ble_eq_true rfl) (Nat.le_of_ble_eq_true rfl)

def fX6_holder_L2 (teams : Int32) (crews : FN) (a1 : Int32) : Nat → Int32 → Option (Int32)
  | 0, _ => none
  | k + 1, x2_2 => if teams ≤ x2_2 then some (-1) else (fX6_cr crews x2_2 2).bind fun z2 => if z2 = a1 then some x2_2 else fX6_holder_L2 teams crews a1 k (x2_2 + 1)
def fX6_holder (teams : Int32) (crews : FN) (a1 : Int32) : Option (Int32) := fX6_holder_L2 teams crews a1 300 0
abbrev rX6_holder : Room := { frames := 1, cells := 0, slots := 0, locals := 22 }
set_option maxHeartbeats 4000000 in
set_option maxRecDepth 100000 in
theorem kX6_holder (l : Launch) (D : va_G) (cy : Nat → ClassId) (sa : Nat → Nat) (h : Nat → Nat) (thrown : Int32) (pairs : Int32) (teams : Int32) (water : FN) (vats : FN) (moulds : FN) (crews : FN) (posts : FN) (loft : FN) (nums : FN) (a1 : Int32) (z : Int32) (hF : fX6_holder teams crews a1 = some z) : KI l D (tyW cy) sa yX6_holder wsX6_holder rX6_holder [.ref (h 0), .int a1] (wX6 cy h thrown pairs teams water vats moulds crews posts loft nums) z (fun _ => wX6 cy h thrown pairs teams water vats moulds crews posts loft nums) 0 0 := by
  refine KI.of (cc := cX6_holder) (maxL := 3) (by decide +kernel) rfl (Nat.le_of_ble_eq_true rfl) ?_
  intro p e s m args below meth c A ls Q hE hQ
  obtain ⟨hx, hb, hml, hown, hts, hA, hP, hK, hD, hG, hl, hnm⟩ := hE
  replace hown : s.vm.findClass RX6 = some m.cls := hown
  have hiX6 : ∀ w ∈ u_ws RX6 TX6 10, w ∈ wsX6_holder := by decide +kernel
  have hf42 : (Cond.fieldLink RX6 42 "RagVatsModel" "teams" "I").before args s = true := hts _ (by decide +kernel)
  replace hl : lv_has ls 3 [(0, .ref (h 0)), (1, .int a1)] := hl
  have hS : va_S A s.heap s.heap [] := va_S.rf
  have L2 : ∀ (k : Nat) (x2_2 : Int32), fX6_holder_L2 teams crews a1 k x2_2 = some z → ∀ (H : Heap) (locs : List Loc) (ls : Array Slot), va_P D vwCl (wX6 cy h thrown pairs teams water vats moulds crews posts loft nums) H → va_D A (wX6 cy h thrown pairs teams water vats moulds crews posts loft nums) → va_S A s.heap H locs → lv_has ls 3 [(0, .ref (h 0)), (1, .int a1), (2, .int x2_2)] → W p l e rX6_holder s m args below meth c H locs 0 0 Q (F0 m 2 ls []) := by
    intro k
    induction k with
    | zero =>
      intro x2_2 hF
      rw [fX6_holder_L2] at hF
      cases hF
    | succ k ih =>
      intro x2_2 hF H locs ls hP hD hS hl
      rw [fX6_holder_L2] at hF
      refine lv_iload_n hx hb dX6_holder_2 rfl (lv_at hl 2 rfl) ?_
      refine lv_aload_n hx hb dX6_holder_3 rfl (lv_at hl 0 rfl) ?_
      refine va_get (D := D) (C := RX6) (T := TX6) (N := 10) hx hb hts hiX6 hown hK hP 0 gtX6_0 rfl 2 (by decide) hf42 (fun _ h9 => h9) rfl dX6_holder_4 ?_
      refine lv_icmp_ge (tgt := 28) hx hb dX6_holder_7 (by decide) (fun c_1 => ?_) (fun c_1 => ?_)
      · replace hF := if_t hF c_1
        refine lv_iconst (v := -1) hx hb dX6_holder_28 (by decide) ?_
        cases hF
        exact hQ _ _ _ _ _ _ (fun _ => 0) dX6_holder_29 hP hD hS (Nat.le_of_ble_eq_true rfl) (Nat.le_of_ble_eq_true rfl)
      · replace hF := if_f hF c_1
        refine lv_aload_n hx hb dX6_holder_10 rfl (lv_at hl 0 rfl) ?_
        refine lv_iload_n hx hb dX6_holder_11 rfl (lv_at hl 2 rfl) ?_
        refine lv_iconst (v := 2) hx hb dX6_holder_12 (by decide) ?_
        replace hF := bnd_some hF
        obtain ⟨z2, hz_2, hF⟩ := hF
        refine krI (kV (As := [.int x2_2, .int 2]) ⟨hx, hb, hml, hown, hts⟩ (kX6_cr l D cy sa h thrown pairs teams water vats moulds crews posts loft nums x2_2 2 z2 hz_2 _) (cwV 2 hts gX6_holder_X6_cr rfl rfl rfl (by decide +kernel) ⟨Nat.le_of_ble_eq_true rfl, Nat.le_of_ble_eq_true rfl⟩) hK hP hD hS hA hG [0, 1, 2, 3, 4, 5, 6, 7] hcX6_X6_0 ndX6_0 gtX6_0 rfl rfl rfl hl.1 [] rfl (Nat.le_of_ble_eq_true rfl) dX6_holder_13 ⟨(Nat.le_of_ble_eq_true rfl), (Nat.le_of_ble_eq_true rfl)⟩) hP hD hS hA [0, 1, 2, 3, 4, 5, 6, 7] hcX6_X6_0 (fun H locs hP hS => ?_)
        refine lv_iload_n hx hb dX6_holder_16 rfl (lv_at hl 1 rfl) ?_
        refine lv_icmp_ne (tgt := 22) hx hb dX6_holder_17 (by decide) (fun c_3 => ?_) (fun c_3 => ?_)
        · replace hF := if_f hF c_3
          refine lv_iinc (v := x2_2 + 1) (lv' := [(2, .int (x2_2 + 1)), (0, .ref (h 0)), (1, .int a1)]) hx hb dX6_holder_22 hl (k := 2) rfl rfl (by decide) rfl (fun ls hl => ?_)
          refine lv_goto (tgt := 2) hx hb dX6_holder_25 (by decide) ?_
          exact ih  (x2_2 + 1)  hF _ _ _ hP hD hS (lv_sub hl [1, 2, 0] rfl)
        · replace hF := if_t hF c_3
          refine lv_iload_n hx hb dX6_holder_20 rfl (lv_at hl 2 rfl) ?_
          cases hF
          exact hQ _ _ _ _ _ _ (fun _ => 0) dX6_holder_21 hP hD hS (Nat.le_of_ble_eq_true rfl) (Nat.le_of_ble_eq_true rfl)
  unfold fX6_holder at hF
  refine lv_iconst (v := 0) hx hb dX6_holder_0 (by decide) ?_
  refine lv_istore_n (lv' := [(2, .int 0), (0, .ref (h 0)), (1, .int a1)]) hx hb dX6_holder_1 rfl hl (by decide) rfl (fun ls hl => ?_)
  exact L2 300 0  hF _ _ _ hP hD hS (lv_sub hl [1, 2, 0] rfl)

def fX6_place_L73 (vats : FN) (moulds : FN) (crews : FN) (posts : FN) (nums : FN) (a1 : Int32) (a2 : Int32) (a3 : Int32) (thrown_73 : Int32) : Option (Int32 × Int32 × FN) := ckI ((3 * a1) + 1) 9 (ckI ((3 * a1) + 2) 9 ((fX6_makes vats moulds (upd (upd crews ((3 * a1) + 1).toNatClampNeg a2) ((3 * a1) + 2).toNatClampNeg a3) posts nums a1).bind fun z9 => some (z9, thrown_73, upd (upd crews ((3 * a1) + 1).toNatClampNeg a2) ((3 * a1) + 2).toNatClampNeg a3)))
def fX6_place_L44 (teams : Int32) (vats : FN) (moulds : FN) (crews : FN) (posts : FN) (nums : FN) (a1 : Int32) (a2 : Int32) (a3 : Int32) (thrown_44 : Int32) : Option (Int32 × Int32 × FN) := if a3 = (-1) then fX6_place_L73 vats moulds crews posts nums a1 a2 a3 thrown_44 else (fX6_holder teams crews a3).bind fun z10 => if z10 = (-1) then fX6_place_L73 vats moulds crews posts nums a1 a2 a3 thrown_44 else (fX6_holder teams crews a3).bind fun z12 => if z12 = a1 then fX6_place_L73 vats moulds crews posts nums a1 a2 a3 thrown_44 else (fX6_fail 2).bind fun z14 => some (z14.1, z14.2, crews)
def fX6_place_L25 (pairs : Int32) (teams : Int32) (vats : FN) (moulds : FN) (crews : FN) (posts : FN) (nums : FN) (a1 : Int32) (a2 : Int32) (a3 : Int32) (thrown_25 : Int32) : Option (Int32 × Int32 × FN) := if a3 = (-1) then fX6_place_L44 teams vats moulds crews posts nums a1 a2 a3 thrown_25 else (fX6_isPair pairs a3).bind fun z15 => if z15 = 0 then (fX6_fail 1).bind fun z17 => some (z17.1, z17.2, crews) else fX6_place_L44 teams vats moulds crews posts nums a1 a2 a3 thrown_25
def fX6_place (pairs : Int32) (teams : Int32) (vats : FN) (moulds : FN) (crews : FN) (posts : FN) (nums : FN) (a1 : Int32) (a2 : Int32) (a3 : Int32) : Option (Int32 × Int32 × FN) := (fX6_isTeam teams a1).bind fun z1 => if z1 = 0 then (fX6_fail 1).bind fun z3 => some (z3.1, z3.2, crews) else if a2 = (-1) then fX6_place_L25 pairs teams vats moulds crews posts nums a1 a2 a3 0 else (fX6_isVat a2).bind fun z18 => if z18 = 0 then (fX6_fail 1).bind fun z20 => some (z20.1, z20.2, crews) else fX6_place_L25 pairs teams vats moulds crews posts nums a1 a2 a3 0
abbrev rX6_place : Room := { frames := 4, cells := 0, slots := 0, locals := 87 }
set_option maxHeartbeats 4000000 in
set_option maxRecDepth 100000 in
theorem kX6_place (l : Launch) (D : va_G) (cy : Nat → ClassId) (sa : Nat → Nat) (h : Nat → Nat) (thrown : Int32) (pairs : Int32) (teams : Int32) (water : FN) (vats : FN) (moulds : FN) (crews : FN) (posts : FN) (loft : FN) (nums : FN) (a1 : Int32) (a2 : Int32) (a3 : Int32) (z : Int32 × Int32 × FN) (hF : fX6_place pairs teams vats moulds crews posts nums a1 a2 a3 = some z) : KI l D (tyW cy) sa yX6_place wsX6_place rX6_place [.ref (h 0), .int a1, .int a2, .int a3] (wX6 cy h thrown pairs teams water vats moulds crews posts loft nums) z.1 (fun _ => wX6 cy h z.2.1 pairs teams water vats moulds z.2.2 posts loft nums) 0 0 := by
  refine KI.of (cc := cX6_place) (maxL := 4) (by decide +kernel) rfl (Nat.le_of_ble_eq_true rfl) ?_
  intro p e s m args below meth c A ls Q hE hQ
  obtain ⟨hx, hb, hml, hown, hts, hA, hP, hK, hD, hG, hl, hnm⟩ := hE
  replace hown : s.vm.findClass RX6 = some m.cls := hown
  have hiX6 : ∀ w ∈ u_ws RX6 TX6 10, w ∈ wsX6_place := by decide +kernel
  have hf19 : (Cond.fieldLink RX6 19 "RagVatsModel" "crews" "[I").before args s = true := hts _ (by decide +kernel)
  have hf31 : (Cond.fieldLink RX6 31 "RagVatsModel" "thrown" "I").before args s = true := hts _ (by decide +kernel)
  replace hl : lv_has ls 4 [(0, .ref (h 0)), (1, .int a1), (2, .int a2), (3, .int a3)] := hl
  have hS : va_S A s.heap s.heap [] := va_S.rf
  have L73 : ∀ (thrown_73 : Int32), fX6_place_L73 vats moulds crews posts nums a1 a2 a3 thrown_73 = some z → ∀ (H : Heap) (locs : List Loc) (ls : Array Slot), va_P D vwCl (wX6 cy h thrown_73 pairs teams water vats moulds crews posts loft nums) H → va_D A (wX6 cy h thrown_73 pairs teams water vats moulds crews posts loft nums) → va_S A s.heap H locs → lv_has ls 4 [(0, .ref (h 0)), (1, .int a1), (2, .int a2), (3, .int a3)] → W p l e rX6_place s m args below meth c H locs 0 0 Q (F0 m 73 ls []) := by
    intro thrown_73 hF H locs ls hP hD hS hl
    unfold fX6_place_L73 at hF
    refine lv_aload_n hx hb dX6_place_73 rfl (lv_at hl 0 rfl) ?_
    refine va_get (D := D) (C := RX6) (T := TX6) (N := 10) hx hb hts hiX6 hown hK hP 0 gtX6_0 rfl 6 (by decide) hf19 (fun _ h9 => h9) rfl dX6_place_74 ?_
    refine lv_iconst (v := 3) hx hb dX6_place_77 (by decide) ?_
    refine lv_iload_n hx hb dX6_place_78 rfl (lv_at hl 1 rfl) ?_
    refine lv_imul hx hb dX6_place_79 ?_
    refine lv_iconst (v := 1) hx hb dX6_place_80 (by decide) ?_
    refine lv_iadd hx hb dX6_place_81 ?_
    refine lv_iload_n hx hb dX6_place_82 rfl (lv_at hl 2 rfl) ?_
    replace hF := ckI_some hF
    obtain ⟨hi_7, hF⟩ := hF
    refine va_iast hx hb hK hP hD hS 4 0 gtX6_4 rfl hi_7 dX6_place_83 (fun H locs hP hD hS => ?_)
    rw [stX6_4] at hP hD
    refine lv_aload_n hx hb dX6_place_84 rfl (lv_at hl 0 rfl) ?_
    refine va_get (D := D) (C := RX6) (T := TX6) (N := 10) hx hb hts hiX6 hown hK hP 0 gtX6_0 rfl 6 (by decide) hf19 (fun _ h9 => h9) rfl dX6_place_85 ?_
    refine lv_iconst (v := 3) hx hb dX6_place_88 (by decide) ?_
    refine lv_iload_n hx hb dX6_place_89 rfl (lv_at hl 1 rfl) ?_
    refine lv_imul hx hb dX6_place_90 ?_
    refine lv_iconst (v := 2) hx hb dX6_place_91 (by decide) ?_
    refine lv_iadd hx hb dX6_place_92 ?_
    refine lv_iload_n hx hb dX6_place_93 rfl (lv_at hl 3 rfl) ?_
    replace hF := ckI_some hF
    obtain ⟨hi_8, hF⟩ := hF
    refine va_iast hx hb hK hP hD hS 4 0 gtX6_4 rfl hi_8 dX6_place_94 (fun H locs hP hD hS => ?_)
    rw [stX6_4] at hP hD
    refine lv_aload_n hx hb dX6_place_95 rfl (lv_at hl 0 rfl) ?_
    refine lv_iload_n hx hb dX6_place_96 rfl (lv_at hl 1 rfl) ?_
    replace hF := bnd_some hF
    obtain ⟨z9, hz_9, hF⟩ := hF
    refine krI (kV (As := [.int a1]) ⟨hx, hb, hml, hown, hts⟩ (kX6_makes l D cy sa h thrown_73 pairs teams water vats moulds (upd (upd crews ((3 * a1) + 1).toNatClampNeg a2) ((3 * a1) + 2).toNatClampNeg a3) posts loft nums a1 z9 hz_9 _) (cwV 1 hts gX6_place_X6_makes rfl rfl rfl (by decide +kernel) ⟨Nat.le_of_ble_eq_true rfl, Nat.le_of_ble_eq_true rfl⟩) hK hP hD hS hA hG [0, 1, 2, 3, 4, 5, 6, 7] hcX6_X6_0 ndX6_0 gtX6_0 rfl rfl rfl hl.1 [] rfl (Nat.le_of_ble_eq_true rfl) dX6_place_97 ⟨(Nat.le_of_ble_eq_true rfl), (Nat.le_of_ble_eq_true rfl)⟩) hP hD hS hA [0, 1, 2, 3, 4, 5, 6, 7] hcX6_X6_0 (fun H locs hP hS => ?_)
    cases hF
    exact hQ _ _ _ _ _ _ (fun _ => 0) dX6_place_100 hP hD hS (Nat.le_of_ble_eq_true rfl) (Nat.le_of_ble_eq_true rfl)
  have L44 : ∀ (thrown_44 : Int32), fX6_place_L44 teams vats moulds crews posts nums a1 a2 a3 thrown_44 = some z → ∀ (H : Heap) (locs : List Loc) (ls : Array Slot), va_P D vwCl (wX6 cy h thrown_44 pairs teams water vats moulds crews posts loft nums) H → va_D A (wX6 cy h thrown_44 pairs teams water vats moulds crews posts loft nums) → va_S A s.heap H locs → lv_has ls 4 [(0, .ref (h 0)), (1, .int a1), (2, .int a2), (3, .int a3)] → W p l e rX6_place s m args below meth c H locs 0 0 Q (F0 m 44 ls []) := by
    intro thrown_44 hF H locs ls hP hD hS hl
    unfold fX6_place_L44 at hF
    refine lv_iload_n hx hb dX6_place_44 rfl (lv_at hl 3 rfl) ?_
    refine lv_iconst (v := -1) hx hb dX6_place_45 (by decide) ?_
    refine lv_icmp_eq (tgt := 73) hx hb dX6_place_46 (by decide) (fun c_6 => ?_) (fun c_6 => ?_)
    · replace hF := if_t hF c_6
      exact L73  thrown_44  hF _ _ _ hP hD hS (lv_sub hl [0, 1, 2, 3] rfl)
    · replace hF := if_f hF c_6
      refine lv_aload_n hx hb dX6_place_49 rfl (lv_at hl 0 rfl) ?_
      refine lv_iload_n hx hb dX6_place_50 rfl (lv_at hl 3 rfl) ?_
      replace hF := bnd_some hF
      obtain ⟨z10, hz_10, hF⟩ := hF
      refine krI (kV (As := [.int a3]) ⟨hx, hb, hml, hown, hts⟩ (kX6_holder l D cy sa h thrown_44 pairs teams water vats moulds crews posts loft nums a3 z10 hz_10 _) (cwV 1 hts gX6_place_X6_holder rfl rfl rfl (by decide +kernel) ⟨Nat.le_of_ble_eq_true rfl, Nat.le_of_ble_eq_true rfl⟩) hK hP hD hS hA hG [0, 1, 2, 3, 4, 5, 6, 7] hcX6_X6_0 ndX6_0 gtX6_0 rfl rfl rfl hl.1 [] rfl (Nat.le_of_ble_eq_true rfl) dX6_place_51 ⟨(Nat.le_of_ble_eq_true rfl), (Nat.le_of_ble_eq_true rfl)⟩) hP hD hS hA [0, 1, 2, 3, 4, 5, 6, 7] hcX6_X6_0 (fun H locs hP hS => ?_)
      refine lv_iconst (v := -1) hx hb dX6_place_54 (by decide) ?_
      refine lv_icmp_eq (tgt := 73) hx hb dX6_place_55 (by decide) (fun c_11 => ?_) (fun c_11 => ?_)
      · replace hF := if_t hF c_11
        exact L73  thrown_44  hF _ _ _ hP hD hS (lv_sub hl [0, 1, 2, 3] rfl)
      · replace hF := if_f hF c_11
        refine lv_aload_n hx hb dX6_place_58 rfl (lv_at hl 0 rfl) ?_
        refine lv_iload_n hx hb dX6_place_59 rfl (lv_at hl 3 rfl) ?_
        replace hF := bnd_some hF
        obtain ⟨z12, hz_12, hF⟩ := hF
        refine krI (kV (As := [.int a3]) ⟨hx, hb, hml, hown, hts⟩ (kX6_holder l D cy sa h thrown_44 pairs teams water vats moulds crews posts loft nums a3 z12 hz_12 _) (cwV 1 hts gX6_place_X6_holder rfl rfl rfl (by decide +kernel) ⟨Nat.le_of_ble_eq_true rfl, Nat.le_of_ble_eq_true rfl⟩) hK hP hD hS hA hG [0, 1, 2, 3, 4, 5, 6, 7] hcX6_X6_0 ndX6_0 gtX6_0 rfl rfl rfl hl.1 [] rfl (Nat.le_of_ble_eq_true rfl) dX6_place_60 ⟨(Nat.le_of_ble_eq_true rfl), (Nat.le_of_ble_eq_true rfl)⟩) hP hD hS hA [0, 1, 2, 3, 4, 5, 6, 7] hcX6_X6_0 (fun H locs hP hS => ?_)
        refine lv_iload_n hx hb dX6_place_63 rfl (lv_at hl 1 rfl) ?_
        refine lv_icmp_eq (tgt := 73) hx hb dX6_place_64 (by decide) (fun c_13 => ?_) (fun c_13 => ?_)
        · replace hF := if_t hF c_13
          exact L73  thrown_44  hF _ _ _ hP hD hS (lv_sub hl [0, 1, 2, 3] rfl)
        · replace hF := if_f hF c_13
          refine lv_aload_n hx hb dX6_place_67 rfl (lv_at hl 0 rfl) ?_
          refine lv_iconst (v := 2) hx hb dX6_place_68 (by decide) ?_
          replace hF := bnd_some hF
          obtain ⟨z14, hz_14, hF⟩ := hF
          refine kwIE (kV (As := [.int 2]) ⟨hx, hb, hml, hown, hts⟩ (kX6_fail l D cy sa h thrown_44 pairs teams water vats moulds crews posts loft nums 2 z14 hz_14 _) (cwV 1 hts gX6_place_X6_fail rfl rfl rfl (by decide +kernel) ⟨Nat.le_of_ble_eq_true rfl, Nat.le_of_ble_eq_true rfl⟩) hK hP hD hS hA hG [0, 1, 2, 3, 4, 5, 6, 7] hcX6_X6_0 ndX6_0 gtX6_0 rfl rfl rfl hl.1 [] rfl (Nat.le_of_ble_eq_true rfl) dX6_place_69 ⟨(Nat.le_of_ble_eq_true rfl), (Nat.le_of_ble_eq_true rfl)⟩) hP hD hS hA [0, 1, 2, 3, 4, 5, 6, 7] hcX6_X6_0 hmX6 kpX6_X6_0 (fun H locs hP hD hS => ?_)
          cases hF
          exact hQ _ _ _ _ _ _ (fun _ => 0) dX6_place_72 hP hD hS (Nat.le_of_ble_eq_true rfl) (Nat.le_of_ble_eq_true rfl)
  have L25 : ∀ (thrown_25 : Int32), fX6_place_L25 pairs teams vats moulds crews posts nums a1 a2 a3 thrown_25 = some z → ∀ (H : Heap) (locs : List Loc) (ls : Array Slot), va_P D vwCl (wX6 cy h thrown_25 pairs teams water vats moulds crews posts loft nums) H → va_D A (wX6 cy h thrown_25 pairs teams water vats moulds crews posts loft nums) → va_S A s.heap H locs → lv_has ls 4 [(0, .ref (h 0)), (1, .int a1), (2, .int a2), (3, .int a3)] → W p l e rX6_place s m args below meth c H locs 0 0 Q (F0 m 25 ls []) := by
    intro thrown_25 hF H locs ls hP hD hS hl
    unfold fX6_place_L25 at hF
    refine lv_iload_n hx hb dX6_place_25 rfl (lv_at hl 3 rfl) ?_
    refine lv_iconst (v := -1) hx hb dX6_place_26 (by decide) ?_
    refine lv_icmp_eq (tgt := 44) hx hb dX6_place_27 (by decide) (fun c_5 => ?_) (fun c_5 => ?_)
    · replace hF := if_t hF c_5
      exact L44  thrown_25  hF _ _ _ hP hD hS (lv_sub hl [0, 1, 2, 3] rfl)
    · replace hF := if_f hF c_5
      refine lv_aload_n hx hb dX6_place_30 rfl (lv_at hl 0 rfl) ?_
      refine lv_iload_n hx hb dX6_place_31 rfl (lv_at hl 3 rfl) ?_
      replace hF := bnd_some hF
      obtain ⟨z15, hz_15, hF⟩ := hF
      refine krI (kV (As := [.int a3]) ⟨hx, hb, hml, hown, hts⟩ (kX6_isPair l D cy sa h thrown_25 pairs teams water vats moulds crews posts loft nums a3 z15 hz_15 _) (cwV 1 hts gX6_place_X6_isPair rfl rfl rfl (by decide +kernel) ⟨Nat.le_of_ble_eq_true rfl, Nat.le_of_ble_eq_true rfl⟩) hK hP hD hS hA hG [0, 1, 2, 3, 4, 5, 6, 7] hcX6_X6_0 ndX6_0 gtX6_0 rfl rfl rfl hl.1 [] rfl (Nat.le_of_ble_eq_true rfl) dX6_place_32 ⟨(Nat.le_of_ble_eq_true rfl), (Nat.le_of_ble_eq_true rfl)⟩) hP hD hS hA [0, 1, 2, 3, 4, 5, 6, 7] hcX6_X6_0 (fun H locs hP hS => ?_)
      refine lv_if_ne (tgt := 44) hx hb dX6_place_35 (by decide) (fun c_16 => ?_) (fun c_16 => ?_)
      · replace hF := if_f hF c_16
        exact L44  thrown_25  hF _ _ _ hP hD hS (lv_sub hl [0, 1, 2, 3] rfl)
      · replace hF := if_t hF c_16
        refine lv_aload_n hx hb dX6_place_38 rfl (lv_at hl 0 rfl) ?_
        refine lv_iconst (v := 1) hx hb dX6_place_39 (by decide) ?_
        replace hF := bnd_some hF
        obtain ⟨z17, hz_17, hF⟩ := hF
        refine kwIE (kV (As := [.int 1]) ⟨hx, hb, hml, hown, hts⟩ (kX6_fail l D cy sa h thrown_25 pairs teams water vats moulds crews posts loft nums 1 z17 hz_17 _) (cwV 1 hts gX6_place_X6_fail rfl rfl rfl (by decide +kernel) ⟨Nat.le_of_ble_eq_true rfl, Nat.le_of_ble_eq_true rfl⟩) hK hP hD hS hA hG [0, 1, 2, 3, 4, 5, 6, 7] hcX6_X6_0 ndX6_0 gtX6_0 rfl rfl rfl hl.1 [] rfl (Nat.le_of_ble_eq_true rfl) dX6_place_40 ⟨(Nat.le_of_ble_eq_true rfl), (Nat.le_of_ble_eq_true rfl)⟩) hP hD hS hA [0, 1, 2, 3, 4, 5, 6, 7] hcX6_X6_0 hmX6 kpX6_X6_0 (fun H locs hP hD hS => ?_)
        cases hF
        exact hQ _ _ _ _ _ _ (fun _ => 0) dX6_place_43 hP hD hS (Nat.le_of_ble_eq_true rfl) (Nat.le_of_ble_eq_true rfl)
  unfold fX6_place at hF
  refine lv_aload_n hx hb dX6_place_0 rfl (lv_at hl 0 rfl) ?_
  refine lv_iconst (v := 0) hx hb dX6_place_1 (by decide) ?_
  refine va_put (D := D) (v := .int 0) (ty := .int) (C := RX6) (T := TX6) (N := 10) hx hb hts hiX6 tyX6 tyX6_ok nmX6 hown hK hP hD hS 0 gtX6_0 rfl 0 (by decide) hf31 (fun _ h9 => h9) rfl (by decide +kernel) rfl rfl (Nat.le_of_ble_eq_true rfl) dX6_place_2 (fun H locs hP hD hS => ?_)
  rw [stX6_0_0] at hP hD
  refine lv_aload_n hx hb dX6_place_5 rfl (lv_at hl 0 rfl) ?_
  refine lv_iload_n hx hb dX6_place_6 rfl (lv_at hl 1 rfl) ?_
  replace hF := bnd_some hF
  obtain ⟨z1, hz_1, hF⟩ := hF
  refine krI (kV (As := [.int a1]) ⟨hx, hb, hml, hown, hts⟩ (kX6_isTeam l D cy sa h 0 pairs teams water vats moulds crews posts loft nums a1 z1 hz_1 _) (cwV 1 hts gX6_place_X6_isTeam rfl rfl rfl (by decide +kernel) ⟨Nat.le_of_ble_eq_true rfl, Nat.le_of_ble_eq_true rfl⟩) hK hP hD hS hA hG [0, 1, 2, 3, 4, 5, 6, 7] hcX6_X6_0 ndX6_0 gtX6_0 rfl rfl rfl hl.1 [] rfl (Nat.le_of_ble_eq_true rfl) dX6_place_7 ⟨(Nat.le_of_ble_eq_true rfl), (Nat.le_of_ble_eq_true rfl)⟩) hP hD hS hA [0, 1, 2, 3, 4, 5, 6, 7] hcX6_X6_0 (fun H locs hP hS => ?_)
  refine lv_if_eq (tgt := 38) hx hb dX6_place_10 (by decide) (fun c_2 => ?_) (fun c_2 => ?_)
  · replace hF := if_t hF c_2
    refine lv_aload_n hx hb dX6_place_38 rfl (lv_at hl 0 rfl) ?_
    refine lv_iconst (v := 1) hx hb dX6_place_39 (by decide) ?_
    replace hF := bnd_some hF
    obtain ⟨z3, hz_3, hF⟩ := hF
    refine kwIE (kV (As := [.int 1]) ⟨hx, hb, hml, hown, hts⟩ (kX6_fail l D cy sa h 0 pairs teams water vats moulds crews posts loft nums 1 z3 hz_3 _) (cwV 1 hts gX6_place_X6_fail rfl rfl rfl (by decide +kernel) ⟨Nat.le_of_ble_eq_true rfl, Nat.le_of_ble_eq_true rfl⟩) hK hP hD hS hA hG [0, 1, 2, 3, 4, 5, 6, 7] hcX6_X6_0 ndX6_0 gtX6_0 rfl rfl rfl hl.1 [] rfl (Nat.le_of_ble_eq_true rfl) dX6_place_40 ⟨(Nat.le_of_ble_eq_true rfl), (Nat.le_of_ble_eq_true rfl)⟩) hP hD hS hA [0, 1, 2, 3, 4, 5, 6, 7] hcX6_X6_0 hmX6 kpX6_X6_0 (fun H locs hP hD hS => ?_)
    cases hF
    exact hQ _ _ _ _ _ _ (fun _ => 0) dX6_place_43 hP hD hS (Nat.le_of_ble_eq_true rfl) (Nat.le_of_ble_eq_true rfl)
  · replace hF := if_f hF c_2
    refine lv_iload_n hx hb dX6_place_13 rfl (lv_at hl 2 rfl) ?_
    refine lv_iconst (v := -1) hx hb dX6_place_14 (by decide) ?_
    refine lv_icmp_eq (tgt := 25) hx hb dX6_place_15 (by decide) (fun c_4 => ?_) (fun c_4 => ?_)
    · replace hF := if_t hF c_4
      exact L25  0  hF _ _ _ hP hD hS (lv_sub hl [0, 1, 2, 3] rfl)
    · replace hF := if_f hF c_4
      refine lv_iload_n hx hb dX6_place_18 rfl (lv_at hl 2 rfl) ?_
      replace hF := bnd_some hF
      obtain ⟨z18, hz_18, hF⟩ := hF
      refine krI (kS (As := [.int a2]) ⟨hx, hb, hml, hown, hts⟩ (kX6_isVat l D cy sa a2 z18 hz_18 _) (cwS 1 hts gX6_place_X6_isVat rfl rfl rfl (by decide +kernel) ⟨Nat.le_of_ble_eq_true rfl, Nat.le_of_ble_eq_true rfl⟩) hK hP hD hS hA hG [] rfl rfl rfl hl.1 [] rfl (Nat.le_of_ble_eq_true rfl) dX6_place_19 ⟨(Nat.le_of_ble_eq_true rfl), (Nat.le_of_ble_eq_true rfl)⟩) hP hD hS hA [] rfl (fun H locs hP hS => ?_)
      refine lv_if_eq (tgt := 38) hx hb dX6_place_22 (by decide) (fun c_19 => ?_) (fun c_19 => ?_)
      · replace hF := if_t hF c_19
        refine lv_aload_n hx hb dX6_place_38 rfl (lv_at hl 0 rfl) ?_
        refine lv_iconst (v := 1) hx hb dX6_place_39 (by decide) ?_
        replace hF := bnd_some hF
        obtain ⟨z20, hz_20, hF⟩ := hF
        refine kwIE (kV (As := [.int 1]) ⟨hx, hb, hml, hown, hts⟩ (kX6_fail l D cy sa h 0 pairs teams water vats moulds crews posts loft nums 1 z20 hz_20 _) (cwV 1 hts gX6_place_X6_fail rfl rfl rfl (by decide +kernel) ⟨Nat.le_of_ble_eq_true rfl, Nat.le_of_ble_eq_true rfl⟩) hK hP hD hS hA hG [0, 1, 2, 3, 4, 5, 6, 7] hcX6_X6_0 ndX6_0 gtX6_0 rfl rfl rfl hl.1 [] rfl (Nat.le_of_ble_eq_true rfl) dX6_place_40 ⟨(Nat.le_of_ble_eq_true rfl), (Nat.le_of_ble_eq_true rfl)⟩) hP hD hS hA [0, 1, 2, 3, 4, 5, 6, 7] hcX6_X6_0 hmX6 kpX6_X6_0 (fun H locs hP hD hS => ?_)
        cases hF
        exact hQ _ _ _ _ _ _ (fun _ => 0) dX6_place_43 hP hD hS (Nat.le_of_ble_eq_true rfl) (Nat.le_of_ble_eq_true rfl)
      · replace hF := if_f hF c_19
        exact L25  0  hF _ _ _ hP hD hS (lv_sub hl [0, 1, 2, 3] rfl)

def fX6_setWater (water : FN) (a1 : Int32) (a2 : Int32) : Option (Int32 × Int32 × FN) := (fX6_isIn a1 0 6).bind fun z1 => if z1 = 0 then (fX6_fail 1).bind fun z8 => some (z8.1, z8.2, water) else (fX6_isIn a2 0 9).bind fun z3 => if z3 = 0 then (fX6_fail 2).bind fun z7 => some (z7.1, z7.2, water) else ckI a1 7 (ckI a1 7 (some (water a1.toNatClampNeg, 0, upd water a1.toNatClampNeg a2)))
abbrev rX6_setWater : Room := { frames := 1, cells := 0, slots := 0, locals := 22 }
set_option maxHeartbeats 4000000 in
set_option maxRecDepth 100000 in
theorem kX6_setWater (l : Launch) (D : va_G) (cy : Nat → ClassId) (sa : Nat → Nat) (h : Nat → Nat) (thrown : Int32) (pairs : Int32) (teams : Int32) (water : FN) (vats : FN) (moulds : FN) (crews : FN) (posts : FN) (loft : FN) (nums : FN) (a1 : Int32) (a2 : Int32) (z : Int32 × Int32 × FN) (hF : fX6_setWater water a1 a2 = some z) : KI l D (tyW cy) sa yX6_setWater wsX6_setWater rX6_setWater [.ref (h 0), .int a1, .int a2] (wX6 cy h thrown pairs teams water vats moulds crews posts loft nums) z.1 (fun _ => wX6 cy h z.2.1 pairs teams z.2.2 vats moulds crews posts loft nums) 0 0 := by
  refine KI.of (cc := cX6_setWater) (maxL := 4) (by decide +kernel) rfl (Nat.le_of_ble_eq_true rfl) ?_
  intro p e s m args below meth c A ls Q hE hQ
  obtain ⟨hx, hb, hml, hown, hts, hA, hP, hK, hD, hG, hl, hnm⟩ := hE
  replace hown : s.vm.findClass RX6 = some m.cls := hown
  have hiX6 : ∀ w ∈ u_ws RX6 TX6 10, w ∈ wsX6_setWater := by decide +kernel
  have hf7 : (Cond.fieldLink RX6 7 "RagVatsModel" "water" "[I").before args s = true := hts _ (by decide +kernel)
  have hf31 : (Cond.fieldLink RX6 31 "RagVatsModel" "thrown" "I").before args s = true := hts _ (by decide +kernel)
  replace hl : lv_has ls 4 [(0, .ref (h 0)), (1, .int a1), (2, .int a2)] := hl
  have hS : va_S A s.heap s.heap [] := va_S.rf
  unfold fX6_setWater at hF
  refine lv_aload_n hx hb dX6_setWater_0 rfl (lv_at hl 0 rfl) ?_
  refine lv_iconst (v := 0) hx hb dX6_setWater_1 (by decide) ?_
  refine va_put (D := D) (v := .int 0) (ty := .int) (C := RX6) (T := TX6) (N := 10) hx hb hts hiX6 tyX6 tyX6_ok nmX6 hown hK hP hD hS 0 gtX6_0 rfl 0 (by decide) hf31 (fun _ h9 => h9) rfl (by decide +kernel) rfl rfl (Nat.le_of_ble_eq_true rfl) dX6_setWater_2 (fun H locs hP hD hS => ?_)
  rw [stX6_0_0] at hP hD
  refine lv_iload_n hx hb dX6_setWater_5 rfl (lv_at hl 1 rfl) ?_
  refine lv_iconst (v := 0) hx hb dX6_setWater_6 (by decide) ?_
  refine lv_bipush (v := 6) hx hb dX6_setWater_7 (by decide) ?_
  replace hF := bnd_some hF
  obtain ⟨z1, hz_1, hF⟩ := hF
  refine krI (kS (As := [.int a1, .int 0, .int 6]) ⟨hx, hb, hml, hown, hts⟩ (kX6_isIn l D cy sa a1 0 6 z1 hz_1 _) (cwS 3 hts gX6_setWater_X6_isIn rfl rfl rfl (by decide +kernel) ⟨Nat.le_of_ble_eq_true rfl, Nat.le_of_ble_eq_true rfl⟩) hK hP hD hS hA hG [] rfl rfl rfl hl.1 [] rfl (Nat.le_of_ble_eq_true rfl) dX6_setWater_9 ⟨(Nat.le_of_ble_eq_true rfl), (Nat.le_of_ble_eq_true rfl)⟩) hP hD hS hA [] rfl (fun H locs hP hS => ?_)
  refine lv_if_ne (tgt := 21) hx hb dX6_setWater_12 (by decide) (fun c_2 => ?_) (fun c_2 => ?_)
  · replace hF := if_f hF c_2
    refine lv_iload_n hx hb dX6_setWater_21 rfl (lv_at hl 2 rfl) ?_
    refine lv_iconst (v := 0) hx hb dX6_setWater_22 (by decide) ?_
    refine lv_bipush (v := 9) hx hb dX6_setWater_23 (by decide) ?_
    replace hF := bnd_some hF
    obtain ⟨z3, hz_3, hF⟩ := hF
    refine krI (kS (As := [.int a2, .int 0, .int 9]) ⟨hx, hb, hml, hown, hts⟩ (kX6_isIn l D cy sa a2 0 9 z3 hz_3 _) (cwS 3 hts gX6_setWater_X6_isIn rfl rfl rfl (by decide +kernel) ⟨Nat.le_of_ble_eq_true rfl, Nat.le_of_ble_eq_true rfl⟩) hK hP hD hS hA hG [] rfl rfl rfl hl.1 [] rfl (Nat.le_of_ble_eq_true rfl) dX6_setWater_25 ⟨(Nat.le_of_ble_eq_true rfl), (Nat.le_of_ble_eq_true rfl)⟩) hP hD hS hA [] rfl (fun H locs hP hS => ?_)
    refine lv_if_ne (tgt := 37) hx hb dX6_setWater_28 (by decide) (fun c_4 => ?_) (fun c_4 => ?_)
    · replace hF := if_f hF c_4
      refine lv_aload_n hx hb dX6_setWater_37 rfl (lv_at hl 0 rfl) ?_
      refine va_get (D := D) (C := RX6) (T := TX6) (N := 10) hx hb hts hiX6 hown hK hP 0 gtX6_0 rfl 3 (by decide) hf7 (fun _ h9 => h9) rfl dX6_setWater_38 ?_
      refine lv_iload_n hx hb dX6_setWater_41 rfl (lv_at hl 1 rfl) ?_
      replace hF := ckI_some hF
      obtain ⟨hi_5, hF⟩ := hF
      refine va_iald hx hb hK hP 1 0 gtX6_1 rfl hi_5 dX6_setWater_42 ?_
      refine lv_istore_n (lv' := [(3, .int (water a1.toNatClampNeg)), (0, .ref (h 0)), (1, .int a1), (2, .int a2)]) hx hb dX6_setWater_43 rfl hl (by decide) rfl (fun ls hl => ?_)
      refine lv_aload_n hx hb dX6_setWater_44 rfl (lv_at hl 1 rfl) ?_
      refine va_get (D := D) (C := RX6) (T := TX6) (N := 10) hx hb hts hiX6 hown hK hP 0 gtX6_0 rfl 3 (by decide) hf7 (fun _ h9 => h9) rfl dX6_setWater_45 ?_
      refine lv_iload_n hx hb dX6_setWater_48 rfl (lv_at hl 2 rfl) ?_
      refine lv_iload_n hx hb dX6_setWater_49 rfl (lv_at hl 3 rfl) ?_
      replace hF := ckI_some hF
      obtain ⟨hi_6, hF⟩ := hF
      refine va_iast hx hb hK hP hD hS 1 0 gtX6_1 rfl hi_6 dX6_setWater_50 (fun H locs hP hD hS => ?_)
      rw [stX6_1] at hP hD
      refine lv_iload_n hx hb dX6_setWater_51 rfl (lv_at hl 0 rfl) ?_
      cases hF
      exact hQ _ _ _ _ _ _ (fun _ => 0) dX6_setWater_52 hP hD hS (Nat.le_of_ble_eq_true rfl) (Nat.le_of_ble_eq_true rfl)
    · replace hF := if_t hF c_4
      refine lv_aload_n hx hb dX6_setWater_31 rfl (lv_at hl 0 rfl) ?_
      refine lv_iconst (v := 2) hx hb dX6_setWater_32 (by decide) ?_
      replace hF := bnd_some hF
      obtain ⟨z7, hz_7, hF⟩ := hF
      refine kwIE (kV (As := [.int 2]) ⟨hx, hb, hml, hown, hts⟩ (kX6_fail l D cy sa h 0 pairs teams water vats moulds crews posts loft nums 2 z7 hz_7 _) (cwV 1 hts gX6_setWater_X6_fail rfl rfl rfl (by decide +kernel) ⟨Nat.le_of_ble_eq_true rfl, Nat.le_of_ble_eq_true rfl⟩) hK hP hD hS hA hG [0, 1, 2, 3, 4, 5, 6, 7] hcX6_X6_0 ndX6_0 gtX6_0 rfl rfl rfl hl.1 [] rfl (Nat.le_of_ble_eq_true rfl) dX6_setWater_33 ⟨(Nat.le_of_ble_eq_true rfl), (Nat.le_of_ble_eq_true rfl)⟩) hP hD hS hA [0, 1, 2, 3, 4, 5, 6, 7] hcX6_X6_0 hmX6 kpX6_X6_0 (fun H locs hP hD hS => ?_)
      cases hF
      exact hQ _ _ _ _ _ _ (fun _ => 0) dX6_setWater_36 hP hD hS (Nat.le_of_ble_eq_true rfl) (Nat.le_of_ble_eq_true rfl)
  · replace hF := if_t hF c_2
    refine lv_aload_n hx hb dX6_setWater_15 rfl (lv_at hl 0 rfl) ?_
    refine lv_iconst (v := 1) hx hb dX6_setWater_16 (by decide) ?_
    replace hF := bnd_some hF
    obtain ⟨z8, hz_8, hF⟩ := hF
    refine kwIE (kV (As := [.int 1]) ⟨hx, hb, hml, hown, hts⟩ (kX6_fail l D cy sa h 0 pairs teams water vats moulds crews posts loft nums 1 z8 hz_8 _) (cwV 1 hts gX6_setWater_X6_fail rfl rfl rfl (by decide +kernel) ⟨Nat.le_of_ble_eq_true rfl, Nat.le_of_ble_eq_true rfl⟩) hK hP hD hS hA hG [0, 1, 2, 3, 4, 5, 6, 7] hcX6_X6_0 ndX6_0 gtX6_0 rfl rfl rfl hl.1 [] rfl (Nat.le_of_ble_eq_true rfl) dX6_setWater_17 ⟨(Nat.le_of_ble_eq_true rfl), (Nat.le_of_ble_eq_true rfl)⟩) hP hD hS hA [0, 1, 2, 3, 4, 5, 6, 7] hcX6_X6_0 hmX6 kpX6_X6_0 (fun H locs hP hD hS => ?_)
    cases hF
    exact hQ _ _ _ _ _ _ (fun _ => 0) dX6_setWater_20 hP hD hS (Nat.le_of_ble_eq_true rfl) (Nat.le_of_ble_eq_true rfl)

def fX6_about (vats : FN) (a1 : Int32) (a2 : Int32) : Option (Int32 × Int32) := (fX6_isVat a1).bind fun z1 => if z1 = 0 then (fX6_fail 1).bind fun z3 => some (z3.1, z3.2) else (fX6_isIn a2 0 2).bind fun z4 => if z4 = 0 then (fX6_fail 1).bind fun z6 => some (z6.1, z6.2) else (fX6_va vats a1 a2).bind fun z7 => some (z7, 0)
abbrev rX6_about : Room := { frames := 2, cells := 0, slots := 0, locals := 42 }
set_option maxHeartbeats 4000000 in
set_option maxRecDepth 100000 in
theorem kX6_about (l : Launch) (D : va_G) (cy : Nat → ClassId) (sa : Nat → Nat) (h : Nat → Nat) (thrown : Int32) (pairs : Int32) (teams : Int32) (water : FN) (vats : FN) (moulds : FN) (crews : FN) (posts : FN) (loft : FN) (nums : FN) (a1 : Int32) (a2 : Int32) (z : Int32 × Int32) (hF : fX6_about vats a1 a2 = some z) : KI l D (tyW cy) sa yX6_about wsX6_about rX6_about [.ref (h 0), .int a1, .int a2] (wX6 cy h thrown pairs teams water vats moulds crews posts loft nums) z.1 (fun _ => wX6 cy h z.2 pairs teams water vats moulds crews posts loft nums) 0 0 := by
  refine KI.of (cc := cX6_about) (maxL := 3) (by decide +kernel) rfl (Nat.le_of_ble_eq_true rfl) ?_
  intro p e s m args below meth c A ls Q hE hQ
  obtain ⟨hx, hb, hml, hown, hts, hA, hP, hK, hD, hG, hl, hnm⟩ := hE
  replace hown : s.vm.findClass RX6 = some m.cls := hown
  have hiX6 : ∀ w ∈ u_ws RX6 TX6 10, w ∈ wsX6_about := by decide +kernel
  have hf31 : (Cond.fieldLink RX6 31 "RagVatsModel" "thrown" "I").before args s = true := hts _ (by decide +kernel)
  replace hl : lv_has ls 3 [(0, .ref (h 0)), (1, .int a1), (2, .int a2)] := hl
  have hS : va_S A s.heap s.heap [] := va_S.rf
  unfold fX6_about at hF
  refine lv_aload_n hx hb dX6_about_0 rfl (lv_at hl 0 rfl) ?_
  refine lv_iconst (v := 0) hx hb dX6_about_1 (by decide) ?_
  refine va_put (D := D) (v := .int 0) (ty := .int) (C := RX6) (T := TX6) (N := 10) hx hb hts hiX6 tyX6 tyX6_ok nmX6 hown hK hP hD hS 0 gtX6_0 rfl 0 (by decide) hf31 (fun _ h9 => h9) rfl (by decide +kernel) rfl rfl (Nat.le_of_ble_eq_true rfl) dX6_about_2 (fun H locs hP hD hS => ?_)
  rw [stX6_0_0] at hP hD
  refine lv_iload_n hx hb dX6_about_5 rfl (lv_at hl 1 rfl) ?_
  replace hF := bnd_some hF
  obtain ⟨z1, hz_1, hF⟩ := hF
  refine krI (kS (As := [.int a1]) ⟨hx, hb, hml, hown, hts⟩ (kX6_isVat l D cy sa a1 z1 hz_1 _) (cwS 1 hts gX6_about_X6_isVat rfl rfl rfl (by decide +kernel) ⟨Nat.le_of_ble_eq_true rfl, Nat.le_of_ble_eq_true rfl⟩) hK hP hD hS hA hG [] rfl rfl rfl hl.1 [] rfl (Nat.le_of_ble_eq_true rfl) dX6_about_6 ⟨(Nat.le_of_ble_eq_true rfl), (Nat.le_of_ble_eq_true rfl)⟩) hP hD hS hA [] rfl (fun H locs hP hS => ?_)
  refine lv_if_eq (tgt := 30) hx hb dX6_about_9 (by decide) (fun c_2 => ?_) (fun c_2 => ?_)
  · replace hF := if_t hF c_2
    refine lv_aload_n hx hb dX6_about_30 rfl (lv_at hl 0 rfl) ?_
    refine lv_iconst (v := 1) hx hb dX6_about_31 (by decide) ?_
    replace hF := bnd_some hF
    obtain ⟨z3, hz_3, hF⟩ := hF
    refine kwIE (kV (As := [.int 1]) ⟨hx, hb, hml, hown, hts⟩ (kX6_fail l D cy sa h 0 pairs teams water vats moulds crews posts loft nums 1 z3 hz_3 _) (cwV 1 hts gX6_about_X6_fail rfl rfl rfl (by decide +kernel) ⟨Nat.le_of_ble_eq_true rfl, Nat.le_of_ble_eq_true rfl⟩) hK hP hD hS hA hG [0, 1, 2, 3, 4, 5, 6, 7] hcX6_X6_0 ndX6_0 gtX6_0 rfl rfl rfl hl.1 [] rfl (Nat.le_of_ble_eq_true rfl) dX6_about_32 ⟨(Nat.le_of_ble_eq_true rfl), (Nat.le_of_ble_eq_true rfl)⟩) hP hD hS hA [0, 1, 2, 3, 4, 5, 6, 7] hcX6_X6_0 hmX6 kpX6_X6_0 (fun H locs hP hD hS => ?_)
    cases hF
    exact hQ _ _ _ _ _ _ (fun _ => 0) dX6_about_35 hP hD hS (Nat.le_of_ble_eq_true rfl) (Nat.le_of_ble_eq_true rfl)
  · replace hF := if_f hF c_2
    refine lv_iload_n hx hb dX6_about_12 rfl (lv_at hl 2 rfl) ?_
    refine lv_iconst (v := 0) hx hb dX6_about_13 (by decide) ?_
    refine lv_iconst (v := 2) hx hb dX6_about_14 (by decide) ?_
    replace hF := bnd_some hF
    obtain ⟨z4, hz_4, hF⟩ := hF
    refine krI (kS (As := [.int a2, .int 0, .int 2]) ⟨hx, hb, hml, hown, hts⟩ (kX6_isIn l D cy sa a2 0 2 z4 hz_4 _) (cwS 3 hts gX6_about_X6_isIn rfl rfl rfl (by decide +kernel) ⟨Nat.le_of_ble_eq_true rfl, Nat.le_of_ble_eq_true rfl⟩) hK hP hD hS hA hG [] rfl rfl rfl hl.1 [] rfl (Nat.le_of_ble_eq_true rfl) dX6_about_15 ⟨(Nat.le_of_ble_eq_true rfl), (Nat.le_of_ble_eq_true rfl)⟩) hP hD hS hA [] rfl (fun H locs hP hS => ?_)
    refine lv_if_eq (tgt := 30) hx hb dX6_about_18 (by decide) (fun c_5 => ?_) (fun c_5 => ?_)
    · replace hF := if_t hF c_5
      refine lv_aload_n hx hb dX6_about_30 rfl (lv_at hl 0 rfl) ?_
      refine lv_iconst (v := 1) hx hb dX6_about_31 (by decide) ?_
      replace hF := bnd_some hF
      obtain ⟨z6, hz_6, hF⟩ := hF
      refine kwIE (kV (As := [.int 1]) ⟨hx, hb, hml, hown, hts⟩ (kX6_fail l D cy sa h 0 pairs teams water vats moulds crews posts loft nums 1 z6 hz_6 _) (cwV 1 hts gX6_about_X6_fail rfl rfl rfl (by decide +kernel) ⟨Nat.le_of_ble_eq_true rfl, Nat.le_of_ble_eq_true rfl⟩) hK hP hD hS hA hG [0, 1, 2, 3, 4, 5, 6, 7] hcX6_X6_0 ndX6_0 gtX6_0 rfl rfl rfl hl.1 [] rfl (Nat.le_of_ble_eq_true rfl) dX6_about_32 ⟨(Nat.le_of_ble_eq_true rfl), (Nat.le_of_ble_eq_true rfl)⟩) hP hD hS hA [0, 1, 2, 3, 4, 5, 6, 7] hcX6_X6_0 hmX6 kpX6_X6_0 (fun H locs hP hD hS => ?_)
      cases hF
      exact hQ _ _ _ _ _ _ (fun _ => 0) dX6_about_35 hP hD hS (Nat.le_of_ble_eq_true rfl) (Nat.le_of_ble_eq_true rfl)
    · replace hF := if_f hF c_5
      refine lv_aload_n hx hb dX6_about_21 rfl (lv_at hl 0 rfl) ?_
      refine lv_iload_n hx hb dX6_about_22 rfl (lv_at hl 1 rfl) ?_
      refine lv_iload_n hx hb dX6_about_23 rfl (lv_at hl 2 rfl) ?_
      replace hF := bnd_some hF
      obtain ⟨z7, hz_7, hF⟩ := hF
      refine krI (kV (As := [.int a1, .int a2]) ⟨hx, hb, hml, hown, hts⟩ (kX6_va l D cy sa h 0 pairs teams water vats moulds crews posts loft nums a1 a2 z7 hz_7 _) (cwV 2 hts gX6_about_X6_va rfl rfl rfl (by decide +kernel) ⟨Nat.le_of_ble_eq_true rfl, Nat.le_of_ble_eq_true rfl⟩) hK hP hD hS hA hG [0, 1, 2, 3, 4, 5, 6, 7] hcX6_X6_0 ndX6_0 gtX6_0 rfl rfl rfl hl.1 [] rfl (Nat.le_of_ble_eq_true rfl) dX6_about_24 ⟨(Nat.le_of_ble_eq_true rfl), (Nat.le_of_ble_eq_true rfl)⟩) hP hD hS hA [0, 1, 2, 3, 4, 5, 6, 7] hcX6_X6_0 (fun H locs hP hS => ?_)
      refine lv_goto (tgt := 35) hx hb dX6_about_27 (by decide) ?_
      cases hF
      exact hQ _ _ _ _ _ _ (fun _ => 0) dX6_about_35 hP hD hS (Nat.le_of_ble_eq_true rfl) (Nat.le_of_ble_eq_true rfl)

def fX6_pairTold (teams : Int32) (moulds : FN) (crews : FN) (a1 : Int32) (a2 : Int32) : Option (Int32) := if 3 ≤ a2 then (fX6_holder teams crews a1).bind fun z2 => some z2 else (fX6_mo moulds a1 a2).bind fun z3 => some z3
abbrev rX6_pairTold : Room := { frames := 2, cells := 0, slots := 0, locals := 44 }
set_option maxHeartbeats 4000000 in
set_option maxRecDepth 100000 in
theorem kX6_pairTold (l : Launch) (D : va_G) (cy : Nat → ClassId) (sa : Nat → Nat) (h : Nat → Nat) (thrown : Int32) (pairs : Int32) (teams : Int32) (water : FN) (vats : FN) (moulds : FN) (crews : FN) (posts : FN) (loft : FN) (nums : FN) (a1 : Int32) (a2 : Int32) (z : Int32) (hF : fX6_pairTold teams moulds crews a1 a2 = some z) : KI l D (tyW cy) sa yX6_pairTold wsX6_pairTold rX6_pairTold [.ref (h 0), .int a1, .int a2] (wX6 cy h thrown pairs teams water vats moulds crews posts loft nums) z (fun _ => wX6 cy h thrown pairs teams water vats moulds crews posts loft nums) 0 0 := by
  refine KI.of (cc := cX6_pairTold) (maxL := 3) (by decide +kernel) rfl (Nat.le_of_ble_eq_true rfl) ?_
  intro p e s m args below meth c A ls Q hE hQ
  obtain ⟨hx, hb, hml, hown, hts, hA, hP, hK, hD, hG, hl, hnm⟩ := hE
  replace hown : s.vm.findClass RX6 = some m.cls := hown
  replace hl : lv_has ls 3 [(0, .ref (h 0)), (1, .int a1), (2, .int a2)] := hl
  have hS : va_S A s.heap s.heap [] := va_S.rf
  unfold fX6_pairTold at hF
  refine lv_iload_n hx hb dX6_pairTold_0 rfl (lv_at hl 2 rfl) ?_
  refine lv_iconst (v := 3) hx hb dX6_pairTold_1 (by decide) ?_
  refine lv_icmp_ge (tgt := 14) hx hb dX6_pairTold_2 (by decide) (fun c_1 => ?_) (fun c_1 => ?_)
  · replace hF := if_t hF c_1
    refine lv_aload_n hx hb dX6_pairTold_14 rfl (lv_at hl 0 rfl) ?_
    refine lv_iload_n hx hb dX6_pairTold_15 rfl (lv_at hl 1 rfl) ?_
    replace hF := bnd_some hF
    obtain ⟨z2, hz_2, hF⟩ := hF
    refine krI (kV (As := [.int a1]) ⟨hx, hb, hml, hown, hts⟩ (kX6_holder l D cy sa h thrown pairs teams water vats moulds crews posts loft nums a1 z2 hz_2 _) (cwV 1 hts gX6_pairTold_X6_holder rfl rfl rfl (by decide +kernel) ⟨Nat.le_of_ble_eq_true rfl, Nat.le_of_ble_eq_true rfl⟩) hK hP hD hS hA hG [0, 1, 2, 3, 4, 5, 6, 7] hcX6_X6_0 ndX6_0 gtX6_0 rfl rfl rfl hl.1 [] rfl (Nat.le_of_ble_eq_true rfl) dX6_pairTold_16 ⟨(Nat.le_of_ble_eq_true rfl), (Nat.le_of_ble_eq_true rfl)⟩) hP hD hS hA [0, 1, 2, 3, 4, 5, 6, 7] hcX6_X6_0 (fun H locs hP hS => ?_)
    cases hF
    exact hQ _ _ _ _ _ _ (fun _ => 0) dX6_pairTold_19 hP hD hS (Nat.le_of_ble_eq_true rfl) (Nat.le_of_ble_eq_true rfl)
  · replace hF := if_f hF c_1
    refine lv_aload_n hx hb dX6_pairTold_5 rfl (lv_at hl 0 rfl) ?_
    refine lv_iload_n hx hb dX6_pairTold_6 rfl (lv_at hl 1 rfl) ?_
    refine lv_iload_n hx hb dX6_pairTold_7 rfl (lv_at hl 2 rfl) ?_
    replace hF := bnd_some hF
    obtain ⟨z3, hz_3, hF⟩ := hF
    refine krI (kV (As := [.int a1, .int a2]) ⟨hx, hb, hml, hown, hts⟩ (kX6_mo l D cy sa h thrown pairs teams water vats moulds crews posts loft nums a1 a2 z3 hz_3 _) (cwV 2 hts gX6_pairTold_X6_mo rfl rfl rfl (by decide +kernel) ⟨Nat.le_of_ble_eq_true rfl, Nat.le_of_ble_eq_true rfl⟩) hK hP hD hS hA hG [0, 1, 2, 3, 4, 5, 6, 7] hcX6_X6_0 ndX6_0 gtX6_0 rfl rfl rfl hl.1 [] rfl (Nat.le_of_ble_eq_true rfl) dX6_pairTold_8 ⟨(Nat.le_of_ble_eq_true rfl), (Nat.le_of_ble_eq_true rfl)⟩) hP hD hS hA [0, 1, 2, 3, 4, 5, 6, 7] hcX6_X6_0 (fun H locs hP hS => ?_)
    refine lv_goto (tgt := 19) hx hb dX6_pairTold_11 (by decide) ?_
    cases hF
    exact hQ _ _ _ _ _ _ (fun _ => 0) dX6_pairTold_19 hP hD hS (Nat.le_of_ble_eq_true rfl) (Nat.le_of_ble_eq_true rfl)

def fX6_mould (pairs : Int32) (teams : Int32) (moulds : FN) (crews : FN) (a1 : Int32) (a2 : Int32) : Option (Int32 × Int32) := (fX6_isPair pairs a1).bind fun z1 => if z1 = 0 then (fX6_fail 1).bind fun z3 => some (z3.1, z3.2) else (fX6_isIn a2 0 3).bind fun z4 => if z4 = 0 then (fX6_fail 1).bind fun z6 => some (z6.1, z6.2) else (fX6_pairTold teams moulds crews a1 a2).bind fun z7 => some (z7, 0)
abbrev rX6_mould : Room := { frames := 3, cells := 0, slots := 0, locals := 66 }
set_option maxHeartbeats 4000000 in
set_option maxRecDepth 100000 in
theorem kX6_mould (l : Launch) (D : va_G) (cy : Nat → ClassId) (sa : Nat → Nat) (h : Nat → Nat) (thrown : Int32) (pairs : Int32) (teams : Int32) (water : FN) (vats : FN) (moulds : FN) (crews : FN) (posts : FN) (loft : FN) (nums : FN) (a1 : Int32) (a2 : Int32) (z : Int32 × Int32) (hF : fX6_mould pairs teams moulds crews a1 a2 = some z) : KI l D (tyW cy) sa yX6_mould wsX6_mould rX6_mould [.ref (h 0), .int a1, .int a2] (wX6 cy h thrown pairs teams water vats moulds crews posts loft nums) z.1 (fun _ => wX6 cy h z.2 pairs teams water vats moulds crews posts loft nums) 0 0 := by
  refine KI.of (cc := cX6_mould) (maxL := 3) (by decide +kernel) rfl (Nat.le_of_ble_eq_true rfl) ?_
  intro p e s m args below meth c A ls Q hE hQ
  obtain ⟨hx, hb, hml, hown, hts, hA, hP, hK, hD, hG, hl, hnm⟩ := hE
  replace hown : s.vm.findClass RX6 = some m.cls := hown
  have hiX6 : ∀ w ∈ u_ws RX6 TX6 10, w ∈ wsX6_mould := by decide +kernel
  have hf31 : (Cond.fieldLink RX6 31 "RagVatsModel" "thrown" "I").before args s = true := hts _ (by decide +kernel)
  replace hl : lv_has ls 3 [(0, .ref (h 0)), (1, .int a1), (2, .int a2)] := hl
  have hS : va_S A s.heap s.heap [] := va_S.rf
  unfold fX6_mould at hF
  refine lv_aload_n hx hb dX6_mould_0 rfl (lv_at hl 0 rfl) ?_
  refine lv_iconst (v := 0) hx hb dX6_mould_1 (by decide) ?_
  refine va_put (D := D) (v := .int 0) (ty := .int) (C := RX6) (T := TX6) (N := 10) hx hb hts hiX6 tyX6 tyX6_ok nmX6 hown hK hP hD hS 0 gtX6_0 rfl 0 (by decide) hf31 (fun _ h9 => h9) rfl (by decide +kernel) rfl rfl (Nat.le_of_ble_eq_true rfl) dX6_mould_2 (fun H locs hP hD hS => ?_)
  rw [stX6_0_0] at hP hD
  refine lv_aload_n hx hb dX6_mould_5 rfl (lv_at hl 0 rfl) ?_
  refine lv_iload_n hx hb dX6_mould_6 rfl (lv_at hl 1 rfl) ?_
  replace hF := bnd_some hF
  obtain ⟨z1, hz_1, hF⟩ := hF
  refine krI (kV (As := [.int a1]) ⟨hx, hb, hml, hown, hts⟩ (kX6_isPair l D cy sa h 0 pairs teams water vats moulds crews posts loft nums a1 z1 hz_1 _) (cwV 1 hts gX6_mould_X6_isPair rfl rfl rfl (by decide +kernel) ⟨Nat.le_of_ble_eq_true rfl, Nat.le_of_ble_eq_true rfl⟩) hK hP hD hS hA hG [0, 1, 2, 3, 4, 5, 6, 7] hcX6_X6_0 ndX6_0 gtX6_0 rfl rfl rfl hl.1 [] rfl (Nat.le_of_ble_eq_true rfl) dX6_mould_7 ⟨(Nat.le_of_ble_eq_true rfl), (Nat.le_of_ble_eq_true rfl)⟩) hP hD hS hA [0, 1, 2, 3, 4, 5, 6, 7] hcX6_X6_0 (fun H locs hP hS => ?_)
  refine lv_if_eq (tgt := 31) hx hb dX6_mould_10 (by decide) (fun c_2 => ?_) (fun c_2 => ?_)
  · replace hF := if_t hF c_2
    refine lv_aload_n hx hb dX6_mould_31 rfl (lv_at hl 0 rfl) ?_
    refine lv_iconst (v := 1) hx hb dX6_mould_32 (by decide) ?_
    replace hF := bnd_some hF
    obtain ⟨z3, hz_3, hF⟩ := hF
    refine kwIE (kV (As := [.int 1]) ⟨hx, hb, hml, hown, hts⟩ (kX6_fail l D cy sa h 0 pairs teams water vats moulds crews posts loft nums 1 z3 hz_3 _) (cwV 1 hts gX6_mould_X6_fail rfl rfl rfl (by decide +kernel) ⟨Nat.le_of_ble_eq_true rfl, Nat.le_of_ble_eq_true rfl⟩) hK hP hD hS hA hG [0, 1, 2, 3, 4, 5, 6, 7] hcX6_X6_0 ndX6_0 gtX6_0 rfl rfl rfl hl.1 [] rfl (Nat.le_of_ble_eq_true rfl) dX6_mould_33 ⟨(Nat.le_of_ble_eq_true rfl), (Nat.le_of_ble_eq_true rfl)⟩) hP hD hS hA [0, 1, 2, 3, 4, 5, 6, 7] hcX6_X6_0 hmX6 kpX6_X6_0 (fun H locs hP hD hS => ?_)
    cases hF
    exact hQ _ _ _ _ _ _ (fun _ => 0) dX6_mould_36 hP hD hS (Nat.le_of_ble_eq_true rfl) (Nat.le_of_ble_eq_true rfl)
  · replace hF := if_f hF c_2
    refine lv_iload_n hx hb dX6_mould_13 rfl (lv_at hl 2 rfl) ?_
    refine lv_iconst (v := 0) hx hb dX6_mould_14 (by decide) ?_
    refine lv_iconst (v := 3) hx hb dX6_mould_15 (by decide) ?_
    replace hF := bnd_some hF
    obtain ⟨z4, hz_4, hF⟩ := hF
    refine krI (kS (As := [.int a2, .int 0, .int 3]) ⟨hx, hb, hml, hown, hts⟩ (kX6_isIn l D cy sa a2 0 3 z4 hz_4 _) (cwS 3 hts gX6_mould_X6_isIn rfl rfl rfl (by decide +kernel) ⟨Nat.le_of_ble_eq_true rfl, Nat.le_of_ble_eq_true rfl⟩) hK hP hD hS hA hG [] rfl rfl rfl hl.1 [] rfl (Nat.le_of_ble_eq_true rfl) dX6_mould_16 ⟨(Nat.le_of_ble_eq_true rfl), (Nat.le_of_ble_eq_true rfl)⟩) hP hD hS hA [] rfl (fun H locs hP hS => ?_)
    refine lv_if_eq (tgt := 31) hx hb dX6_mould_19 (by decide) (fun c_5 => ?_) (fun c_5 => ?_)
    · replace hF := if_t hF c_5
      refine lv_aload_n hx hb dX6_mould_31 rfl (lv_at hl 0 rfl) ?_
      refine lv_iconst (v := 1) hx hb dX6_mould_32 (by decide) ?_
      replace hF := bnd_some hF
      obtain ⟨z6, hz_6, hF⟩ := hF
      refine kwIE (kV (As := [.int 1]) ⟨hx, hb, hml, hown, hts⟩ (kX6_fail l D cy sa h 0 pairs teams water vats moulds crews posts loft nums 1 z6 hz_6 _) (cwV 1 hts gX6_mould_X6_fail rfl rfl rfl (by decide +kernel) ⟨Nat.le_of_ble_eq_true rfl, Nat.le_of_ble_eq_true rfl⟩) hK hP hD hS hA hG [0, 1, 2, 3, 4, 5, 6, 7] hcX6_X6_0 ndX6_0 gtX6_0 rfl rfl rfl hl.1 [] rfl (Nat.le_of_ble_eq_true rfl) dX6_mould_33 ⟨(Nat.le_of_ble_eq_true rfl), (Nat.le_of_ble_eq_true rfl)⟩) hP hD hS hA [0, 1, 2, 3, 4, 5, 6, 7] hcX6_X6_0 hmX6 kpX6_X6_0 (fun H locs hP hD hS => ?_)
      cases hF
      exact hQ _ _ _ _ _ _ (fun _ => 0) dX6_mould_36 hP hD hS (Nat.le_of_ble_eq_true rfl) (Nat.le_of_ble_eq_true rfl)
    · replace hF := if_f hF c_5
      refine lv_aload_n hx hb dX6_mould_22 rfl (lv_at hl 0 rfl) ?_
      refine lv_iload_n hx hb dX6_mould_23 rfl (lv_at hl 1 rfl) ?_
      refine lv_iload_n hx hb dX6_mould_24 rfl (lv_at hl 2 rfl) ?_
      replace hF := bnd_some hF
      obtain ⟨z7, hz_7, hF⟩ := hF
      refine krI (kV (As := [.int a1, .int a2]) ⟨hx, hb, hml, hown, hts⟩ (kX6_pairTold l D cy sa h 0 pairs teams water vats moulds crews posts loft nums a1 a2 z7 hz_7 _) (cwV 2 hts gX6_mould_X6_pairTold rfl rfl rfl (by decide +kernel) ⟨Nat.le_of_ble_eq_true rfl, Nat.le_of_ble_eq_true rfl⟩) hK hP hD hS hA hG [0, 1, 2, 3, 4, 5, 6, 7] hcX6_X6_0 ndX6_0 gtX6_0 rfl rfl rfl hl.1 [] rfl (Nat.le_of_ble_eq_true rfl) dX6_mould_25 ⟨(Nat.le_of_ble_eq_true rfl), (Nat.le_of_ble_eq_true rfl)⟩) hP hD hS hA [0, 1, 2, 3, 4, 5, 6, 7] hcX6_X6_0 (fun H locs hP hS => ?_)
      refine lv_goto (tgt := 36) hx hb dX6_mould_28 (by decide) ?_
      cases hF
      exact hQ _ _ _ _ _ _ (fun _ => 0) dX6_mould_36 hP hD hS (Nat.le_of_ble_eq_true rfl) (Nat.le_of_ble_eq_true rfl)

def fX6_teamTold (vats : FN) (moulds : FN) (crews : FN) (posts : FN) (nums : FN) (a1 : Int32) (a2 : Int32) : Option (Int32) := if 3 ≤ a2 then (fX6_makes vats moulds crews posts nums a1).bind fun z2 => some z2 else (fX6_cr crews a1 a2).bind fun z3 => some z3
abbrev rX6_teamTold : Room := { frames := 4, cells := 0, slots := 0, locals := 87 }
set_option maxHeartbeats 4000000 in
set_option maxRecDepth 100000 in
theorem kX6_teamTold (l : Launch) (D : va_G) (cy : Nat → ClassId) (sa : Nat → Nat) (h : Nat → Nat) (thrown : Int32) (pairs : Int32) (teams : Int32) (water : FN) (vats : FN) (moulds : FN) (crews : FN) (posts : FN) (loft : FN) (nums : FN) (a1 : Int32) (a2 : Int32) (z : Int32) (hF : fX6_teamTold vats moulds crews posts nums a1 a2 = some z) : KI l D (tyW cy) sa yX6_teamTold wsX6_teamTold rX6_teamTold [.ref (h 0), .int a1, .int a2] (wX6 cy h thrown pairs teams water vats moulds crews posts loft nums) z (fun _ => wX6 cy h thrown pairs teams water vats moulds crews posts loft nums) 0 0 := by
  refine KI.of (cc := cX6_teamTold) (maxL := 3) (by decide +kernel) rfl (Nat.le_of_ble_eq_true rfl) ?_
  intro p e s m args below meth c A ls Q hE hQ
  obtain ⟨hx, hb, hml, hown, hts, hA, hP, hK, hD, hG, hl, hnm⟩ := hE
  replace hown : s.vm.findClass RX6 = some m.cls := hown
  replace hl : lv_has ls 3 [(0, .ref (h 0)), (1, .int a1), (2, .int a2)] := hl
  have hS : va_S A s.heap s.heap [] := va_S.rf
  unfold fX6_teamTold at hF
  refine lv_iload_n hx hb dX6_teamTold_0 rfl (lv_at hl 2 rfl) ?_
  refine lv_iconst (v := 3) hx hb dX6_teamTold_1 (by decide) ?_
  refine lv_icmp_ge (tgt := 14) hx hb dX6_teamTold_2 (by decide) (fun c_1 => ?_) (fun c_1 => ?_)
  · replace hF := if_t hF c_1
    refine lv_aload_n hx hb dX6_teamTold_14 rfl (lv_at hl 0 rfl) ?_
    refine lv_iload_n hx hb dX6_teamTold_15 rfl (lv_at hl 1 rfl) ?_
    replace hF := bnd_some hF
    obtain ⟨z2, hz_2, hF⟩ := hF
    refine krI (kV (As := [.int a1]) ⟨hx, hb, hml, hown, hts⟩ (kX6_makes l D cy sa h thrown pairs teams water vats moulds crews posts loft nums a1 z2 hz_2 _) (cwV 1 hts gX6_teamTold_X6_makes rfl rfl rfl (by decide +kernel) ⟨Nat.le_of_ble_eq_true rfl, Nat.le_of_ble_eq_true rfl⟩) hK hP hD hS hA hG [0, 1, 2, 3, 4, 5, 6, 7] hcX6_X6_0 ndX6_0 gtX6_0 rfl rfl rfl hl.1 [] rfl (Nat.le_of_ble_eq_true rfl) dX6_teamTold_16 ⟨(Nat.le_of_ble_eq_true rfl), (Nat.le_of_ble_eq_true rfl)⟩) hP hD hS hA [0, 1, 2, 3, 4, 5, 6, 7] hcX6_X6_0 (fun H locs hP hS => ?_)
    cases hF
    exact hQ _ _ _ _ _ _ (fun _ => 0) dX6_teamTold_19 hP hD hS (Nat.le_of_ble_eq_true rfl) (Nat.le_of_ble_eq_true rfl)
  · replace hF := if_f hF c_1
    refine lv_aload_n hx hb dX6_teamTold_5 rfl (lv_at hl 0 rfl) ?_
    refine lv_iload_n hx hb dX6_teamTold_6 rfl (lv_at hl 1 rfl) ?_
    refine lv_iload_n hx hb dX6_teamTold_7 rfl (lv_at hl 2 rfl) ?_
    replace hF := bnd_some hF
    obtain ⟨z3, hz_3, hF⟩ := hF
    refine krI (kV (As := [.int a1, .int a2]) ⟨hx, hb, hml, hown, hts⟩ (kX6_cr l D cy sa h thrown pairs teams water vats moulds crews posts loft nums a1 a2 z3 hz_3 _) (cwV 2 hts gX6_teamTold_X6_cr rfl rfl rfl (by decide +kernel) ⟨Nat.le_of_ble_eq_true rfl, Nat.le_of_ble_eq_true rfl⟩) hK hP hD hS hA hG [0, 1, 2, 3, 4, 5, 6, 7] hcX6_X6_0 ndX6_0 gtX6_0 rfl rfl rfl hl.1 [] rfl (Nat.le_of_ble_eq_true rfl) dX6_teamTold_8 ⟨(Nat.le_of_ble_eq_true rfl), (Nat.le_of_ble_eq_true rfl)⟩) hP hD hS hA [0, 1, 2, 3, 4, 5, 6, 7] hcX6_X6_0 (fun H locs hP hS => ?_)
    refine lv_goto (tgt := 19) hx hb dX6_teamTold_11 (by decide) ?_
    cases hF
    exact hQ _ _ _ _ _ _ (fun _ => 0) dX6_teamTold_19 hP hD hS (Nat.le_of_ble_eq_true rfl) (Nat.le_of_ble_eq_true rfl)

def fX6_told (teams : Int32) (vats : FN) (moulds : FN) (crews : FN) (posts : FN) (nums : FN) (a1 : Int32) (a2 : Int32) : Option (Int32 × Int32) := (fX6_isTeam teams a1).bind fun z1 => if z1 = 0 then (fX6_fail 1).bind fun z3 => some (z3.1, z3.2) else (fX6_isIn a2 0 3).bind fun z4 => if z4 = 0 then (fX6_fail 1).bind fun z6 => some (z6.1, z6.2) else (fX6_teamTold vats moulds crews posts nums a1 a2).bind fun z7 => some (z7, 0)
abbrev rX6_told : Room := { frames := 5, cells := 0, slots := 0, locals := 109 }
set_option maxHeartbeats 4000000 in
set_option maxRecDepth 100000 in
theorem kX6_told (l : Launch) (D : va_G) (cy : Nat → ClassId) (sa : Nat → Nat) (h : Nat → Nat) (thrown : Int32) (pairs : Int32) (teams : Int32) (water : FN) (vats : FN) (moulds : FN) (crews : FN) (posts : FN) (loft : FN) (nums : FN) (a1 : Int32) (a2 : Int32) (z : Int32 × Int32) (hF : fX6_told teams vats moulds crews posts nums a1 a2 = some z) : KI l D (tyW cy) sa yX6_told wsX6_told rX6_told [.ref (h 0), .int a1, .int a2] (wX6 cy h thrown pairs teams water vats moulds crews posts loft nums) z.1 (fun _ => wX6 cy h z.2 pairs teams water vats moulds crews posts loft nums) 0 0 := by
  refine KI.of (cc := cX6_told) (maxL := 3) (by decide +kernel) rfl (Nat.le_of_ble_eq_true rfl) ?_
  intro p e s m args below meth c A ls Q hE hQ
  obtain ⟨hx, hb, hml, hown, hts, hA, hP, hK, hD, hG, hl, hnm⟩ := hE
  replace hown : s.vm.findClass RX6 = some m.cls := hown
  have hiX6 : ∀ w ∈ u_ws RX6 TX6 10, w ∈ wsX6_told := by decide +kernel
  have hf31 : (Cond.fieldLink RX6 31 "RagVatsModel" "thrown" "I").before args s = true := hts _ (by decide +kernel)
  replace hl : lv_has ls 3 [(0, .ref (h 0)), (1, .int a1), (2, .int a2)] := hl
  have hS : va_S A s.heap s.heap [] := va_S.rf
  unfold fX6_told at hF
  refine lv_aload_n hx hb dX6_told_0 rfl (lv_at hl 0 rfl) ?_
  refine lv_iconst (v := 0) hx hb dX6_told_1 (by decide) ?_
  refine va_put (D := D) (v := .int 0) (ty := .int) (C := RX6) (T := TX6) (N := 10) hx hb hts hiX6 tyX6 tyX6_ok nmX6 hown hK hP hD hS 0 gtX6_0 rfl 0 (by decide) hf31 (fun _ h9 => h9) rfl (by decide +kernel) rfl rfl (Nat.le_of_ble_eq_true rfl) dX6_told_2 (fun H locs hP hD hS => ?_)
  rw [stX6_0_0] at hP hD
  refine lv_aload_n hx hb dX6_told_5 rfl (lv_at hl 0 rfl) ?_
  refine lv_iload_n hx hb dX6_told_6 rfl (lv_at hl 1 rfl) ?_
  replace hF := bnd_some hF
  obtain ⟨z1, hz_1, hF⟩ := hF
  refine krI (kV (As := [.int a1]) ⟨hx, hb, hml, hown, hts⟩ (kX6_isTeam l D cy sa h 0 pairs teams water vats moulds crews posts loft nums a1 z1 hz_1 _) (cwV 1 hts gX6_told_X6_isTeam rfl rfl rfl (by decide +kernel) ⟨Nat.le_of_ble_eq_true rfl, Nat.le_of_ble_eq_true rfl⟩) hK hP hD hS hA hG [0, 1, 2, 3, 4, 5, 6, 7] hcX6_X6_0 ndX6_0 gtX6_0 rfl rfl rfl hl.1 [] rfl (Nat.le_of_ble_eq_true rfl) dX6_told_7 ⟨(Nat.le_of_ble_eq_true rfl), (Nat.le_of_ble_eq_true rfl)⟩) hP hD hS hA [0, 1, 2, 3, 4, 5, 6, 7] hcX6_X6_0 (fun H locs hP hS => ?_)
  refine lv_if_eq (tgt := 31) hx hb dX6_told_10 (by decide) (fun c_2 => ?_) (fun c_2 => ?_)
  · replace hF := if_t hF c_2
    refine lv_aload_n hx hb dX6_told_31 rfl (lv_at hl 0 rfl) ?_
    refine lv_iconst (v := 1) hx hb dX6_told_32 (by decide) ?_
    replace hF := bnd_some hF
    obtain ⟨z3, hz_3, hF⟩ := hF
    refine kwIE (kV (As := [.int 1]) ⟨hx, hb, hml, hown, hts⟩ (kX6_fail l D cy sa h 0 pairs teams water vats moulds crews posts loft nums 1 z3 hz_3 _) (cwV 1 hts gX6_told_X6_fail rfl rfl rfl (by decide +kernel) ⟨Nat.le_of_ble_eq_true rfl, Nat.le_of_ble_eq_true rfl⟩) hK hP hD hS hA hG [0, 1, 2, 3, 4, 5, 6, 7] hcX6_X6_0 ndX6_0 gtX6_0 rfl rfl rfl hl.1 [] rfl (Nat.le_of_ble_eq_true rfl) dX6_told_33 ⟨(Nat.le_of_ble_eq_true rfl), (Nat.le_of_ble_eq_true rfl)⟩) hP hD hS hA [0, 1, 2, 3, 4, 5, 6, 7] hcX6_X6_0 hmX6 kpX6_X6_0 (fun H locs hP hD hS => ?_)
    cases hF
    exact hQ _ _ _ _ _ _ (fun _ => 0) dX6_told_36 hP hD hS (Nat.le_of_ble_eq_true rfl) (Nat.le_of_ble_eq_true rfl)
  · replace hF := if_f hF c_2
    refine lv_iload_n hx hb dX6_told_13 rfl (lv_at hl 2 rfl) ?_
    refine lv_iconst (v := 0) hx hb dX6_told_14 (by decide) ?_
    refine lv_iconst (v := 3) hx hb dX6_told_15 (by decide) ?_
    replace hF := bnd_some hF
    obtain ⟨z4, hz_4, hF⟩ := hF
    refine krI (kS (As := [.int a2, .int 0, .int 3]) ⟨hx, hb, hml, hown, hts⟩ (kX6_isIn l D cy sa a2 0 3 z4 hz_4 _) (cwS 3 hts gX6_told_X6_isIn rfl rfl rfl (by decide +kernel) ⟨Nat.le_of_ble_eq_true rfl, Nat.le_of_ble_eq_true rfl⟩) hK hP hD hS hA hG [] rfl rfl rfl hl.1 [] rfl (Nat.le_of_ble_eq_true rfl) dX6_told_16 ⟨(Nat.le_of_ble_eq_true rfl), (Nat.le_of_ble_eq_true rfl)⟩) hP hD hS hA [] rfl (fun H locs hP hS => ?_)
    refine lv_if_eq (tgt := 31) hx hb dX6_told_19 (by decide) (fun c_5 => ?_) (fun c_5 => ?_)
    · replace hF := if_t hF c_5
      refine lv_aload_n hx hb dX6_told_31 rfl (lv_at hl 0 rfl) ?_
      refine lv_iconst (v := 1) hx hb dX6_told_32 (by decide) ?_
      replace hF := bnd_some hF
      obtain ⟨z6, hz_6, hF⟩ := hF
      refine kwIE (kV (As := [.int 1]) ⟨hx, hb, hml, hown, hts⟩ (kX6_fail l D cy sa h 0 pairs teams water vats moulds crews posts loft nums 1 z6 hz_6 _) (cwV 1 hts gX6_told_X6_fail rfl rfl rfl (by decide +kernel) ⟨Nat.le_of_ble_eq_true rfl, Nat.le_of_ble_eq_true rfl⟩) hK hP hD hS hA hG [0, 1, 2, 3, 4, 5, 6, 7] hcX6_X6_0 ndX6_0 gtX6_0 rfl rfl rfl hl.1 [] rfl (Nat.le_of_ble_eq_true rfl) dX6_told_33 ⟨(Nat.le_of_ble_eq_true rfl), (Nat.le_of_ble_eq_true rfl)⟩) hP hD hS hA [0, 1, 2, 3, 4, 5, 6, 7] hcX6_X6_0 hmX6 kpX6_X6_0 (fun H locs hP hD hS => ?_)
      cases hF
      exact hQ _ _ _ _ _ _ (fun _ => 0) dX6_told_36 hP hD hS (Nat.le_of_ble_eq_true rfl) (Nat.le_of_ble_eq_true rfl)
    · replace hF := if_f hF c_5
      refine lv_aload_n hx hb dX6_told_22 rfl (lv_at hl 0 rfl) ?_
      refine lv_iload_n hx hb dX6_told_23 rfl (lv_at hl 1 rfl) ?_
      refine lv_iload_n hx hb dX6_told_24 rfl (lv_at hl 2 rfl) ?_
      replace hF := bnd_some hF
      obtain ⟨z7, hz_7, hF⟩ := hF
      refine krI (kV (As := [.int a1, .int a2]) ⟨hx, hb, hml, hown, hts⟩ (kX6_teamTold l D cy sa h 0 pairs teams water vats moulds crews posts loft nums a1 a2 z7 hz_7 _) (cwV 2 hts gX6_told_X6_teamTold rfl rfl rfl (by decide +kernel) ⟨Nat.le_of_ble_eq_true rfl, Nat.le_of_ble_eq_true rfl⟩) hK hP hD hS hA hG [0, 1, 2, 3, 4, 5, 6, 7] hcX6_X6_0 ndX6_0 gtX6_0 rfl rfl rfl hl.1 [] rfl (Nat.le_of_ble_eq_true rfl) dX6_told_25 ⟨(Nat.le_of_ble_eq_true rfl), (Nat.le_of_ble_eq_true rfl)⟩) hP hD hS hA [0, 1, 2, 3, 4, 5, 6, 7] hcX6_X6_0 (fun H locs hP hS => ?_)
      refine lv_goto (tgt := 36) hx hb dX6_told_28 (by decide) ?_
      cases hF
      exact hQ _ _ _ _ _ _ (fun _ => 0) dX6_told_36 hP hD hS (Nat.le_of_ble_eq_true rfl) (Nat.le_of_ble_eq_true rfl)

def fX6_post (posts : FN) (nums : FN) (a1 : Int32) (a2 : Int32) : Option (Int32 × Int32) := (fX6_isIn a1 0 ((nums (5 : Int32).toNatClampNeg) - 1)).bind fun z2 => if z2 = 0 then (fX6_fail 1).bind fun z4 => some (z4.1, z4.2) else (fX6_isIn a2 0 2).bind fun z5 => if z5 = 0 then (fX6_fail 1).bind fun z7 => some (z7.1, z7.2) else (fX6_ps posts a1 a2).bind fun z8 => some (z8, 0)
abbrev rX6_post : Room := { frames := 1, cells := 0, slots := 0, locals := 22 }
set_option maxHeartbeats 4000000 in
set_option maxRecDepth 100000 in
theorem kX6_post (l : Launch) (D : va_G) (cy : Nat → ClassId) (sa : Nat → Nat) (h : Nat → Nat) (thrown : Int32) (pairs : Int32) (teams : Int32) (water : FN) (vats : FN) (moulds : FN) (crews : FN) (posts : FN) (loft : FN) (nums : FN) (a1 : Int32) (a2 : Int32) (z : Int32 × Int32) (hF : fX6_post posts nums a1 a2 = some z) : KI l D (tyW cy) sa yX6_post wsX6_post rX6_post [.ref (h 0), .int a1, .int a2] (wX6 cy h thrown pairs teams water vats moulds crews posts loft nums) z.1 (fun _ => wX6 cy h z.2 pairs teams water vats moulds crews posts loft nums) 0 0 := by
  refine KI.of (cc := cX6_post) (maxL := 3) (by decide +kernel) rfl (Nat.le_of_ble_eq_true rfl) ?_
  intro p e s m args below meth c A ls Q hE hQ
  obtain ⟨hx, hb, hml, hown, hts, hA, hP, hK, hD, hG, hl, hnm⟩ := hE
  replace hown : s.vm.findClass RX6 = some m.cls := hown
  have hiX6 : ∀ w ∈ u_ws RX6 TX6 10, w ∈ wsX6_post := by decide +kernel
  have hf28 : (Cond.fieldLink RX6 28 "RagVatsModel" "numbers" "[I").before args s = true := hts _ (by decide +kernel)
  have hf31 : (Cond.fieldLink RX6 31 "RagVatsModel" "thrown" "I").before args s = true := hts _ (by decide +kernel)
  replace hl : lv_has ls 3 [(0, .ref (h 0)), (1, .int a1), (2, .int a2)] := hl
  have hS : va_S A s.heap s.heap [] := va_S.rf
  unfold fX6_post at hF
  refine lv_aload_n hx hb dX6_post_0 rfl (lv_at hl 0 rfl) ?_
  refine lv_iconst (v := 0) hx hb dX6_post_1 (by decide) ?_
  refine va_put (D := D) (v := .int 0) (ty := .int) (C := RX6) (T := TX6) (N := 10) hx hb hts hiX6 tyX6 tyX6_ok nmX6 hown hK hP hD hS 0 gtX6_0 rfl 0 (by decide) hf31 (fun _ h9 => h9) rfl (by decide +kernel) rfl rfl (Nat.le_of_ble_eq_true rfl) dX6_post_2 (fun H locs hP hD hS => ?_)
  rw [stX6_0_0] at hP hD
  refine lv_iload_n hx hb dX6_post_5 rfl (lv_at hl 1 rfl) ?_
  refine lv_iconst (v := 0) hx hb dX6_post_6 (by decide) ?_
  refine lv_aload_n hx hb dX6_post_7 rfl (lv_at hl 0 rfl) ?_
  refine va_get (D := D) (C := RX6) (T := TX6) (N := 10) hx hb hts hiX6 hown hK hP 0 gtX6_0 rfl 9 (by decide) hf28 (fun _ h9 => h9) rfl dX6_post_8 ?_
  refine lv_iconst (v := 5) hx hb dX6_post_11 (by decide) ?_
  refine va_iald hx hb hK hP 7 0 gtX6_7 rfl (show ¬ ((5 : Int32) < 0 ∨ 9 ≤ (5 : Int32).toNatClampNeg) from by decide) dX6_post_12 ?_
  refine lv_iconst (v := 1) hx hb dX6_post_13 (by decide) ?_
  refine lv_isub hx hb dX6_post_14 ?_
  replace hF := bnd_some hF
  obtain ⟨z2, hz_2, hF⟩ := hF
  refine krI (kS (As := [.int a1, .int 0, .int ((nums (5 : Int32).toNatClampNeg) - 1)]) ⟨hx, hb, hml, hown, hts⟩ (kX6_isIn l D cy sa a1 0 ((nums (5 : Int32).toNatClampNeg) - 1) z2 hz_2 _) (cwS 3 hts gX6_post_X6_isIn rfl rfl rfl (by decide +kernel) ⟨Nat.le_of_ble_eq_true rfl, Nat.le_of_ble_eq_true rfl⟩) hK hP hD hS hA hG [] rfl rfl rfl hl.1 [] rfl (Nat.le_of_ble_eq_true rfl) dX6_post_15 ⟨(Nat.le_of_ble_eq_true rfl), (Nat.le_of_ble_eq_true rfl)⟩) hP hD hS hA [] rfl (fun H locs hP hS => ?_)
  refine lv_if_eq (tgt := 39) hx hb dX6_post_18 (by decide) (fun c_3 => ?_) (fun c_3 => ?_)
  · replace hF := if_t hF c_3
    refine lv_aload_n hx hb dX6_post_39 rfl (lv_at hl 0 rfl) ?_
    refine lv_iconst (v := 1) hx hb dX6_post_40 (by decide) ?_
    replace hF := bnd_some hF
    obtain ⟨z4, hz_4, hF⟩ := hF
    refine kwIE (kV (As := [.int 1]) ⟨hx, hb, hml, hown, hts⟩ (kX6_fail l D cy sa h 0 pairs teams water vats moulds crews posts loft nums 1 z4 hz_4 _) (cwV 1 hts gX6_post_X6_fail rfl rfl rfl (by decide +kernel) ⟨Nat.le_of_ble_eq_true rfl, Nat.le_of_ble_eq_true rfl⟩) hK hP hD hS hA hG [0, 1, 2, 3, 4, 5, 6, 7] hcX6_X6_0 ndX6_0 gtX6_0 rfl rfl rfl hl.1 [] rfl (Nat.le_of_ble_eq_true rfl) dX6_post_41 ⟨(Nat.le_of_ble_eq_true rfl), (Nat.le_of_ble_eq_true rfl)⟩) hP hD hS hA [0, 1, 2, 3, 4, 5, 6, 7] hcX6_X6_0 hmX6 kpX6_X6_0 (fun H locs hP hD hS => ?_)
    cases hF
    exact hQ _ _ _ _ _ _ (fun _ => 0) dX6_post_44 hP hD hS (Nat.le_of_ble_eq_true rfl) (Nat.le_of_ble_eq_true rfl)
  · replace hF := if_f hF c_3
    refine lv_iload_n hx hb dX6_post_21 rfl (lv_at hl 2 rfl) ?_
    refine lv_iconst (v := 0) hx hb dX6_post_22 (by decide) ?_
    refine lv_iconst (v := 2) hx hb dX6_post_23 (by decide) ?_
    replace hF := bnd_some hF
    obtain ⟨z5, hz_5, hF⟩ := hF
    refine krI (kS (As := [.int a2, .int 0, .int 2]) ⟨hx, hb, hml, hown, hts⟩ (kX6_isIn l D cy sa a2 0 2 z5 hz_5 _) (cwS 3 hts gX6_post_X6_isIn rfl rfl rfl (by decide +kernel) ⟨Nat.le_of_ble_eq_true rfl, Nat.le_of_ble_eq_true rfl⟩) hK hP hD hS hA hG [] rfl rfl rfl hl.1 [] rfl (Nat.le_of_ble_eq_true rfl) dX6_post_24 ⟨(Nat.le_of_ble_eq_true rfl), (Nat.le_of_ble_eq_true rfl)⟩) hP hD hS hA [] rfl (fun H locs hP hS => ?_)
    refine lv_if_eq (tgt := 39) hx hb dX6_post_27 (by decide) (fun c_6 => ?_) (fun c_6 => ?_)
    · replace hF := if_t hF c_6
      refine lv_aload_n hx hb dX6_post_39 rfl (lv_at hl 0 rfl) ?_
      refine lv_iconst (v := 1) hx hb dX6_post_40 (by decide) ?_
      replace hF := bnd_some hF
      obtain ⟨z7, hz_7, hF⟩ := hF
      refine kwIE (kV (As := [.int 1]) ⟨hx, hb, hml, hown, hts⟩ (kX6_fail l D cy sa h 0 pairs teams water vats moulds crews posts loft nums 1 z7 hz_7 _) (cwV 1 hts gX6_post_X6_fail rfl rfl rfl (by decide +kernel) ⟨Nat.le_of_ble_eq_true rfl, Nat.le_of_ble_eq_true rfl⟩) hK hP hD hS hA hG [0, 1, 2, 3, 4, 5, 6, 7] hcX6_X6_0 ndX6_0 gtX6_0 rfl rfl rfl hl.1 [] rfl (Nat.le_of_ble_eq_true rfl) dX6_post_41 ⟨(Nat.le_of_ble_eq_true rfl), (Nat.le_of_ble_eq_true rfl)⟩) hP hD hS hA [0, 1, 2, 3, 4, 5, 6, 7] hcX6_X6_0 hmX6 kpX6_X6_0 (fun H locs hP hD hS => ?_)
      cases hF
      exact hQ _ _ _ _ _ _ (fun _ => 0) dX6_post_44 hP hD hS (Nat.le_of_ble_eq_true rfl) (Nat.le_of_ble_eq_true rfl)
    · replace hF := if_f hF c_6
      refine lv_aload_n hx hb dX6_post_30 rfl (lv_at hl 0 rfl) ?_
      refine lv_iload_n hx hb dX6_post_31 rfl (lv_at hl 1 rfl) ?_
      refine lv_iload_n hx hb dX6_post_32 rfl (lv_at hl 2 rfl) ?_
      replace hF := bnd_some hF
      obtain ⟨z8, hz_8, hF⟩ := hF
      refine krI (kV (As := [.int a1, .int a2]) ⟨hx, hb, hml, hown, hts⟩ (kX6_ps l D cy sa h 0 pairs teams water vats moulds crews posts loft nums a1 a2 z8 hz_8 _) (cwV 2 hts gX6_post_X6_ps rfl rfl rfl (by decide +kernel) ⟨Nat.le_of_ble_eq_true rfl, Nat.le_of_ble_eq_true rfl⟩) hK hP hD hS hA hG [0, 1, 2, 3, 4, 5, 6, 7] hcX6_X6_0 ndX6_0 gtX6_0 rfl rfl rfl hl.1 [] rfl (Nat.le_of_ble_eq_true rfl) dX6_post_33 ⟨(Nat.le_of_ble_eq_true rfl), (Nat.le_of_ble_eq_true rfl)⟩) hP hD hS hA [0, 1, 2, 3, 4, 5, 6, 7] hcX6_X6_0 (fun H locs hP hS => ?_)
      refine lv_goto (tgt := 44) hx hb dX6_post_36 (by decide) ?_
      cases hF
      exact hQ _ _ _ _ _ _ (fun _ => 0) dX6_post_44 hP hD hS (Nat.le_of_ble_eq_true rfl) (Nat.le_of_ble_eq_true rfl)

def fX6_loft (loft : FN) (a1 : Int32) (a2 : Int32) : Option (Int32 × Int32) := (fX6_isIn a1 0 9).bind fun z1 => if z1 = 0 then (fX6_fail 1).bind fun z3 => some (z3.1, z3.2) else (fX6_isIn a2 0 2).bind fun z4 => if z4 = 0 then (fX6_fail 1).bind fun z6 => some (z6.1, z6.2) else ckI ((3 * a1) + a2) 30 (some (loft ((3 * a1) + a2).toNatClampNeg, 0))
abbrev rX6_loft : Room := { frames := 1, cells := 0, slots := 0, locals := 22 }
set_option maxHeartbeats 4000000 in
set_option maxRecDepth 100000 in
theorem kX6_loft (l : Launch) (D : va_G) (cy : Nat → ClassId) (sa : Nat → Nat) (h : Nat → Nat) (thrown : Int32) (pairs : Int32) (teams : Int32) (water : FN) (vats : FN) (moulds : FN) (crews : FN) (posts : FN) (loft : FN) (nums : FN) (a1 : Int32) (a2 : Int32) (z : Int32 × Int32) (hF : fX6_loft loft a1 a2 = some z) : KI l D (tyW cy) sa yX6_loft wsX6_loft rX6_loft [.ref (h 0), .int a1, .int a2] (wX6 cy h thrown pairs teams water vats moulds crews posts loft nums) z.1 (fun _ => wX6 cy h z.2 pairs teams water vats moulds crews posts loft nums) 0 0 := by
  refine KI.of (cc := cX6_loft) (maxL := 3) (by decide +kernel) rfl (Nat.le_of_ble_eq_true rfl) ?_
  intro p e s m args below meth c A ls Q hE hQ
  obtain ⟨hx, hb, hml, hown, hts, hA, hP, hK, hD, hG, hl, hnm⟩ := hE
  replace hown : s.vm.findClass RX6 = some m.cls := hown
  have hiX6 : ∀ w ∈ u_ws RX6 TX6 10, w ∈ wsX6_loft := by decide +kernel
  have hf25 : (Cond.fieldLink RX6 25 "RagVatsModel" "loft" "[I").before args s = true := hts _ (by decide +kernel)
  have hf31 : (Cond.fieldLink RX6 31 "RagVatsModel" "thrown" "I").before args s = true := hts _ (by decide +kernel)
  replace hl : lv_has ls 3 [(0, .ref (h 0)), (1, .int a1), (2, .int a2)] := hl
  have hS : va_S A s.heap s.heap [] := va_S.rf
  unfold fX6_loft at hF
  refine lv_aload_n hx hb dX6_loft_0 rfl (lv_at hl 0 rfl) ?_
  refine lv_iconst (v := 0) hx hb dX6_loft_1 (by decide) ?_
  refine va_put (D := D) (v := .int 0) (ty := .int) (C := RX6) (T := TX6) (N := 10) hx hb hts hiX6 tyX6 tyX6_ok nmX6 hown hK hP hD hS 0 gtX6_0 rfl 0 (by decide) hf31 (fun _ h9 => h9) rfl (by decide +kernel) rfl rfl (Nat.le_of_ble_eq_true rfl) dX6_loft_2 (fun H locs hP hD hS => ?_)
  rw [stX6_0_0] at hP hD
  refine lv_iload_n hx hb dX6_loft_5 rfl (lv_at hl 1 rfl) ?_
  refine lv_iconst (v := 0) hx hb dX6_loft_6 (by decide) ?_
  refine lv_bipush (v := 9) hx hb dX6_loft_7 (by decide) ?_
  replace hF := bnd_some hF
  obtain ⟨z1, hz_1, hF⟩ := hF
  refine krI (kS (As := [.int a1, .int 0, .int 9]) ⟨hx, hb, hml, hown, hts⟩ (kX6_isIn l D cy sa a1 0 9 z1 hz_1 _) (cwS 3 hts gX6_loft_X6_isIn rfl rfl rfl (by decide +kernel) ⟨Nat.le_of_ble_eq_true rfl, Nat.le_of_ble_eq_true rfl⟩) hK hP hD hS hA hG [] rfl rfl rfl hl.1 [] rfl (Nat.le_of_ble_eq_true rfl) dX6_loft_9 ⟨(Nat.le_of_ble_eq_true rfl), (Nat.le_of_ble_eq_true rfl)⟩) hP hD hS hA [] rfl (fun H locs hP hS => ?_)
  refine lv_if_eq (tgt := 37) hx hb dX6_loft_12 (by decide) (fun c_2 => ?_) (fun c_2 => ?_)
  · replace hF := if_t hF c_2
    refine lv_aload_n hx hb dX6_loft_37 rfl (lv_at hl 0 rfl) ?_
    refine lv_iconst (v := 1) hx hb dX6_loft_38 (by decide) ?_
    replace hF := bnd_some hF
    obtain ⟨z3, hz_3, hF⟩ := hF
    refine kwIE (kV (As := [.int 1]) ⟨hx, hb, hml, hown, hts⟩ (kX6_fail l D cy sa h 0 pairs teams water vats moulds crews posts loft nums 1 z3 hz_3 _) (cwV 1 hts gX6_loft_X6_fail rfl rfl rfl (by decide +kernel) ⟨Nat.le_of_ble_eq_true rfl, Nat.le_of_ble_eq_true rfl⟩) hK hP hD hS hA hG [0, 1, 2, 3, 4, 5, 6, 7] hcX6_X6_0 ndX6_0 gtX6_0 rfl rfl rfl hl.1 [] rfl (Nat.le_of_ble_eq_true rfl) dX6_loft_39 ⟨(Nat.le_of_ble_eq_true rfl), (Nat.le_of_ble_eq_true rfl)⟩) hP hD hS hA [0, 1, 2, 3, 4, 5, 6, 7] hcX6_X6_0 hmX6 kpX6_X6_0 (fun H locs hP hD hS => ?_)
    cases hF
    exact hQ _ _ _ _ _ _ (fun _ => 0) dX6_loft_42 hP hD hS (Nat.le_of_ble_eq_true rfl) (Nat.le_of_ble_eq_true rfl)
  · replace hF := if_f hF c_2
    refine lv_iload_n hx hb dX6_loft_15 rfl (lv_at hl 2 rfl) ?_
    refine lv_iconst (v := 0) hx hb dX6_loft_16 (by decide) ?_
    refine lv_iconst (v := 2) hx hb dX6_loft_17 (by decide) ?_
    replace hF := bnd_some hF
    obtain ⟨z4, hz_4, hF⟩ := hF
    refine krI (kS (As := [.int a2, .int 0, .int 2]) ⟨hx, hb, hml, hown, hts⟩ (kX6_isIn l D cy sa a2 0 2 z4 hz_4 _) (cwS 3 hts gX6_loft_X6_isIn rfl rfl rfl (by decide +kernel) ⟨Nat.le_of_ble_eq_true rfl, Nat.le_of_ble_eq_true rfl⟩) hK hP hD hS hA hG [] rfl rfl rfl hl.1 [] rfl (Nat.le_of_ble_eq_true rfl) dX6_loft_18 ⟨(Nat.le_of_ble_eq_true rfl), (Nat.le_of_ble_eq_true rfl)⟩) hP hD hS hA [] rfl (fun H locs hP hS => ?_)
    refine lv_if_eq (tgt := 37) hx hb dX6_loft_21 (by decide) (fun c_5 => ?_) (fun c_5 => ?_)
    · replace hF := if_t hF c_5
      refine lv_aload_n hx hb dX6_loft_37 rfl (lv_at hl 0 rfl) ?_
      refine lv_iconst (v := 1) hx hb dX6_loft_38 (by decide) ?_
      replace hF := bnd_some hF
      obtain ⟨z6, hz_6, hF⟩ := hF
      refine kwIE (kV (As := [.int 1]) ⟨hx, hb, hml, hown, hts⟩ (kX6_fail l D cy sa h 0 pairs teams water vats moulds crews posts loft nums 1 z6 hz_6 _) (cwV 1 hts gX6_loft_X6_fail rfl rfl rfl (by decide +kernel) ⟨Nat.le_of_ble_eq_true rfl, Nat.le_of_ble_eq_true rfl⟩) hK hP hD hS hA hG [0, 1, 2, 3, 4, 5, 6, 7] hcX6_X6_0 ndX6_0 gtX6_0 rfl rfl rfl hl.1 [] rfl (Nat.le_of_ble_eq_true rfl) dX6_loft_39 ⟨(Nat.le_of_ble_eq_true rfl), (Nat.le_of_ble_eq_true rfl)⟩) hP hD hS hA [0, 1, 2, 3, 4, 5, 6, 7] hcX6_X6_0 hmX6 kpX6_X6_0 (fun H locs hP hD hS => ?_)
      cases hF
      exact hQ _ _ _ _ _ _ (fun _ => 0) dX6_loft_42 hP hD hS (Nat.le_of_ble_eq_true rfl) (Nat.le_of_ble_eq_true rfl)
    · replace hF := if_f hF c_5
      refine lv_aload_n hx hb dX6_loft_24 rfl (lv_at hl 0 rfl) ?_
      refine va_get (D := D) (C := RX6) (T := TX6) (N := 10) hx hb hts hiX6 hown hK hP 0 gtX6_0 rfl 8 (by decide) hf25 (fun _ h9 => h9) rfl dX6_loft_25 ?_
      refine lv_iconst (v := 3) hx hb dX6_loft_28 (by decide) ?_
      refine lv_iload_n hx hb dX6_loft_29 rfl (lv_at hl 1 rfl) ?_
      refine lv_imul hx hb dX6_loft_30 ?_
      refine lv_iload_n hx hb dX6_loft_31 rfl (lv_at hl 2 rfl) ?_
      refine lv_iadd hx hb dX6_loft_32 ?_
      replace hF := ckI_some hF
      obtain ⟨hi_7, hF⟩ := hF
      refine va_iald hx hb hK hP 6 0 gtX6_6 rfl hi_7 dX6_loft_33 ?_
      refine lv_goto (tgt := 42) hx hb dX6_loft_34 (by decide) ?_
      cases hF
      exact hQ _ _ _ _ _ _ (fun _ => 0) dX6_loft_42 hP hD hS (Nat.le_of_ble_eq_true rfl) (Nat.le_of_ble_eq_true rfl)

def fX6_counted_L111 (loft : FN) : Nat → Int32 → Int32 → Int32 → Option (Int32)
  | 0, _, _, _ => none
  | k + 1, x2_111, x4_111, x5_111 => if x4_111 ≤ x5_111 then some x2_111 else ckI x5_111 30 (fX6_counted_L111 loft k (x2_111 + (loft x5_111.toNatClampNeg)) x4_111 (x5_111 + 1))
def fX6_counted_L139 (vats : FN) : Nat → Int32 → Int32 → Option (Int32)
  | 0, _, _ => none
  | k + 1, x2_139, x3_139 => if 4 ≤ x3_139 then some x2_139 else (fX6_va vats x3_139 0).bind fun z21 => fX6_counted_L139 vats k (x2_139 + z21) (x3_139 + 1)
def fX6_counted (vats : FN) (posts : FN) (loft : FN) (nums : FN) (a1 : Int32) : Option (Int32) := if (a1.toInt < 0 ∨ 8 < a1.toInt) then ckI ((6 + a1) - 9) 9 (some (nums ((6 + a1) - 9).toNatClampNeg)) else if a1.toInt = 0 then some (nums (0 : Int32).toNatClampNeg) else if a1.toInt = 1 then some (nums (1 : Int32).toNatClampNeg) else if a1.toInt = 2 then some (nums (2 : Int32).toNatClampNeg) else if a1.toInt = 3 then (fX6_free posts nums).bind fun z10 => some z10 else if a1.toInt = 4 then some (nums (3 : Int32).toNatClampNeg) else if a1.toInt = 5 then some (nums (4 : Int32).toNatClampNeg) else if a1.toInt = 6 then some (nums (5 : Int32).toNatClampNeg) else if a1.toInt = 7 then fX6_counted_L111 loft 300 0 30 0 else fX6_counted_L139 vats 300 0 0
abbrev rX6_counted : Room := { frames := 3, cells := 0, slots := 0, locals := 64 }
set_option maxHeartbeats 4000000 in
set_option maxRecDepth 100000 in
theorem kX6_counted (l : Launch) (D : va_G) (cy : Nat → ClassId) (sa : Nat → Nat) (h : Nat → Nat) (thrown : Int32) (pairs : Int32) (teams : Int32) (water : FN) (vats : FN) (moulds : FN) (crews : FN) (posts : FN) (loft : FN) (nums : FN) (a1 : Int32) (z : Int32) (hF : fX6_counted vats posts loft nums a1 = some z) : KI l D (tyW cy) sa yX6_counted wsX6_counted rX6_counted [.ref (h 0), .int a1] (wX6 cy h thrown pairs teams water vats moulds crews posts loft nums) z (fun _ => wX6 cy h thrown pairs teams water vats moulds crews posts loft nums) 0 0 := by
  refine KI.of (cc := cX6_counted) (maxL := 7) (by decide +kernel) rfl (Nat.le_of_ble_eq_true rfl) ?_
  intro p e s m args below meth c A ls Q hE hQ
  obtain ⟨hx, hb, hml, hown, hts, hA, hP, hK, hD, hG, hl, hnm⟩ := hE
  replace hown : s.vm.findClass RX6 = some m.cls := hown
  have hiX6 : ∀ w ∈ u_ws RX6 TX6 10, w ∈ wsX6_counted := by decide +kernel
  have hf25 : (Cond.fieldLink RX6 25 "RagVatsModel" "loft" "[I").before args s = true := hts _ (by decide +kernel)
  have hf28 : (Cond.fieldLink RX6 28 "RagVatsModel" "numbers" "[I").before args s = true := hts _ (by decide +kernel)
  replace hl : lv_has ls 7 [(0, .ref (h 0)), (1, .int a1)] := hl
  have hS : va_S A s.heap s.heap [] := va_S.rf
  have L111 : ∀ (k : Nat) (x2_111 : Int32) (x4_111 : Int32) (x5_111 : Int32), fX6_counted_L111 loft k x2_111 x4_111 x5_111 = some z → ∀ (H : Heap) (locs : List Loc) (ls : Array Slot), va_P D vwCl (wX6 cy h thrown pairs teams water vats moulds crews posts loft nums) H → va_D A (wX6 cy h thrown pairs teams water vats moulds crews posts loft nums) → va_S A s.heap H locs → lv_has ls 7 [(2, .int x2_111), (3, .ref (h 6)), (4, .int x4_111), (5, .int x5_111)] → W p l e rX6_counted s m args below meth c H locs 0 0 Q (F0 m 111 ls []) := by
    intro k
    induction k with
    | zero =>
      intro x2_111 x4_111 x5_111 hF
      rw [fX6_counted_L111] at hF
      cases hF
    | succ k ih =>
      intro x2_111 x4_111 x5_111 hF H locs ls hP hD hS hl
      rw [fX6_counted_L111] at hF
      refine lv_iload hx hb dX6_counted_111 (lv_at hl 3 rfl) ?_
      refine lv_iload hx hb dX6_counted_113 (lv_at hl 2 rfl) ?_
      refine lv_icmp_ge (tgt := 135) hx hb dX6_counted_115 (by decide) (fun c_18 => ?_) (fun c_18 => ?_)
      · replace hF := if_t hF c_18
        refine lv_iload_n hx hb dX6_counted_135 rfl (lv_at hl 0 rfl) ?_
        cases hF
        exact hQ _ _ _ _ _ _ (fun _ => 0) dX6_counted_136 hP hD hS (Nat.le_of_ble_eq_true rfl) (Nat.le_of_ble_eq_true rfl)
      · replace hF := if_f hF c_18
        refine lv_aload_n hx hb dX6_counted_118 rfl (lv_at hl 1 rfl) ?_
        refine lv_iload hx hb dX6_counted_119 (lv_at hl 3 rfl) ?_
        replace hF := ckI_some hF
        obtain ⟨hi_19, hF⟩ := hF
        refine va_iald hx hb hK hP 6 0 gtX6_6 rfl hi_19 dX6_counted_121 ?_
        refine lv_istore (lv' := [(6, .int (loft x5_111.toNatClampNeg)), (2, .int x2_111), (3, .ref (h 6)), (4, .int x4_111), (5, .int x5_111)]) hx hb dX6_counted_122 hl (by decide) rfl (fun ls hl => ?_)
        refine lv_iload_n hx hb dX6_counted_124 rfl (lv_at hl 1 rfl) ?_
        refine lv_iload hx hb dX6_counted_125 (lv_at hl 0 rfl) ?_
        refine lv_iadd hx hb dX6_counted_127 ?_
        refine lv_istore_n (lv' := [(2, .int (x2_111 + (loft x5_111.toNatClampNeg))), (6, .int (loft x5_111.toNatClampNeg)), (3, .ref (h 6)), (4, .int x4_111), (5, .int x5_111)]) hx hb dX6_counted_128 rfl hl (by decide) rfl (fun ls hl => ?_)
        refine lv_iinc (v := x5_111 + 1) (lv' := [(5, .int (x5_111 + 1)), (2, .int (x2_111 + (loft x5_111.toNatClampNeg))), (6, .int (loft x5_111.toNatClampNeg)), (3, .ref (h 6)), (4, .int x4_111)]) hx hb dX6_counted_129 hl (k := 4) rfl rfl (by decide) rfl (fun ls hl => ?_)
        refine lv_goto (tgt := 111) hx hb dX6_counted_132 (by decide) ?_
        exact ih  (x2_111 + (loft x5_111.toNatClampNeg)) x4_111 (x5_111 + 1)  hF _ _ _ hP hD hS (lv_sub hl [1, 3, 4, 0] rfl)
  have L139 : ∀ (k : Nat) (x2_139 : Int32) (x3_139 : Int32), fX6_counted_L139 vats k x2_139 x3_139 = some z → ∀ (H : Heap) (locs : List Loc) (ls : Array Slot), va_P D vwCl (wX6 cy h thrown pairs teams water vats moulds crews posts loft nums) H → va_D A (wX6 cy h thrown pairs teams water vats moulds crews posts loft nums) → va_S A s.heap H locs → lv_has ls 7 [(0, .ref (h 0)), (2, .int x2_139), (3, .int x3_139)] → W p l e rX6_counted s m args below meth c H locs 0 0 Q (F0 m 139 ls []) := by
    intro k
    induction k with
    | zero =>
      intro x2_139 x3_139 hF
      rw [fX6_counted_L139] at hF
      cases hF
    | succ k ih =>
      intro x2_139 x3_139 hF H locs ls hP hD hS hl
      rw [fX6_counted_L139] at hF
      refine lv_iload_n hx hb dX6_counted_139 rfl (lv_at hl 2 rfl) ?_
      refine lv_iconst (v := 4) hx hb dX6_counted_140 (by decide) ?_
      refine lv_icmp_ge (tgt := 159) hx hb dX6_counted_141 (by decide) (fun c_20 => ?_) (fun c_20 => ?_)
      · replace hF := if_t hF c_20
        refine lv_iload_n hx hb dX6_counted_159 rfl (lv_at hl 1 rfl) ?_
        cases hF
        exact hQ _ _ _ _ _ _ (fun _ => 0) dX6_counted_160 hP hD hS (Nat.le_of_ble_eq_true rfl) (Nat.le_of_ble_eq_true rfl)
      · replace hF := if_f hF c_20
        refine lv_iload_n hx hb dX6_counted_144 rfl (lv_at hl 1 rfl) ?_
        refine lv_aload_n hx hb dX6_counted_145 rfl (lv_at hl 0 rfl) ?_
        refine lv_iload_n hx hb dX6_counted_146 rfl (lv_at hl 2 rfl) ?_
        refine lv_iconst (v := 0) hx hb dX6_counted_147 (by decide) ?_
        replace hF := bnd_some hF
        obtain ⟨z21, hz_21, hF⟩ := hF
        refine krI (kV (As := [.int x3_139, .int 0]) ⟨hx, hb, hml, hown, hts⟩ (kX6_va l D cy sa h thrown pairs teams water vats moulds crews posts loft nums x3_139 0 z21 hz_21 _) (cwV 2 hts gX6_counted_X6_va rfl rfl rfl (by decide +kernel) ⟨Nat.le_of_ble_eq_true rfl, Nat.le_of_ble_eq_true rfl⟩) hK hP hD hS hA hG [0, 1, 2, 3, 4, 5, 6, 7] hcX6_X6_0 ndX6_0 gtX6_0 rfl rfl rfl hl.1 [.int x2_139] rfl (Nat.le_of_ble_eq_true rfl) dX6_counted_148 ⟨(Nat.le_of_ble_eq_true rfl), (Nat.le_of_ble_eq_true rfl)⟩) hP hD hS hA [0, 1, 2, 3, 4, 5, 6, 7] hcX6_X6_0 (fun H locs hP hS => ?_)
        refine lv_iadd hx hb dX6_counted_151 ?_
        refine lv_istore_n (lv' := [(2, .int (x2_139 + z21)), (0, .ref (h 0)), (3, .int x3_139)]) hx hb dX6_counted_152 rfl hl (by decide) rfl (fun ls hl => ?_)
        refine lv_iinc (v := x3_139 + 1) (lv' := [(3, .int (x3_139 + 1)), (2, .int (x2_139 + z21)), (0, .ref (h 0))]) hx hb dX6_counted_153 hl (k := 2) rfl rfl (by decide) rfl (fun ls hl => ?_)
        refine lv_goto (tgt := 139) hx hb dX6_counted_156 (by decide) ?_
        exact ih  (x2_139 + z21) (x3_139 + 1)  hF _ _ _ hP hD hS (lv_sub hl [2, 1, 0] rfl)
  unfold fX6_counted at hF
  refine lv_iconst (v := 0) hx hb dX6_counted_0 (by decide) ?_
  refine lv_istore_n (lv' := [(2, .int 0), (0, .ref (h 0)), (1, .int a1)]) hx hb dX6_counted_1 rfl hl (by decide) rfl (fun ls hl => ?_)
  refine lv_iload_n hx hb dX6_counted_2 rfl (lv_at hl 2 rfl) ?_
  by_cases c_1 : a1.toInt < 0 ∨ 8 < a1.toInt
  · replace hF := if_t hF c_1
    refine lv_tableOut (tgt := 161) hx hb dX6_counted_3 c_1 (by decide) ?_
    refine lv_aload_n hx hb dX6_counted_161 rfl (lv_at hl 1 rfl) ?_
    refine va_get (D := D) (C := RX6) (T := TX6) (N := 10) hx hb hts hiX6 hown hK hP 0 gtX6_0 rfl 9 (by decide) hf28 (fun _ h9 => h9) rfl dX6_counted_162 ?_
    refine lv_bipush (v := 6) hx hb dX6_counted_165 (by decide) ?_
    refine lv_iload_n hx hb dX6_counted_167 rfl (lv_at hl 2 rfl) ?_
    refine lv_iadd hx hb dX6_counted_168 ?_
    refine lv_bipush (v := 9) hx hb dX6_counted_169 (by decide) ?_
    refine lv_isub hx hb dX6_counted_171 ?_
    replace hF := ckI_some hF
    obtain ⟨hi_2, hF⟩ := hF
    refine va_iald hx hb hK hP 7 0 gtX6_7 rfl hi_2 dX6_counted_172 ?_
    cases hF
    exact hQ _ _ _ _ _ _ (fun _ => 0) dX6_counted_173 hP hD hS (Nat.le_of_ble_eq_true rfl) (Nat.le_of_ble_eq_true rfl)
  · replace hF := if_f hF c_1
    by_cases c_3 : a1.toInt = 0
    · replace hF := if_t hF c_3
      refine lv_tableIn (off := 49) (tgt := 52) hx hb dX6_counted_3 (fun h9 => c_1 (Or.inl h9)) (fun h9 => c_1 (Or.inr h9)) (by rw [c_3] <;> rfl) (by decide) ?_
      refine lv_aload_n hx hb dX6_counted_52 rfl (lv_at hl 1 rfl) ?_
      refine va_get (D := D) (C := RX6) (T := TX6) (N := 10) hx hb hts hiX6 hown hK hP 0 gtX6_0 rfl 9 (by decide) hf28 (fun _ h9 => h9) rfl dX6_counted_53 ?_
      refine lv_iconst (v := 0) hx hb dX6_counted_56 (by decide) ?_
      refine va_iald hx hb hK hP 7 0 gtX6_7 rfl (show ¬ ((0 : Int32) < 0 ∨ 9 ≤ (0 : Int32).toNatClampNeg) from by decide) dX6_counted_57 ?_
      cases hF
      exact hQ _ _ _ _ _ _ (fun _ => 0) dX6_counted_58 hP hD hS (Nat.le_of_ble_eq_true rfl) (Nat.le_of_ble_eq_true rfl)
    · replace hF := if_f hF c_3
      by_cases c_5 : a1.toInt = 1
      · replace hF := if_t hF c_5
        refine lv_tableIn (off := 56) (tgt := 59) hx hb dX6_counted_3 (fun h9 => c_1 (Or.inl h9)) (fun h9 => c_1 (Or.inr h9)) (by rw [c_5] <;> rfl) (by decide) ?_
        refine lv_aload_n hx hb dX6_counted_59 rfl (lv_at hl 1 rfl) ?_
        refine va_get (D := D) (C := RX6) (T := TX6) (N := 10) hx hb hts hiX6 hown hK hP 0 gtX6_0 rfl 9 (by decide) hf28 (fun _ h9 => h9) rfl dX6_counted_60 ?_
        refine lv_iconst (v := 1) hx hb dX6_counted_63 (by decide) ?_
        refine va_iald hx hb hK hP 7 0 gtX6_7 rfl (show ¬ ((1 : Int32) < 0 ∨ 9 ≤ (1 : Int32).toNatClampNeg) from by decide) dX6_counted_64 ?_
        cases hF
        exact hQ _ _ _ _ _ _ (fun _ => 0) dX6_counted_65 hP hD hS (Nat.le_of_ble_eq_true rfl) (Nat.le_of_ble_eq_true rfl)
      · replace hF := if_f hF c_5
        by_cases c_7 : a1.toInt = 2
        · replace hF := if_t hF c_7
          refine lv_tableIn (off := 63) (tgt := 66) hx hb dX6_counted_3 (fun h9 => c_1 (Or.inl h9)) (fun h9 => c_1 (Or.inr h9)) (by rw [c_7] <;> rfl) (by decide) ?_
          refine lv_aload_n hx hb dX6_counted_66 rfl (lv_at hl 1 rfl) ?_
          refine va_get (D := D) (C := RX6) (T := TX6) (N := 10) hx hb hts hiX6 hown hK hP 0 gtX6_0 rfl 9 (by decide) hf28 (fun _ h9 => h9) rfl dX6_counted_67 ?_
          refine lv_iconst (v := 2) hx hb dX6_counted_70 (by decide) ?_
          refine va_iald hx hb hK hP 7 0 gtX6_7 rfl (show ¬ ((2 : Int32) < 0 ∨ 9 ≤ (2 : Int32).toNatClampNeg) from by decide) dX6_counted_71 ?_
          cases hF
          exact hQ _ _ _ _ _ _ (fun _ => 0) dX6_counted_72 hP hD hS (Nat.le_of_ble_eq_true rfl) (Nat.le_of_ble_eq_true rfl)
        · replace hF := if_f hF c_7
          by_cases c_9 : a1.toInt = 3
          · replace hF := if_t hF c_9
            refine lv_tableIn (off := 70) (tgt := 73) hx hb dX6_counted_3 (fun h9 => c_1 (Or.inl h9)) (fun h9 => c_1 (Or.inr h9)) (by rw [c_9] <;> rfl) (by decide) ?_
            refine lv_aload_n hx hb dX6_counted_73 rfl (lv_at hl 1 rfl) ?_
            replace hF := bnd_some hF
            obtain ⟨z10, hz_10, hF⟩ := hF
            refine krI (kV (As := []) ⟨hx, hb, hml, hown, hts⟩ (kX6_free l D cy sa h thrown pairs teams water vats moulds crews posts loft nums z10 hz_10 _) (cwV 0 hts gX6_counted_X6_free rfl rfl rfl (by decide +kernel) ⟨Nat.le_of_ble_eq_true rfl, Nat.le_of_ble_eq_true rfl⟩) hK hP hD hS hA hG [0, 1, 2, 3, 4, 5, 6, 7] hcX6_X6_0 ndX6_0 gtX6_0 rfl rfl rfl hl.1 [] rfl (Nat.le_of_ble_eq_true rfl) dX6_counted_74 ⟨(Nat.le_of_ble_eq_true rfl), (Nat.le_of_ble_eq_true rfl)⟩) hP hD hS hA [0, 1, 2, 3, 4, 5, 6, 7] hcX6_X6_0 (fun H locs hP hS => ?_)
            cases hF
            exact hQ _ _ _ _ _ _ (fun _ => 0) dX6_counted_77 hP hD hS (Nat.le_of_ble_eq_true rfl) (Nat.le_of_ble_eq_true rfl)
          · replace hF := if_f hF c_9
            by_cases c_11 : a1.toInt = 4
            · replace hF := if_t hF c_11
              refine lv_tableIn (off := 75) (tgt := 78) hx hb dX6_counted_3 (fun h9 => c_1 (Or.inl h9)) (fun h9 => c_1 (Or.inr h9)) (by rw [c_11] <;> rfl) (by decide) ?_
              refine lv_aload_n hx hb dX6_counted_78 rfl (lv_at hl 1 rfl) ?_
              refine va_get (D := D) (C := RX6) (T := TX6) (N := 10) hx hb hts hiX6 hown hK hP 0 gtX6_0 rfl 9 (by decide) hf28 (fun _ h9 => h9) rfl dX6_counted_79 ?_
              refine lv_iconst (v := 3) hx hb dX6_counted_82 (by decide) ?_
              refine va_iald hx hb hK hP 7 0 gtX6_7 rfl (show ¬ ((3 : Int32) < 0 ∨ 9 ≤ (3 : Int32).toNatClampNeg) from by decide) dX6_counted_83 ?_
              cases hF
              exact hQ _ _ _ _ _ _ (fun _ => 0) dX6_counted_84 hP hD hS (Nat.le_of_ble_eq_true rfl) (Nat.le_of_ble_eq_true rfl)
            · replace hF := if_f hF c_11
              by_cases c_13 : a1.toInt = 5
              · replace hF := if_t hF c_13
                refine lv_tableIn (off := 82) (tgt := 85) hx hb dX6_counted_3 (fun h9 => c_1 (Or.inl h9)) (fun h9 => c_1 (Or.inr h9)) (by rw [c_13] <;> rfl) (by decide) ?_
                refine lv_aload_n hx hb dX6_counted_85 rfl (lv_at hl 1 rfl) ?_
                refine va_get (D := D) (C := RX6) (T := TX6) (N := 10) hx hb hts hiX6 hown hK hP 0 gtX6_0 rfl 9 (by decide) hf28 (fun _ h9 => h9) rfl dX6_counted_86 ?_
                refine lv_iconst (v := 4) hx hb dX6_counted_89 (by decide) ?_
                refine va_iald hx hb hK hP 7 0 gtX6_7 rfl (show ¬ ((4 : Int32) < 0 ∨ 9 ≤ (4 : Int32).toNatClampNeg) from by decide) dX6_counted_90 ?_
                cases hF
                exact hQ _ _ _ _ _ _ (fun _ => 0) dX6_counted_91 hP hD hS (Nat.le_of_ble_eq_true rfl) (Nat.le_of_ble_eq_true rfl)
              · replace hF := if_f hF c_13
                by_cases c_15 : a1.toInt = 6
                · replace hF := if_t hF c_15
                  refine lv_tableIn (off := 89) (tgt := 92) hx hb dX6_counted_3 (fun h9 => c_1 (Or.inl h9)) (fun h9 => c_1 (Or.inr h9)) (by rw [c_15] <;> rfl) (by decide) ?_
                  refine lv_aload_n hx hb dX6_counted_92 rfl (lv_at hl 1 rfl) ?_
                  refine va_get (D := D) (C := RX6) (T := TX6) (N := 10) hx hb hts hiX6 hown hK hP 0 gtX6_0 rfl 9 (by decide) hf28 (fun _ h9 => h9) rfl dX6_counted_93 ?_
                  refine lv_iconst (v := 5) hx hb dX6_counted_96 (by decide) ?_
                  refine va_iald hx hb hK hP 7 0 gtX6_7 rfl (show ¬ ((5 : Int32) < 0 ∨ 9 ≤ (5 : Int32).toNatClampNeg) from by decide) dX6_counted_97 ?_
                  cases hF
                  exact hQ _ _ _ _ _ _ (fun _ => 0) dX6_counted_98 hP hD hS (Nat.le_of_ble_eq_true rfl) (Nat.le_of_ble_eq_true rfl)
                · replace hF := if_f hF c_15
                  by_cases c_17 : a1.toInt = 7
                  · replace hF := if_t hF c_17
                    refine lv_tableIn (off := 96) (tgt := 99) hx hb dX6_counted_3 (fun h9 => c_1 (Or.inl h9)) (fun h9 => c_1 (Or.inr h9)) (by rw [c_17] <;> rfl) (by decide) ?_
                    refine lv_aload_n hx hb dX6_counted_99 rfl (lv_at hl 1 rfl) ?_
                    refine va_get (D := D) (C := RX6) (T := TX6) (N := 10) hx hb hts hiX6 hown hK hP 0 gtX6_0 rfl 8 (by decide) hf25 (fun _ h9 => h9) rfl dX6_counted_100 ?_
                    refine lv_astore_n (lv' := [(3, .ref (h 6)), (2, .int 0), (0, .ref (h 0)), (1, .int a1)]) hx hb dX6_counted_103 rfl hl (by decide) rfl (fun ls hl => ?_)
                    refine lv_aload_n hx hb dX6_counted_104 rfl (lv_at hl 0 rfl) ?_
                    refine va_alen (v := 30) hx hb hK hP 6 0 gtX6_6 rfl rfl dX6_counted_105 ?_
                    refine lv_istore (lv' := [(4, .int 30), (3, .ref (h 6)), (2, .int 0), (0, .ref (h 0)), (1, .int a1)]) hx hb dX6_counted_106 hl (by decide) rfl (fun ls hl => ?_)
                    refine lv_iconst (v := 0) hx hb dX6_counted_108 (by decide) ?_
                    refine lv_istore (lv' := [(5, .int 0), (4, .int 30), (3, .ref (h 6)), (2, .int 0), (0, .ref (h 0)), (1, .int a1)]) hx hb dX6_counted_109 hl (by decide) rfl (fun ls hl => ?_)
                    exact L111 300 0 30 0  hF _ _ _ hP hD hS (lv_sub hl [3, 2, 1, 0] rfl)
                  · replace hF := if_f hF c_17
                    refine lv_tableIn (off := 134) (tgt := 137) hx hb dX6_counted_3 (fun h9 => c_1 (Or.inl h9)) (fun h9 => c_1 (Or.inr h9)) (by rw [show (a1).toInt = 8 by omega] <;> rfl) (by decide) ?_
                    refine lv_iconst (v := 0) hx hb dX6_counted_137 (by decide) ?_
                    refine lv_istore_n (lv' := [(3, .int 0), (2, .int 0), (0, .ref (h 0)), (1, .int a1)]) hx hb dX6_counted_138 rfl hl (by decide) rfl (fun ls hl => ?_)
                    exact L139 300 0 0  hF _ _ _ hP hD hS (lv_sub hl [2, 1, 0] rfl)

def fX6_count (vats : FN) (posts : FN) (loft : FN) (nums : FN) (a1 : Int32) : Option (Int32 × Int32) := (fX6_isIn a1 0 11).bind fun z1 => if z1 = 0 then (fX6_fail 1).bind fun z3 => some (z3.1, z3.2) else (fX6_counted vats posts loft nums a1).bind fun z4 => some (z4, 0)
abbrev rX6_count : Room := { frames := 4, cells := 0, slots := 0, locals := 90 }
set_option maxHeartbeats 4000000 in
set_option maxRecDepth 100000 in
theorem kX6_count (l : Launch) (D : va_G) (cy : Nat → ClassId) (sa : Nat → Nat) (h : Nat → Nat) (thrown : Int32) (pairs : Int32) (teams : Int32) (water : FN) (vats : FN) (moulds : FN) (crews : FN) (posts : FN) (loft : FN) (nums : FN) (a1 : Int32) (z : Int32 × Int32) (hF : fX6_count vats posts loft nums a1 = some z) : KI l D (tyW cy) sa yX6_count wsX6_count rX6_count [.ref (h 0), .int a1] (wX6 cy h thrown pairs teams water vats moulds crews posts loft nums) z.1 (fun _ => wX6 cy h z.2 pairs teams water vats moulds crews posts loft nums) 0 0 := by
  refine KI.of (cc := cX6_count) (maxL := 2) (by decide +kernel) rfl (Nat.le_of_ble_eq_true rfl) ?_
  intro p e s m args below meth c A ls Q hE hQ
  obtain ⟨hx, hb, hml, hown, hts, hA, hP, hK, hD, hG, hl, hnm⟩ := hE
  replace hown : s.vm.findClass RX6 = some m.cls := hown
  have hiX6 : ∀ w ∈ u_ws RX6 TX6 10, w ∈ wsX6_count := by decide +kernel
  have hf31 : (Cond.fieldLink RX6 31 "RagVatsModel" "thrown" "I").before args s = true := hts _ (by decide +kernel)
  replace hl : lv_has ls 2 [(0, .ref (h 0)), (1, .int a1)] := hl
  have hS : va_S A s.heap s.heap [] := va_S.rf
  unfold fX6_count at hF
  refine lv_aload_n hx hb dX6_count_0 rfl (lv_at hl 0 rfl) ?_
  refine lv_iconst (v := 0) hx hb dX6_count_1 (by decide) ?_
  refine va_put (D := D) (v := .int 0) (ty := .int) (C := RX6) (T := TX6) (N := 10) hx hb hts hiX6 tyX6 tyX6_ok nmX6 hown hK hP hD hS 0 gtX6_0 rfl 0 (by decide) hf31 (fun _ h9 => h9) rfl (by decide +kernel) rfl rfl (Nat.le_of_ble_eq_true rfl) dX6_count_2 (fun H locs hP hD hS => ?_)
  rw [stX6_0_0] at hP hD
  refine lv_iload_n hx hb dX6_count_5 rfl (lv_at hl 1 rfl) ?_
  refine lv_iconst (v := 0) hx hb dX6_count_6 (by decide) ?_
  refine lv_bipush (v := 11) hx hb dX6_count_7 (by decide) ?_
  replace hF := bnd_some hF
  obtain ⟨z1, hz_1, hF⟩ := hF
  refine krI (kS (As := [.int a1, .int 0, .int 11]) ⟨hx, hb, hml, hown, hts⟩ (kX6_isIn l D cy sa a1 0 11 z1 hz_1 _) (cwS 3 hts gX6_count_X6_isIn rfl rfl rfl (by decide +kernel) ⟨Nat.le_of_ble_eq_true rfl, Nat.le_of_ble_eq_true rfl⟩) hK hP hD hS hA hG [] rfl rfl rfl hl.1 [] rfl (Nat.le_of_ble_eq_true rfl) dX6_count_9 ⟨(Nat.le_of_ble_eq_true rfl), (Nat.le_of_ble_eq_true rfl)⟩) hP hD hS hA [] rfl (fun H locs hP hS => ?_)
  refine lv_if_eq (tgt := 23) hx hb dX6_count_12 (by decide) (fun c_2 => ?_) (fun c_2 => ?_)
  · replace hF := if_t hF c_2
    refine lv_aload_n hx hb dX6_count_23 rfl (lv_at hl 0 rfl) ?_
    refine lv_iconst (v := 1) hx hb dX6_count_24 (by decide) ?_
    replace hF := bnd_some hF
    obtain ⟨z3, hz_3, hF⟩ := hF
    refine kwIE (kV (As := [.int 1]) ⟨hx, hb, hml, hown, hts⟩ (kX6_fail l D cy sa h 0 pairs teams water vats moulds crews posts loft nums 1 z3 hz_3 _) (cwV 1 hts gX6_count_X6_fail rfl rfl rfl (by decide +kernel) ⟨Nat.le_of_ble_eq_true rfl, Nat.le_of_ble_eq_true rfl⟩) hK hP hD hS hA hG [0, 1, 2, 3, 4, 5, 6, 7] hcX6_X6_0 ndX6_0 gtX6_0 rfl rfl rfl hl.1 [] rfl (Nat.le_of_ble_eq_true rfl) dX6_count_25 ⟨(Nat.le_of_ble_eq_true rfl), (Nat.le_of_ble_eq_true rfl)⟩) hP hD hS hA [0, 1, 2, 3, 4, 5, 6, 7] hcX6_X6_0 hmX6 kpX6_X6_0 (fun H locs hP hD hS => ?_)
    cases hF
    exact hQ _ _ _ _ _ _ (fun _ => 0) dX6_count_28 hP hD hS (Nat.le_of_ble_eq_true rfl) (Nat.le_of_ble_eq_true rfl)
  · replace hF := if_f hF c_2
    refine lv_aload_n hx hb dX6_count_15 rfl (lv_at hl 0 rfl) ?_
    refine lv_iload_n hx hb dX6_count_16 rfl (lv_at hl 1 rfl) ?_
    replace hF := bnd_some hF
    obtain ⟨z4, hz_4, hF⟩ := hF
    refine krI (kV (As := [.int a1]) ⟨hx, hb, hml, hown, hts⟩ (kX6_counted l D cy sa h 0 pairs teams water vats moulds crews posts loft nums a1 z4 hz_4 _) (cwV 1 hts gX6_count_X6_counted rfl rfl rfl (by decide +kernel) ⟨Nat.le_of_ble_eq_true rfl, Nat.le_of_ble_eq_true rfl⟩) hK hP hD hS hA hG [0, 1, 2, 3, 4, 5, 6, 7] hcX6_X6_0 ndX6_0 gtX6_0 rfl rfl rfl hl.1 [] rfl (Nat.le_of_ble_eq_true rfl) dX6_count_17 ⟨(Nat.le_of_ble_eq_true rfl), (Nat.le_of_ble_eq_true rfl)⟩) hP hD hS hA [0, 1, 2, 3, 4, 5, 6, 7] hcX6_X6_0 (fun H locs hP hS => ?_)
    refine lv_goto (tgt := 28) hx hb dX6_count_20 (by decide) ?_
    cases hF
    exact hQ _ _ _ _ _ _ (fun _ => 0) dX6_count_28 hP hD hS (Nat.le_of_ble_eq_true rfl) (Nat.le_of_ble_eq_true rfl)

def fX6_beat_L34 (water : FN) (nums : FN) : Nat → FN → Int32 → Int32 → Option (FN)
  | 0, _, _, _ => none
  | k + 1, vats_34, x1_34, x2_34 => if 4 ≤ x2_34 then some vats_34 else (fX6_va vats_34 x2_34 0).bind fun z3 => if z3 ≤ 0 then fX6_beat_L34 water nums k vats_34 x1_34 (x2_34 + 1) else (fX6_va vats_34 x2_34 0).bind fun z5 => (fX6_va vats_34 x2_34 1).bind fun z6 => ckI ((nums (0 : Int32).toNatClampNeg) - (nums (0 : Int32).toNatClampNeg) / 7 * 7) 7 (ckZ x1_34 ((fX6_va vats_34 x2_34 2).bind fun z10 => (fX6_let vats_34 x2_34 z5 (if (z6 + ((3 * (water ((nums (0 : Int32).toNatClampNeg) - (nums (0 : Int32).toNatClampNeg) / 7 * 7).toNatClampNeg)) / x1_34)) < 99 then (z6 + ((3 * (water ((nums (0 : Int32).toNatClampNeg) - (nums (0 : Int32).toNatClampNeg) / 7 * 7).toNatClampNeg)) / x1_34)) else 99) z10).bind fun z11 => fX6_beat_L34 water nums k z11 x1_34 (x2_34 + 1)))
def fX6_beat_L4 (water : FN) (vats : FN) (nums : FN) : Nat → Int32 → Int32 → Option (FN)
  | 0, _, _ => none
  | k + 1, x1_4, x2_4 => if 4 ≤ x2_4 then fX6_beat_L34 water nums 300 vats x1_4 0 else (fX6_va vats x2_4 0).bind fun z12 => if z12 ≤ 0 then fX6_beat_L4 water vats nums k (x1_4 + 0) (x2_4 + 1) else fX6_beat_L4 water vats nums k (x1_4 + 1) (x2_4 + 1)
def fX6_beat (water : FN) (vats : FN) (nums : FN) : Option (FN) := fX6_beat_L4 water vats nums 300 0 0
abbrev rX6_beat : Room := { frames := 1, cells := 0, slots := 0, locals := 30 }
set_option maxHeartbeats 4000000 in
set_option maxRecDepth 100000 in
theorem kX6_beat (l : Launch) (D : va_G) (cy : Nat → ClassId) (sa : Nat → Nat) (h : Nat → Nat) (thrown : Int32) (pairs : Int32) (teams : Int32) (water : FN) (vats : FN) (moulds : FN) (crews : FN) (posts : FN) (loft : FN) (nums : FN) (z : FN) (hF : fX6_beat water vats nums = some z) : KV l D (tyW cy) sa yX6_beat wsX6_beat rX6_beat [.ref (h 0)] (wX6 cy h thrown pairs teams water vats moulds crews posts loft nums) (fun _ => wX6 cy h thrown pairs teams water z moulds crews posts loft nums) 0 0 := by
  refine KV.of (cc := cX6_beat) (maxL := 3) (by decide +kernel) rfl (Nat.le_of_ble_eq_true rfl) ?_
  intro p e s m args below meth c A ls Q hE hQ
  obtain ⟨hx, hb, hml, hown, hts, hA, hP, hK, hD, hG, hl, hnm⟩ := hE
  replace hown : s.vm.findClass RX6 = some m.cls := hown
  have hiX6 : ∀ w ∈ u_ws RX6 TX6 10, w ∈ wsX6_beat := by decide +kernel
  have hf7 : (Cond.fieldLink RX6 7 "RagVatsModel" "water" "[I").before args s = true := hts _ (by decide +kernel)
  have hf28 : (Cond.fieldLink RX6 28 "RagVatsModel" "numbers" "[I").before args s = true := hts _ (by decide +kernel)
  replace hl : lv_has ls 3 [(0, .ref (h 0))] := hl
  have hS : va_S A s.heap s.heap [] := va_S.rf
  have L34 : ∀ (k : Nat) (vats_34 : FN) (x1_34 : Int32) (x2_34 : Int32), fX6_beat_L34 water nums k vats_34 x1_34 x2_34 = some z → ∀ (H : Heap) (locs : List Loc) (ls : Array Slot), va_P D vwCl (wX6 cy h thrown pairs teams water vats_34 moulds crews posts loft nums) H → va_D A (wX6 cy h thrown pairs teams water vats_34 moulds crews posts loft nums) → va_S A s.heap H locs → lv_has ls 3 [(0, .ref (h 0)), (1, .int x1_34), (2, .int x2_34)] → W p l e rX6_beat s m args below meth c H locs 0 0 Q (F0 m 34 ls []) := by
    intro k
    induction k with
    | zero =>
      intro vats_34 x1_34 x2_34 hF
      rw [fX6_beat_L34] at hF
      cases hF
    | succ k ih =>
      intro vats_34 x1_34 x2_34 hF H locs ls hP hD hS hl
      rw [fX6_beat_L34] at hF
      refine lv_iload_n hx hb dX6_beat_34 rfl (lv_at hl 2 rfl) ?_
      refine lv_iconst (v := 4) hx hb dX6_beat_35 (by decide) ?_
      refine lv_icmp_ge (tgt := 101) hx hb dX6_beat_36 (by decide) (fun c_2 => ?_) (fun c_2 => ?_)
      · replace hF := if_t hF c_2
        cases hF
        exact hQ _ _ _ _ _ _ (fun _ => 0) dX6_beat_101 hP hD hS (Nat.le_of_ble_eq_true rfl) (Nat.le_of_ble_eq_true rfl)
      · replace hF := if_f hF c_2
        refine lv_aload_n hx hb dX6_beat_39 rfl (lv_at hl 0 rfl) ?_
        refine lv_iload_n hx hb dX6_beat_40 rfl (lv_at hl 2 rfl) ?_
        refine lv_iconst (v := 0) hx hb dX6_beat_41 (by decide) ?_
        replace hF := bnd_some hF
        obtain ⟨z3, hz_3, hF⟩ := hF
        refine krI (kV (As := [.int x2_34, .int 0]) ⟨hx, hb, hml, hown, hts⟩ (kX6_va l D cy sa h thrown pairs teams water vats_34 moulds crews posts loft nums x2_34 0 z3 hz_3 _) (cwV 2 hts gX6_beat_X6_va rfl rfl rfl (by decide +kernel) ⟨Nat.le_of_ble_eq_true rfl, Nat.le_of_ble_eq_true rfl⟩) hK hP hD hS hA hG [0, 1, 2, 3, 4, 5, 6, 7] hcX6_X6_0 ndX6_0 gtX6_0 rfl rfl rfl hl.1 [] rfl (Nat.le_of_ble_eq_true rfl) dX6_beat_42 ⟨(Nat.le_of_ble_eq_true rfl), (Nat.le_of_ble_eq_true rfl)⟩) hP hD hS hA [0, 1, 2, 3, 4, 5, 6, 7] hcX6_X6_0 (fun H locs hP hS => ?_)
        refine lv_if_le (tgt := 95) hx hb dX6_beat_45 (by decide) (fun c_4 => ?_) (fun c_4 => ?_)
        · replace hF := if_t hF c_4
          refine lv_iinc (v := x2_34 + 1) (lv' := [(2, .int (x2_34 + 1)), (0, .ref (h 0)), (1, .int x1_34)]) hx hb dX6_beat_95 hl (k := 2) rfl rfl (by decide) rfl (fun ls hl => ?_)
          refine lv_goto (tgt := 34) hx hb dX6_beat_98 (by decide) ?_
          exact ih  vats_34 x1_34 (x2_34 + 1)  hF _ _ _ hP hD hS (lv_sub hl [1, 2, 0] rfl)
        · replace hF := if_f hF c_4
          refine lv_aload_n hx hb dX6_beat_48 rfl (lv_at hl 0 rfl) ?_
          refine lv_iload_n hx hb dX6_beat_49 rfl (lv_at hl 2 rfl) ?_
          refine lv_aload_n hx hb dX6_beat_50 rfl (lv_at hl 0 rfl) ?_
          refine lv_iload_n hx hb dX6_beat_51 rfl (lv_at hl 2 rfl) ?_
          refine lv_iconst (v := 0) hx hb dX6_beat_52 (by decide) ?_
          replace hF := bnd_some hF
          obtain ⟨z5, hz_5, hF⟩ := hF
          refine krI (kV (As := [.int x2_34, .int 0]) ⟨hx, hb, hml, hown, hts⟩ (kX6_va l D cy sa h thrown pairs teams water vats_34 moulds crews posts loft nums x2_34 0 z5 hz_5 _) (cwV 2 hts gX6_beat_X6_va rfl rfl rfl (by decide +kernel) ⟨Nat.le_of_ble_eq_true rfl, Nat.le_of_ble_eq_true rfl⟩) hK hP hD hS hA hG [0, 1, 2, 3, 4, 5, 6, 7] hcX6_X6_0 ndX6_0 gtX6_0 rfl rfl rfl hl.1 [.int x2_34, .ref (h 0)] rfl (Nat.le_of_ble_eq_true rfl) dX6_beat_53 ⟨(Nat.le_of_ble_eq_true rfl), (Nat.le_of_ble_eq_true rfl)⟩) hP hD hS hA [0, 1, 2, 3, 4, 5, 6, 7] hcX6_X6_0 (fun H locs hP hS => ?_)
          refine lv_bipush (v := 99) hx hb dX6_beat_56 (by decide) ?_
          refine lv_aload_n hx hb dX6_beat_58 rfl (lv_at hl 0 rfl) ?_
          refine lv_iload_n hx hb dX6_beat_59 rfl (lv_at hl 2 rfl) ?_
          refine lv_iconst (v := 1) hx hb dX6_beat_60 (by decide) ?_
          replace hF := bnd_some hF
          obtain ⟨z6, hz_6, hF⟩ := hF
          refine krI (kV (As := [.int x2_34, .int 1]) ⟨hx, hb, hml, hown, hts⟩ (kX6_va l D cy sa h thrown pairs teams water vats_34 moulds crews posts loft nums x2_34 1 z6 hz_6 _) (cwV 2 hts gX6_beat_X6_va rfl rfl rfl (by decide +kernel) ⟨Nat.le_of_ble_eq_true rfl, Nat.le_of_ble_eq_true rfl⟩) hK hP hD hS hA hG [0, 1, 2, 3, 4, 5, 6, 7] hcX6_X6_0 ndX6_0 gtX6_0 rfl rfl rfl hl.1 [.int 99, .int z5, .int x2_34, .ref (h 0)] rfl (Nat.le_of_ble_eq_true rfl) dX6_beat_61 ⟨(Nat.le_of_ble_eq_true rfl), (Nat.le_of_ble_eq_true rfl)⟩) hP hD hS hA [0, 1, 2, 3, 4, 5, 6, 7] hcX6_X6_0 (fun H locs hP hS => ?_)
          refine lv_iconst (v := 3) hx hb dX6_beat_64 (by decide) ?_
          refine lv_aload_n hx hb dX6_beat_65 rfl (lv_at hl 0 rfl) ?_
          refine va_get (D := D) (C := RX6) (T := TX6) (N := 10) hx hb hts hiX6 hown hK hP 0 gtX6_0 rfl 3 (by decide) hf7 (fun _ h9 => h9) rfl dX6_beat_66 ?_
          refine lv_aload_n hx hb dX6_beat_69 rfl (lv_at hl 0 rfl) ?_
          refine va_get (D := D) (C := RX6) (T := TX6) (N := 10) hx hb hts hiX6 hown hK hP 0 gtX6_0 rfl 9 (by decide) hf28 (fun _ h9 => h9) rfl dX6_beat_70 ?_
          refine lv_iconst (v := 0) hx hb dX6_beat_73 (by decide) ?_
          refine va_iald hx hb hK hP 7 0 gtX6_7 rfl (show ¬ ((0 : Int32) < 0 ∨ 9 ≤ (0 : Int32).toNatClampNeg) from by decide) dX6_beat_74 ?_
          refine lv_bipush (v := 7) hx hb dX6_beat_75 (by decide) ?_
          refine lv_irem hx hb dX6_beat_77 (by decide) ?_
          replace hF := ckI_some hF
          obtain ⟨hi_8, hF⟩ := hF
          refine va_iald hx hb hK hP 1 0 gtX6_1 rfl hi_8 dX6_beat_78 ?_
          refine lv_imul hx hb dX6_beat_79 ?_
          refine lv_iload_n hx hb dX6_beat_80 rfl (lv_at hl 1 rfl) ?_
          replace hF := ckZ_some hF
          obtain ⟨hz_9, hF⟩ := hF
          refine lv_idiv hx hb dX6_beat_81 hz_9 ?_
          refine lv_iadd hx hb dX6_beat_82 ?_
          refine va_mmin hx hb (hml.trans hl.1.symm) hown (hts (.methodLink RX6 83 Lib.Math.min.name) (by decide +kernel)) (hts (.static Lib.Math.min.name) (by decide +kernel)) (hts (.initialized "java/lang/Math") (by decide +kernel)) (hts (.code Lib.Math.min.name Lib.Math.min.code 2 (some .int)) (by decide +kernel)) (Nat.le_of_ble_eq_true rfl) (Nat.le_of_ble_eq_true rfl) (Nat.le_of_ble_eq_true rfl) (Nat.le_of_ble_eq_true rfl) dX6_beat_83 ?_
          refine lv_aload_n hx hb dX6_beat_86 rfl (lv_at hl 0 rfl) ?_
          refine lv_iload_n hx hb dX6_beat_87 rfl (lv_at hl 2 rfl) ?_
          refine lv_iconst (v := 2) hx hb dX6_beat_88 (by decide) ?_
          replace hF := bnd_some hF
          obtain ⟨z10, hz_10, hF⟩ := hF
          refine krI (kV (As := [.int x2_34, .int 2]) ⟨hx, hb, hml, hown, hts⟩ (kX6_va l D cy sa h thrown pairs teams water vats_34 moulds crews posts loft nums x2_34 2 z10 hz_10 _) (cwV 2 hts gX6_beat_X6_va rfl rfl rfl (by decide +kernel) ⟨Nat.le_of_ble_eq_true rfl, Nat.le_of_ble_eq_true rfl⟩) hK hP hD hS hA hG [0, 1, 2, 3, 4, 5, 6, 7] hcX6_X6_0 ndX6_0 gtX6_0 rfl rfl rfl hl.1 [.int (if (z6 + ((3 * (water ((nums (0 : Int32).toNatClampNeg) - (nums (0 : Int32).toNatClampNeg) / 7 * 7).toNatClampNeg)) / x1_34)) < 99 then (z6 + ((3 * (water ((nums (0 : Int32).toNatClampNeg) - (nums (0 : Int32).toNatClampNeg) / 7 * 7).toNatClampNeg)) / x1_34)) else 99), .int z5, .int x2_34, .ref (h 0)] rfl (Nat.le_of_ble_eq_true rfl) dX6_beat_89 ⟨(Nat.le_of_ble_eq_true rfl), (Nat.le_of_ble_eq_true rfl)⟩) hP hD hS hA [0, 1, 2, 3, 4, 5, 6, 7] hcX6_X6_0 (fun H locs hP hS => ?_)
          replace hF := bnd_some hF
          obtain ⟨z11, hz_11, hF⟩ := hF
          refine kwVE (kV (As := [.int x2_34, .int z5, .int (if (z6 + ((3 * (water ((nums (0 : Int32).toNatClampNeg) - (nums (0 : Int32).toNatClampNeg) / 7 * 7).toNatClampNeg)) / x1_34)) < 99 then (z6 + ((3 * (water ((nums (0 : Int32).toNatClampNeg) - (nums (0 : Int32).toNatClampNeg) / 7 * 7).toNatClampNeg)) / x1_34)) else 99), .int z10]) ⟨hx, hb, hml, hown, hts⟩ (kX6_let l D cy sa h thrown pairs teams water vats_34 moulds crews posts loft nums x2_34 z5 (if (z6 + ((3 * (water ((nums (0 : Int32).toNatClampNeg) - (nums (0 : Int32).toNatClampNeg) / 7 * 7).toNatClampNeg)) / x1_34)) < 99 then (z6 + ((3 * (water ((nums (0 : Int32).toNatClampNeg) - (nums (0 : Int32).toNatClampNeg) / 7 * 7).toNatClampNeg)) / x1_34)) else 99) z10 z11 hz_11 _) (cwV 4 hts gX6_beat_X6_let rfl rfl rfl (by decide +kernel) ⟨Nat.le_of_ble_eq_true rfl, Nat.le_of_ble_eq_true rfl⟩) hK hP hD hS hA hG [0, 1, 2, 3, 4, 5, 6, 7] hcX6_X6_0 ndX6_0 gtX6_0 rfl rfl rfl hl.1 [] rfl (Nat.le_of_ble_eq_true rfl) dX6_beat_92 ⟨(Nat.le_of_ble_eq_true rfl), (Nat.le_of_ble_eq_true rfl)⟩) hP hD hS hA [0, 1, 2, 3, 4, 5, 6, 7] hcX6_X6_0 hmX6 kpX6_X6_0 (fun H locs hP hD hS => ?_)
          refine lv_iinc (v := x2_34 + 1) (lv' := [(2, .int (x2_34 + 1)), (0, .ref (h 0)), (1, .int x1_34)]) hx hb dX6_beat_95 hl (k := 2) rfl rfl (by decide) rfl (fun ls hl => ?_)
          refine lv_goto (tgt := 34) hx hb dX6_beat_98 (by decide) ?_
          exact ih  z11 x1_34 (x2_34 + 1)  hF _ _ _ hP hD hS (lv_sub hl [1, 2, 0] rfl)
  have L4 : ∀ (k : Nat) (x1_4 : Int32) (x2_4 : Int32), fX6_beat_L4 water vats nums k x1_4 x2_4 = some z → ∀ (H : Heap) (locs : List Loc) (ls : Array Slot), va_P D vwCl (wX6 cy h thrown pairs teams water vats moulds crews posts loft nums) H → va_D A (wX6 cy h thrown pairs teams water vats moulds crews posts loft nums) → va_S A s.heap H locs → lv_has ls 3 [(0, .ref (h 0)), (1, .int x1_4), (2, .int x2_4)] → W p l e rX6_beat s m args below meth c H locs 0 0 Q (F0 m 4 ls []) := by
    intro k
    induction k with
    | zero =>
      intro x1_4 x2_4 hF
      rw [fX6_beat_L4] at hF
      cases hF
    | succ k ih =>
      intro x1_4 x2_4 hF H locs ls hP hD hS hl
      rw [fX6_beat_L4] at hF
      refine lv_iload_n hx hb dX6_beat_4 rfl (lv_at hl 2 rfl) ?_
      refine lv_iconst (v := 4) hx hb dX6_beat_5 (by decide) ?_
      refine lv_icmp_ge (tgt := 32) hx hb dX6_beat_6 (by decide) (fun c_1 => ?_) (fun c_1 => ?_)
      · replace hF := if_t hF c_1
        refine lv_iconst (v := 0) hx hb dX6_beat_32 (by decide) ?_
        refine lv_istore_n (lv' := [(2, .int 0), (0, .ref (h 0)), (1, .int x1_4)]) hx hb dX6_beat_33 rfl hl (by decide) rfl (fun ls hl => ?_)
        exact L34 300 vats x1_4 0  hF _ _ _ hP hD hS (lv_sub hl [1, 2, 0] rfl)
      · replace hF := if_f hF c_1
        refine lv_iload_n hx hb dX6_beat_9 rfl (lv_at hl 1 rfl) ?_
        refine lv_aload_n hx hb dX6_beat_10 rfl (lv_at hl 0 rfl) ?_
        refine lv_iload_n hx hb dX6_beat_11 rfl (lv_at hl 2 rfl) ?_
        refine lv_iconst (v := 0) hx hb dX6_beat_12 (by decide) ?_
        replace hF := bnd_some hF
        obtain ⟨z12, hz_12, hF⟩ := hF
        refine krI (kV (As := [.int x2_4, .int 0]) ⟨hx, hb, hml, hown, hts⟩ (kX6_va l D cy sa h thrown pairs teams water vats moulds crews posts loft nums x2_4 0 z12 hz_12 _) (cwV 2 hts gX6_beat_X6_va rfl rfl rfl (by decide +kernel) ⟨Nat.le_of_ble_eq_true rfl, Nat.le_of_ble_eq_true rfl⟩) hK hP hD hS hA hG [0, 1, 2, 3, 4, 5, 6, 7] hcX6_X6_0 ndX6_0 gtX6_0 rfl rfl rfl hl.1 [.int x1_4] rfl (Nat.le_of_ble_eq_true rfl) dX6_beat_13 ⟨(Nat.le_of_ble_eq_true rfl), (Nat.le_of_ble_eq_true rfl)⟩) hP hD hS hA [0, 1, 2, 3, 4, 5, 6, 7] hcX6_X6_0 (fun H locs hP hS => ?_)
        refine lv_if_le (tgt := 23) hx hb dX6_beat_16 (by decide) (fun c_13 => ?_) (fun c_13 => ?_)
        · replace hF := if_t hF c_13
          refine lv_iconst (v := 0) hx hb dX6_beat_23 (by decide) ?_
          refine lv_iadd hx hb dX6_beat_24 ?_
          refine lv_istore_n (lv' := [(1, .int (x1_4 + 0)), (0, .ref (h 0)), (2, .int x2_4)]) hx hb dX6_beat_25 rfl hl (by decide) rfl (fun ls hl => ?_)
          refine lv_iinc (v := x2_4 + 1) (lv' := [(2, .int (x2_4 + 1)), (1, .int (x1_4 + 0)), (0, .ref (h 0))]) hx hb dX6_beat_26 hl (k := 2) rfl rfl (by decide) rfl (fun ls hl => ?_)
          refine lv_goto (tgt := 4) hx hb dX6_beat_29 (by decide) ?_
          exact ih  (x1_4 + 0) (x2_4 + 1)  hF _ _ _ hP hD hS (lv_sub hl [2, 1, 0] rfl)
        · replace hF := if_f hF c_13
          refine lv_iconst (v := 1) hx hb dX6_beat_19 (by decide) ?_
          refine lv_goto (tgt := 24) hx hb dX6_beat_20 (by decide) ?_
          refine lv_iadd hx hb dX6_beat_24 ?_
          refine lv_istore_n (lv' := [(1, .int (x1_4 + 1)), (0, .ref (h 0)), (2, .int x2_4)]) hx hb dX6_beat_25 rfl hl (by decide) rfl (fun ls hl => ?_)
          refine lv_iinc (v := x2_4 + 1) (lv' := [(2, .int (x2_4 + 1)), (1, .int (x1_4 + 1)), (0, .ref (h 0))]) hx hb dX6_beat_26 hl (k := 2) rfl rfl (by decide) rfl (fun ls hl => ?_)
          refine lv_goto (tgt := 4) hx hb dX6_beat_29 (by decide) ?_
          exact ih  (x1_4 + 1) (x2_4 + 1)  hF _ _ _ hP hD hS (lv_sub hl [2, 1, 0] rfl)
  unfold fX6_beat at hF
  refine lv_iconst (v := 0) hx hb dX6_beat_0 (by decide) ?_
  refine lv_istore_n (lv' := [(1, .int 0), (0, .ref (h 0))]) hx hb dX6_beat_1 rfl hl (by decide) rfl (fun ls hl => ?_)
  refine lv_iconst (v := 0) hx hb dX6_beat_2 (by decide) ?_
  refine lv_istore_n (lv' := [(2, .int 0), (1, .int 0), (0, .ref (h 0))]) hx hb dX6_beat_3 rfl hl (by decide) rfl (fun ls hl => ?_)
  exact L4 300 0 0  hF _ _ _ hP hD hS (lv_sub hl [2, 1, 0] rfl)

def fX6_grade_L35 (moulds : FN) (a2 : Int32) (s0_35 : Int32) (s1_35 : Int32) : Option (Int32) := (fX6_mo moulds a2 2).bind fun z5 => if ((s0_35 + s1_35) - (z5 / 10)) < 12 then if ((s0_35 + s1_35) - (z5 / 10)) < 7 then some 2 else some 1 else some 0
def fX6_grade (vats : FN) (moulds : FN) (a1 : Int32) (a2 : Int32) : Option (Int32) := (fX6_va vats a1 2).bind fun z1 => (fX6_va vats a1 1).bind fun z2 => if z1 = 0 then fX6_grade_L35 moulds a2 (z2 / 10) 6 else if z1 = 1 then fX6_grade_L35 moulds a2 (z2 / 10) 3 else fX6_grade_L35 moulds a2 (z2 / 10) 0
abbrev rX6_grade : Room := { frames := 1, cells := 0, slots := 0, locals := 22 }
set_option maxHeartbeats 4000000 in
set_option maxRecDepth 100000 in
theorem kX6_grade (l : Launch) (D : va_G) (cy : Nat → ClassId) (sa : Nat → Nat) (h : Nat → Nat) (thrown : Int32) (pairs : Int32) (teams : Int32) (water : FN) (vats : FN) (moulds : FN) (crews : FN) (posts : FN) (loft : FN) (nums : FN) (a1 : Int32) (a2 : Int32) (z : Int32) (hF : fX6_grade vats moulds a1 a2 = some z) : KI l D (tyW cy) sa yX6_grade wsX6_grade rX6_grade [.ref (h 0), .int a1, .int a2] (wX6 cy h thrown pairs teams water vats moulds crews posts loft nums) z (fun _ => wX6 cy h thrown pairs teams water vats moulds crews posts loft nums) 0 0 := by
  refine KI.of (cc := cX6_grade) (maxL := 5) (by decide +kernel) rfl (Nat.le_of_ble_eq_true rfl) ?_
  intro p e s m args below meth c A ls Q hE hQ
  obtain ⟨hx, hb, hml, hown, hts, hA, hP, hK, hD, hG, hl, hnm⟩ := hE
  replace hown : s.vm.findClass RX6 = some m.cls := hown
  replace hl : lv_has ls 5 [(0, .ref (h 0)), (1, .int a1), (2, .int a2)] := hl
  have hS : va_S A s.heap s.heap [] := va_S.rf
  have L35 : ∀ (s0_35 : Int32) (s1_35 : Int32), fX6_grade_L35 moulds a2 s0_35 s1_35 = some z → ∀ (H : Heap) (locs : List Loc) (ls : Array Slot), va_P D vwCl (wX6 cy h thrown pairs teams water vats moulds crews posts loft nums) H → va_D A (wX6 cy h thrown pairs teams water vats moulds crews posts loft nums) → va_S A s.heap H locs → lv_has ls 5 [(0, .ref (h 0)), (2, .int a2)] → W p l e rX6_grade s m args below meth c H locs 0 0 Q (F0 m 35 ls [.int s1_35, .int s0_35]) := by
    intro s0_35 s1_35 hF H locs ls hP hD hS hl
    unfold fX6_grade_L35 at hF
    refine lv_iadd hx hb dX6_grade_35 ?_
    refine lv_aload_n hx hb dX6_grade_36 rfl (lv_at hl 0 rfl) ?_
    refine lv_iload_n hx hb dX6_grade_37 rfl (lv_at hl 1 rfl) ?_
    refine lv_iconst (v := 2) hx hb dX6_grade_38 (by decide) ?_
    replace hF := bnd_some hF
    obtain ⟨z5, hz_5, hF⟩ := hF
    refine krI (kV (As := [.int a2, .int 2]) ⟨hx, hb, hml, hown, hts⟩ (kX6_mo l D cy sa h thrown pairs teams water vats moulds crews posts loft nums a2 2 z5 hz_5 _) (cwV 2 hts gX6_grade_X6_mo rfl rfl rfl (by decide +kernel) ⟨Nat.le_of_ble_eq_true rfl, Nat.le_of_ble_eq_true rfl⟩) hK hP hD hS hA hG [0, 1, 2, 3, 4, 5, 6, 7] hcX6_X6_0 ndX6_0 gtX6_0 rfl rfl rfl hl.1 [.int (s0_35 + s1_35)] rfl (Nat.le_of_ble_eq_true rfl) dX6_grade_39 ⟨(Nat.le_of_ble_eq_true rfl), (Nat.le_of_ble_eq_true rfl)⟩) hP hD hS hA [0, 1, 2, 3, 4, 5, 6, 7] hcX6_X6_0 (fun H locs hP hS => ?_)
    refine lv_bipush (v := 10) hx hb dX6_grade_42 (by decide) ?_
    refine lv_idiv hx hb dX6_grade_44 (by decide) ?_
    refine lv_isub hx hb dX6_grade_45 ?_
    refine lv_istore (lv' := [(4, .int ((s0_35 + s1_35) - (z5 / 10))), (0, .ref (h 0)), (2, .int a2)]) hx hb dX6_grade_46 hl (by decide) rfl (fun ls hl => ?_)
    refine lv_iload hx hb dX6_grade_48 (lv_at hl 0 rfl) ?_
    refine lv_bipush (v := 12) hx hb dX6_grade_50 (by decide) ?_
    refine lv_icmp_lt (tgt := 59) hx hb dX6_grade_52 (by decide) (fun c_6 => ?_) (fun c_6 => ?_)
    · replace hF := if_t hF c_6
      refine lv_iload hx hb dX6_grade_59 (lv_at hl 0 rfl) ?_
      refine lv_bipush (v := 7) hx hb dX6_grade_61 (by decide) ?_
      refine lv_icmp_lt (tgt := 70) hx hb dX6_grade_63 (by decide) (fun c_7 => ?_) (fun c_7 => ?_)
      · replace hF := if_t hF c_7
        refine lv_iconst (v := 2) hx hb dX6_grade_70 (by decide) ?_
        cases hF
        exact hQ _ _ _ _ _ _ (fun _ => 0) dX6_grade_71 hP hD hS (Nat.le_of_ble_eq_true rfl) (Nat.le_of_ble_eq_true rfl)
      · replace hF := if_f hF c_7
        refine lv_iconst (v := 1) hx hb dX6_grade_66 (by decide) ?_
        refine lv_goto (tgt := 71) hx hb dX6_grade_67 (by decide) ?_
        cases hF
        exact hQ _ _ _ _ _ _ (fun _ => 0) dX6_grade_71 hP hD hS (Nat.le_of_ble_eq_true rfl) (Nat.le_of_ble_eq_true rfl)
    · replace hF := if_f hF c_6
      refine lv_iconst (v := 0) hx hb dX6_grade_55 (by decide) ?_
      refine lv_goto (tgt := 71) hx hb dX6_grade_56 (by decide) ?_
      cases hF
      exact hQ _ _ _ _ _ _ (fun _ => 0) dX6_grade_71 hP hD hS (Nat.le_of_ble_eq_true rfl) (Nat.le_of_ble_eq_true rfl)
  unfold fX6_grade at hF
  refine lv_aload_n hx hb dX6_grade_0 rfl (lv_at hl 0 rfl) ?_
  refine lv_iload_n hx hb dX6_grade_1 rfl (lv_at hl 1 rfl) ?_
  refine lv_iconst (v := 2) hx hb dX6_grade_2 (by decide) ?_
  replace hF := bnd_some hF
  obtain ⟨z1, hz_1, hF⟩ := hF
  refine krI (kV (As := [.int a1, .int 2]) ⟨hx, hb, hml, hown, hts⟩ (kX6_va l D cy sa h thrown pairs teams water vats moulds crews posts loft nums a1 2 z1 hz_1 _) (cwV 2 hts gX6_grade_X6_va rfl rfl rfl (by decide +kernel) ⟨Nat.le_of_ble_eq_true rfl, Nat.le_of_ble_eq_true rfl⟩) hK hP hD hS hA hG [0, 1, 2, 3, 4, 5, 6, 7] hcX6_X6_0 ndX6_0 gtX6_0 rfl rfl rfl hl.1 [] rfl (Nat.le_of_ble_eq_true rfl) dX6_grade_3 ⟨(Nat.le_of_ble_eq_true rfl), (Nat.le_of_ble_eq_true rfl)⟩) hP hD hS hA [0, 1, 2, 3, 4, 5, 6, 7] hcX6_X6_0 (fun H locs hP hS => ?_)
  refine lv_istore_n (lv' := [(3, .int z1), (0, .ref (h 0)), (1, .int a1), (2, .int a2)]) hx hb dX6_grade_6 rfl hl (by decide) rfl (fun ls hl => ?_)
  refine lv_aload_n hx hb dX6_grade_7 rfl (lv_at hl 1 rfl) ?_
  refine lv_iload_n hx hb dX6_grade_8 rfl (lv_at hl 2 rfl) ?_
  refine lv_iconst (v := 1) hx hb dX6_grade_9 (by decide) ?_
  replace hF := bnd_some hF
  obtain ⟨z2, hz_2, hF⟩ := hF
  refine krI (kV (As := [.int a1, .int 1]) ⟨hx, hb, hml, hown, hts⟩ (kX6_va l D cy sa h thrown pairs teams water vats moulds crews posts loft nums a1 1 z2 hz_2 _) (cwV 2 hts gX6_grade_X6_va rfl rfl rfl (by decide +kernel) ⟨Nat.le_of_ble_eq_true rfl, Nat.le_of_ble_eq_true rfl⟩) hK hP hD hS hA hG [0, 1, 2, 3, 4, 5, 6, 7] hcX6_X6_0 ndX6_0 gtX6_0 rfl rfl rfl hl.1 [] rfl (Nat.le_of_ble_eq_true rfl) dX6_grade_10 ⟨(Nat.le_of_ble_eq_true rfl), (Nat.le_of_ble_eq_true rfl)⟩) hP hD hS hA [0, 1, 2, 3, 4, 5, 6, 7] hcX6_X6_0 (fun H locs hP hS => ?_)
  refine lv_bipush (v := 10) hx hb dX6_grade_13 (by decide) ?_
  refine lv_idiv hx hb dX6_grade_15 (by decide) ?_
  refine lv_iload_n hx hb dX6_grade_16 rfl (lv_at hl 0 rfl) ?_
  refine lv_if_ne (tgt := 25) hx hb dX6_grade_17 (by decide) (fun c_3 => ?_) (fun c_3 => ?_)
  · replace hF := if_f hF c_3
    refine lv_iload_n hx hb dX6_grade_25 rfl (lv_at hl 0 rfl) ?_
    refine lv_iconst (v := 1) hx hb dX6_grade_26 (by decide) ?_
    refine lv_icmp_ne (tgt := 34) hx hb dX6_grade_27 (by decide) (fun c_4 => ?_) (fun c_4 => ?_)
    · replace hF := if_f hF c_4
      refine lv_iconst (v := 0) hx hb dX6_grade_34 (by decide) ?_
      exact L35  (z2 / 10) 0  hF _ _ _ hP hD hS (lv_sub hl [1, 3] rfl)
    · replace hF := if_t hF c_4
      refine lv_iconst (v := 3) hx hb dX6_grade_30 (by decide) ?_
      refine lv_goto (tgt := 35) hx hb dX6_grade_31 (by decide) ?_
      exact L35  (z2 / 10) 3  hF _ _ _ hP hD hS (lv_sub hl [1, 3] rfl)
  · replace hF := if_t hF c_3
    refine lv_bipush (v := 6) hx hb dX6_grade_20 (by decide) ?_
    refine lv_goto (tgt := 35) hx hb dX6_grade_22 (by decide) ?_
    exact L35  (z2 / 10) 6  hF _ _ _ hP hD hS (lv_sub hl [1, 3] rfl)

def fX6_make (vats : FN) (moulds : FN) (crews : FN) (posts : FN) (nums : FN) (a1 : Int32) : Option (Int32 × FN × FN × FN × FN) := (fX6_makes vats moulds crews posts nums a1).bind fun z1 => if z1 = 0 then some (0, vats, moulds, posts, nums) else (fX6_cr crews a1 1).bind fun z3 => (fX6_cr crews a1 2).bind fun z4 => (fX6_grade vats moulds z3 z4).bind fun z5 => (fX6_mo moulds z4 0).bind fun z7 => ckC 0 (3 * (nums (5 : Int32).toNatClampNeg)) 3 3 270 ((fX6_va vats z3 0).bind fun z15 => (fX6_mo moulds z4 1).bind fun z16 => (fX6_va vats z3 1).bind fun z17 => (fX6_va vats z3 2).bind fun z18 => (fX6_let vats z3 (z15 - (z1 * z16)) z17 z18).bind fun z19 => (fX6_mo moulds z4 2).bind fun z20 => ckI ((3 * z4) + 2) 15 ((fX6_worth z5).bind fun z25 => some (z1, z19, upd moulds ((3 * z4) + 2).toNatClampNeg (if (z20 + ((z1 + 1) / 2)) < 50 then (z20 + ((z1 + 1) / 2)) else 50), va_cpy (upd (upd (upd (fun _ => 0) (0 : Int32).toNatClampNeg z7) (1 : Int32).toNatClampNeg z5) (2 : Int32).toNatClampNeg z1) posts (0 : Int32).toNatClampNeg (3 * (nums (5 : Int32).toNatClampNeg)).toNatClampNeg (3 : Int32).toNatClampNeg, upd (upd (upd nums (5 : Int32).toNatClampNeg ((nums (5 : Int32).toNatClampNeg) + 1)) (3 : Int32).toNatClampNeg (((upd nums (5 : Int32).toNatClampNeg ((nums (5 : Int32).toNatClampNeg) + 1)) (3 : Int32).toNatClampNeg) + z1)) (4 : Int32).toNatClampNeg (((upd (upd nums (5 : Int32).toNatClampNeg ((nums (5 : Int32).toNatClampNeg) + 1)) (3 : Int32).toNatClampNeg (((upd nums (5 : Int32).toNatClampNeg ((nums (5 : Int32).toNatClampNeg) + 1)) (3 : Int32).toNatClampNeg) + z1)) (4 : Int32).toNatClampNeg) + (z1 * z25)))))
abbrev rX6_make : Room := { frames := 4, cells := 1, slots := 3, locals := 87 }
set_option maxHeartbeats 4000000 in
set_option maxRecDepth 100000 in
theorem kX6_make (l : Launch) (D : va_G) (cy : Nat → ClassId) (sa : Nat → Nat) (h : Nat → Nat) (thrown : Int32) (pairs : Int32) (teams : Int32) (water : FN) (vats : FN) (moulds : FN) (crews : FN) (posts : FN) (loft : FN) (nums : FN) (a1 : Int32) (z : Int32 × FN × FN × FN × FN) (hF : fX6_make vats moulds crews posts nums a1 = some z) : KI l D (tyW cy) sa yX6_make wsX6_make rX6_make [.ref (h 0), .int a1] (wX6 cy h thrown pairs teams water vats moulds crews posts loft nums) z.1 (fun _ => wX6 cy h thrown pairs teams water z.2.1 z.2.2.1 crews z.2.2.2.1 loft z.2.2.2.2) 1 3 := by
  refine KI.of (cc := cX6_make) (maxL := 7) (by decide +kernel) rfl (Nat.le_of_ble_eq_true rfl) ?_
  intro p e s m args below meth c A ls Q hE hQ
  obtain ⟨hx, hb, hml, hown, hts, hA, hP, hK, hD, hG, hl, hnm⟩ := hE
  replace hown : s.vm.findClass RX6 = some m.cls := hown
  have hiX6 : ∀ w ∈ u_ws RX6 TX6 10, w ∈ wsX6_make := by decide +kernel
  have hf16 : (Cond.fieldLink RX6 16 "RagVatsModel" "moulds" "[I").before args s = true := hts _ (by decide +kernel)
  have hf22 : (Cond.fieldLink RX6 22 "RagVatsModel" "posts" "[I").before args s = true := hts _ (by decide +kernel)
  have hf28 : (Cond.fieldLink RX6 28 "RagVatsModel" "numbers" "[I").before args s = true := hts _ (by decide +kernel)
  replace hl : lv_has ls 7 [(0, .ref (h 0)), (1, .int a1)] := hl
  have hS : va_S A s.heap s.heap [] := va_S.rf
  unfold fX6_make at hF
  refine lv_aload_n hx hb dX6_make_0 rfl (lv_at hl 0 rfl) ?_
  refine lv_iload_n hx hb dX6_make_1 rfl (lv_at hl 1 rfl) ?_
  replace hF := bnd_some hF
  obtain ⟨z1, hz_1, hF⟩ := hF
  refine krI (kV (As := [.int a1]) ⟨hx, hb, hml, hown, hts⟩ (kX6_makes l D cy sa h thrown pairs teams water vats moulds crews posts loft nums a1 z1 hz_1 _) (cwV 1 hts gX6_make_X6_makes rfl rfl rfl (by decide +kernel) ⟨Nat.le_of_ble_eq_true rfl, Nat.le_of_ble_eq_true rfl⟩) hK hP hD hS hA hG [0, 1, 2, 3, 4, 5, 6, 7] hcX6_X6_0 ndX6_0 gtX6_0 rfl rfl rfl hl.1 [] rfl (Nat.le_of_ble_eq_true rfl) dX6_make_2 ⟨(Nat.le_of_ble_eq_true rfl), (Nat.le_of_ble_eq_true rfl)⟩) hP hD hS hA [0, 1, 2, 3, 4, 5, 6, 7] hcX6_X6_0 (fun H locs hP hS => ?_)
  refine lv_istore_n (lv' := [(2, .int z1), (0, .ref (h 0)), (1, .int a1)]) hx hb dX6_make_5 rfl hl (by decide) rfl (fun ls hl => ?_)
  refine lv_iload_n hx hb dX6_make_6 rfl (lv_at hl 0 rfl) ?_
  refine lv_if_ne (tgt := 12) hx hb dX6_make_7 (by decide) (fun c_2 => ?_) (fun c_2 => ?_)
  · replace hF := if_f hF c_2
    refine lv_aload_n hx hb dX6_make_12 rfl (lv_at hl 1 rfl) ?_
    refine lv_iload_n hx hb dX6_make_13 rfl (lv_at hl 2 rfl) ?_
    refine lv_iconst (v := 1) hx hb dX6_make_14 (by decide) ?_
    replace hF := bnd_some hF
    obtain ⟨z3, hz_3, hF⟩ := hF
    refine krI (kV (As := [.int a1, .int 1]) ⟨hx, hb, hml, hown, hts⟩ (kX6_cr l D cy sa h thrown pairs teams water vats moulds crews posts loft nums a1 1 z3 hz_3 _) (cwV 2 hts gX6_make_X6_cr rfl rfl rfl (by decide +kernel) ⟨Nat.le_of_ble_eq_true rfl, Nat.le_of_ble_eq_true rfl⟩) hK hP hD hS hA hG [0, 1, 2, 3, 4, 5, 6, 7] hcX6_X6_0 ndX6_0 gtX6_0 rfl rfl rfl hl.1 [] rfl (Nat.le_of_ble_eq_true rfl) dX6_make_15 ⟨(Nat.le_of_ble_eq_true rfl), (Nat.le_of_ble_eq_true rfl)⟩) hP hD hS hA [0, 1, 2, 3, 4, 5, 6, 7] hcX6_X6_0 (fun H locs hP hS => ?_)
    refine lv_istore_n (lv' := [(3, .int z3), (2, .int z1), (0, .ref (h 0)), (1, .int a1)]) hx hb dX6_make_18 rfl hl (by decide) rfl (fun ls hl => ?_)
    refine lv_aload_n hx hb dX6_make_19 rfl (lv_at hl 2 rfl) ?_
    refine lv_iload_n hx hb dX6_make_20 rfl (lv_at hl 3 rfl) ?_
    refine lv_iconst (v := 2) hx hb dX6_make_21 (by decide) ?_
    replace hF := bnd_some hF
    obtain ⟨z4, hz_4, hF⟩ := hF
    refine krI (kV (As := [.int a1, .int 2]) ⟨hx, hb, hml, hown, hts⟩ (kX6_cr l D cy sa h thrown pairs teams water vats moulds crews posts loft nums a1 2 z4 hz_4 _) (cwV 2 hts gX6_make_X6_cr rfl rfl rfl (by decide +kernel) ⟨Nat.le_of_ble_eq_true rfl, Nat.le_of_ble_eq_true rfl⟩) hK hP hD hS hA hG [0, 1, 2, 3, 4, 5, 6, 7] hcX6_X6_0 ndX6_0 gtX6_0 rfl rfl rfl hl.1 [] rfl (Nat.le_of_ble_eq_true rfl) dX6_make_22 ⟨(Nat.le_of_ble_eq_true rfl), (Nat.le_of_ble_eq_true rfl)⟩) hP hD hS hA [0, 1, 2, 3, 4, 5, 6, 7] hcX6_X6_0 (fun H locs hP hS => ?_)
    refine lv_istore (lv' := [(4, .int z4), (3, .int z3), (2, .int z1), (0, .ref (h 0)), (1, .int a1)]) hx hb dX6_make_25 hl (by decide) rfl (fun ls hl => ?_)
    refine lv_aload_n hx hb dX6_make_27 rfl (lv_at hl 3 rfl) ?_
    refine lv_iload_n hx hb dX6_make_28 rfl (lv_at hl 1 rfl) ?_
    refine lv_iload hx hb dX6_make_29 (lv_at hl 0 rfl) ?_
    replace hF := bnd_some hF
    obtain ⟨z5, hz_5, hF⟩ := hF
    refine krI (kV (As := [.int z3, .int z4]) ⟨hx, hb, hml, hown, hts⟩ (kX6_grade l D cy sa h thrown pairs teams water vats moulds crews posts loft nums z3 z4 z5 hz_5 _) (cwV 2 hts gX6_make_X6_grade rfl rfl rfl (by decide +kernel) ⟨Nat.le_of_ble_eq_true rfl, Nat.le_of_ble_eq_true rfl⟩) hK hP hD hS hA hG [0, 1, 2, 3, 4, 5, 6, 7] hcX6_X6_0 ndX6_0 gtX6_0 rfl rfl rfl hl.1 [] rfl (Nat.le_of_ble_eq_true rfl) dX6_make_31 ⟨(Nat.le_of_ble_eq_true rfl), (Nat.le_of_ble_eq_true rfl)⟩) hP hD hS hA [0, 1, 2, 3, 4, 5, 6, 7] hcX6_X6_0 (fun H locs hP hS => ?_)
    refine lv_istore (lv' := [(5, .int z5), (4, .int z4), (3, .int z3), (2, .int z1), (0, .ref (h 0)), (1, .int a1)]) hx hb dX6_make_34 hl (by decide) rfl (fun ls hl => ?_)
    refine lv_iconst (v := 3) hx hb dX6_make_36 (by decide) ?_
    refine va_newa (atype := .int) hx hb (hts (.arrayClass .int) (by decide +kernel)) rfl hK hP hD hS hA (a0 := (3, .inl (fun _ => 0))) (fun _ => rfl) (by decide) (by decide) (by decide) (Nat.le_of_ble_eq_true rfl) (Nat.le_of_ble_eq_true rfl) dX6_make_37 (fun q6 cA H hK2 hP hD hS => ?_)
    obtain rfl := kcls hK2 0 rfl (fun h1 h2 => Option.some.inj (h1.symm.trans h2))
    replace hP : va_P D vwCl (wX6_I3 cy h thrown pairs teams water vats moulds crews posts loft nums q6 (fun _ => 0)) H := hP
    replace hD : va_D A (wX6_I3 cy h thrown pairs teams water vats moulds crews posts loft nums q6 (fun _ => 0)) := hD
    refine lv_dup hx hb dX6_make_39 rfl ?_
    refine lv_iconst (v := 0) hx hb dX6_make_40 (by decide) ?_
    refine lv_aload_n hx hb dX6_make_41 rfl (lv_at hl 4 rfl) ?_
    refine lv_iload hx hb dX6_make_42 (lv_at hl 1 rfl) ?_
    refine lv_iconst (v := 0) hx hb dX6_make_44 (by decide) ?_
    replace hF := bnd_some hF
    obtain ⟨z7, hz_7, hF⟩ := hF
    refine krI (kV (As := [.int z4, .int 0]) ⟨hx, hb, hml, hown, hts⟩ (kX6_mo l D cy sa h thrown pairs teams water vats moulds crews posts loft nums z4 0 z7 hz_7 _) (cwV 2 hts gX6_make_X6_mo rfl rfl rfl (by decide +kernel) ⟨Nat.le_of_ble_eq_true rfl, Nat.le_of_ble_eq_true rfl⟩) hK hP hD hS hA hG [0, 1, 2, 3, 4, 5, 6, 7] hcX6_I3_X6_0 ndX6_0 gtX6_0 rfl rfl rfl hl.1 [.int 0, .ref q6, .ref q6] rfl (Nat.le_of_ble_eq_true rfl) dX6_make_45 ⟨(Nat.le_of_ble_eq_true rfl), (Nat.le_of_ble_eq_true rfl)⟩) hP hD hS hA [0, 1, 2, 3, 4, 5, 6, 7] hcX6_I3_X6_0 (fun H locs hP hS => ?_)
    refine va_iast hx hb hK hP hD hS 8 0 gtX6_I3_8 rfl (show ¬ ((0 : Int32) < 0 ∨ 3 ≤ (0 : Int32).toNatClampNeg) from by decide) dX6_make_48 (fun H locs hP hD hS => ?_)
    rw [stX6_I3_8] at hP hD
    refine lv_dup hx hb dX6_make_49 rfl ?_
    refine lv_iconst (v := 1) hx hb dX6_make_50 (by decide) ?_
    refine lv_iload hx hb dX6_make_51 (lv_at hl 0 rfl) ?_
    refine va_iast hx hb hK hP hD hS 8 0 gtX6_I3_8 rfl (show ¬ ((1 : Int32) < 0 ∨ 3 ≤ (1 : Int32).toNatClampNeg) from by decide) dX6_make_53 (fun H locs hP hD hS => ?_)
    rw [stX6_I3_8] at hP hD
    refine lv_dup hx hb dX6_make_54 rfl ?_
    refine lv_iconst (v := 2) hx hb dX6_make_55 (by decide) ?_
    refine lv_iload_n hx hb dX6_make_56 rfl (lv_at hl 3 rfl) ?_
    refine va_iast hx hb hK hP hD hS 8 0 gtX6_I3_8 rfl (show ¬ ((2 : Int32) < 0 ∨ 3 ≤ (2 : Int32).toNatClampNeg) from by decide) dX6_make_57 (fun H locs hP hD hS => ?_)
    rw [stX6_I3_8] at hP hD
    refine lv_astore (lv' := [(6, .ref q6), (5, .int z5), (4, .int z4), (3, .int z3), (2, .int z1), (0, .ref (h 0)), (1, .int a1)]) hx hb dX6_make_58 hl (by decide) rfl (fun ls hl => ?_)
    refine lv_aload hx hb dX6_make_60 (lv_at hl 0 rfl) ?_
    refine lv_iconst (v := 0) hx hb dX6_make_62 (by decide) ?_
    refine lv_aload_n hx hb dX6_make_63 rfl (lv_at hl 5 rfl) ?_
    refine va_get (D := D) (C := RX6) (T := TX6) (N := 10) hx hb hts hiX6 hown hK hP 0 gtX6_I3_0 rfl 7 (by decide) hf22 (fun _ h9 => h9) rfl dX6_make_64 ?_
    refine lv_iconst (v := 3) hx hb dX6_make_67 (by decide) ?_
    refine lv_aload_n hx hb dX6_make_68 rfl (lv_at hl 5 rfl) ?_
    refine va_get (D := D) (C := RX6) (T := TX6) (N := 10) hx hb hts hiX6 hown hK hP 0 gtX6_I3_0 rfl 9 (by decide) hf28 (fun _ h9 => h9) rfl dX6_make_69 ?_
    refine lv_iconst (v := 5) hx hb dX6_make_72 (by decide) ?_
    refine va_iald hx hb hK hP 7 0 gtX6_I3_7 rfl (show ¬ ((5 : Int32) < 0 ∨ 9 ≤ (5 : Int32).toNatClampNeg) from by decide) dX6_make_73 ?_
    refine lv_imul hx hb dX6_make_74 ?_
    refine lv_iconst (v := 3) hx hb dX6_make_75 (by decide) ?_
    replace hF := ckC_some hF
    obtain ⟨hc_12, hF⟩ := hF
    refine va_copyi (own := RX6) hx hb (hml.trans hl.1.symm) hown (hts (.methodLink RX6 109 arraycopyName) (by decide +kernel)) (hts (.native arraycopyName) (by decide +kernel)) (hts (.static arraycopyName) (by decide +kernel)) (hts (.initialized "java/lang/System") (by decide +kernel)) hK hP hD hS 8 5 0 0 gtX6_I3_8 gtX6_I3_5 rfl rfl rfl hc_12.1 hc_12.2.1 hc_12.2.2.1 hc_12.2.2.2.1 hc_12.2.2.2.2 (fun _ _ => rfl) (Nat.le_of_ble_eq_true rfl) (by decide) dX6_make_76 (fun H locs hP hD hS => ?_)
    rw [stX6_I3_5] at hP hD
    refine lv_aload_n hx hb dX6_make_79 rfl (lv_at hl 5 rfl) ?_
    refine va_get (D := D) (C := RX6) (T := TX6) (N := 10) hx hb hts hiX6 hown hK hP 0 gtX6_I3_0 rfl 9 (by decide) hf28 (fun _ h9 => h9) rfl dX6_make_80 ?_
    refine lv_iconst (v := 5) hx hb dX6_make_83 (by decide) ?_
    refine lv_dup2_11 hx hb dX6_make_84 rfl rfl ?_
    refine va_iald hx hb hK hP 7 0 gtX6_I3_7 rfl (show ¬ ((5 : Int32) < 0 ∨ 9 ≤ (5 : Int32).toNatClampNeg) from by decide) dX6_make_85 ?_
    refine lv_iconst (v := 1) hx hb dX6_make_86 (by decide) ?_
    refine lv_iadd hx hb dX6_make_87 ?_
    refine va_iast hx hb hK hP hD hS 7 0 gtX6_I3_7 rfl (show ¬ ((5 : Int32) < 0 ∨ 9 ≤ (5 : Int32).toNatClampNeg) from by decide) dX6_make_88 (fun H locs hP hD hS => ?_)
    rw [stX6_I3_7] at hP hD
    refine lv_aload_n hx hb dX6_make_89 rfl (lv_at hl 5 rfl) ?_
    refine lv_iload_n hx hb dX6_make_90 rfl (lv_at hl 3 rfl) ?_
    refine lv_aload_n hx hb dX6_make_91 rfl (lv_at hl 5 rfl) ?_
    refine lv_iload_n hx hb dX6_make_92 rfl (lv_at hl 3 rfl) ?_
    refine lv_iconst (v := 0) hx hb dX6_make_93 (by decide) ?_
    replace hF := bnd_some hF
    obtain ⟨z15, hz_15, hF⟩ := hF
    refine krI (kV (As := [.int z3, .int 0]) ⟨hx, hb, hml, hown, hts⟩ (kX6_va l D cy sa h thrown pairs teams water vats moulds crews (va_cpy (upd (upd (upd (fun _ => 0) (0 : Int32).toNatClampNeg z7) (1 : Int32).toNatClampNeg z5) (2 : Int32).toNatClampNeg z1) posts (0 : Int32).toNatClampNeg (3 * (nums (5 : Int32).toNatClampNeg)).toNatClampNeg (3 : Int32).toNatClampNeg) loft (upd nums (5 : Int32).toNatClampNeg ((nums (5 : Int32).toNatClampNeg) + 1)) z3 0 z15 hz_15 _) (cwV 2 hts gX6_make_X6_va rfl rfl rfl (by decide +kernel) ⟨Nat.le_of_ble_eq_true rfl, Nat.le_of_ble_eq_true rfl⟩) hK hP hD hS hA hG [0, 1, 2, 3, 4, 5, 6, 7] hcX6_I3_X6_0 ndX6_0 gtX6_0 rfl rfl rfl hl.1 [.int z3, .ref (h 0)] rfl (Nat.le_of_ble_eq_true rfl) dX6_make_94 ⟨(Nat.le_of_ble_eq_true rfl), (Nat.le_of_ble_eq_true rfl)⟩) hP hD hS hA [0, 1, 2, 3, 4, 5, 6, 7] hcX6_I3_X6_0 (fun H locs hP hS => ?_)
    refine lv_iload_n hx hb dX6_make_97 rfl (lv_at hl 4 rfl) ?_
    refine lv_aload_n hx hb dX6_make_98 rfl (lv_at hl 5 rfl) ?_
    refine lv_iload hx hb dX6_make_99 (lv_at hl 2 rfl) ?_
    refine lv_iconst (v := 1) hx hb dX6_make_101 (by decide) ?_
    replace hF := bnd_some hF
    obtain ⟨z16, hz_16, hF⟩ := hF
    refine krI (kV (As := [.int z4, .int 1]) ⟨hx, hb, hml, hown, hts⟩ (kX6_mo l D cy sa h thrown pairs teams water vats moulds crews (va_cpy (upd (upd (upd (fun _ => 0) (0 : Int32).toNatClampNeg z7) (1 : Int32).toNatClampNeg z5) (2 : Int32).toNatClampNeg z1) posts (0 : Int32).toNatClampNeg (3 * (nums (5 : Int32).toNatClampNeg)).toNatClampNeg (3 : Int32).toNatClampNeg) loft (upd nums (5 : Int32).toNatClampNeg ((nums (5 : Int32).toNatClampNeg) + 1)) z4 1 z16 hz_16 _) (cwV 2 hts gX6_make_X6_mo rfl rfl rfl (by decide +kernel) ⟨Nat.le_of_ble_eq_true rfl, Nat.le_of_ble_eq_true rfl⟩) hK hP hD hS hA hG [0, 1, 2, 3, 4, 5, 6, 7] hcX6_I3_X6_0 ndX6_0 gtX6_0 rfl rfl rfl hl.1 [.int z1, .int z15, .int z3, .ref (h 0)] rfl (Nat.le_of_ble_eq_true rfl) dX6_make_102 ⟨(Nat.le_of_ble_eq_true rfl), (Nat.le_of_ble_eq_true rfl)⟩) hP hD hS hA [0, 1, 2, 3, 4, 5, 6, 7] hcX6_I3_X6_0 (fun H locs hP hS => ?_)
    refine lv_imul hx hb dX6_make_105 ?_
    refine lv_isub hx hb dX6_make_106 ?_
    refine lv_aload_n hx hb dX6_make_107 rfl (lv_at hl 5 rfl) ?_
    refine lv_iload_n hx hb dX6_make_108 rfl (lv_at hl 3 rfl) ?_
    refine lv_iconst (v := 1) hx hb dX6_make_109 (by decide) ?_
    replace hF := bnd_some hF
    obtain ⟨z17, hz_17, hF⟩ := hF
    refine krI (kV (As := [.int z3, .int 1]) ⟨hx, hb, hml, hown, hts⟩ (kX6_va l D cy sa h thrown pairs teams water vats moulds crews (va_cpy (upd (upd (upd (fun _ => 0) (0 : Int32).toNatClampNeg z7) (1 : Int32).toNatClampNeg z5) (2 : Int32).toNatClampNeg z1) posts (0 : Int32).toNatClampNeg (3 * (nums (5 : Int32).toNatClampNeg)).toNatClampNeg (3 : Int32).toNatClampNeg) loft (upd nums (5 : Int32).toNatClampNeg ((nums (5 : Int32).toNatClampNeg) + 1)) z3 1 z17 hz_17 _) (cwV 2 hts gX6_make_X6_va rfl rfl rfl (by decide +kernel) ⟨Nat.le_of_ble_eq_true rfl, Nat.le_of_ble_eq_true rfl⟩) hK hP hD hS hA hG [0, 1, 2, 3, 4, 5, 6, 7] hcX6_I3_X6_0 ndX6_0 gtX6_0 rfl rfl rfl hl.1 [.int (z15 - (z1 * z16)), .int z3, .ref (h 0)] rfl (Nat.le_of_ble_eq_true rfl) dX6_make_110 ⟨(Nat.le_of_ble_eq_true rfl), (Nat.le_of_ble_eq_true rfl)⟩) hP hD hS hA [0, 1, 2, 3, 4, 5, 6, 7] hcX6_I3_X6_0 (fun H locs hP hS => ?_)
    refine lv_aload_n hx hb dX6_make_113 rfl (lv_at hl 5 rfl) ?_
    refine lv_iload_n hx hb dX6_make_114 rfl (lv_at hl 3 rfl) ?_
    refine lv_iconst (v := 2) hx hb dX6_make_115 (by decide) ?_
    replace hF := bnd_some hF
    obtain ⟨z18, hz_18, hF⟩ := hF
    refine krI (kV (As := [.int z3, .int 2]) ⟨hx, hb, hml, hown, hts⟩ (kX6_va l D cy sa h thrown pairs teams water vats moulds crews (va_cpy (upd (upd (upd (fun _ => 0) (0 : Int32).toNatClampNeg z7) (1 : Int32).toNatClampNeg z5) (2 : Int32).toNatClampNeg z1) posts (0 : Int32).toNatClampNeg (3 * (nums (5 : Int32).toNatClampNeg)).toNatClampNeg (3 : Int32).toNatClampNeg) loft (upd nums (5 : Int32).toNatClampNeg ((nums (5 : Int32).toNatClampNeg) + 1)) z3 2 z18 hz_18 _) (cwV 2 hts gX6_make_X6_va rfl rfl rfl (by decide +kernel) ⟨Nat.le_of_ble_eq_true rfl, Nat.le_of_ble_eq_true rfl⟩) hK hP hD hS hA hG [0, 1, 2, 3, 4, 5, 6, 7] hcX6_I3_X6_0 ndX6_0 gtX6_0 rfl rfl rfl hl.1 [.int z17, .int (z15 - (z1 * z16)), .int z3, .ref (h 0)] rfl (Nat.le_of_ble_eq_true rfl) dX6_make_116 ⟨(Nat.le_of_ble_eq_true rfl), (Nat.le_of_ble_eq_true rfl)⟩) hP hD hS hA [0, 1, 2, 3, 4, 5, 6, 7] hcX6_I3_X6_0 (fun H locs hP hS => ?_)
    replace hF := bnd_some hF
    obtain ⟨z19, hz_19, hF⟩ := hF
    refine kwVE (kV (As := [.int z3, .int (z15 - (z1 * z16)), .int z17, .int z18]) ⟨hx, hb, hml, hown, hts⟩ (kX6_let l D cy sa h thrown pairs teams water vats moulds crews (va_cpy (upd (upd (upd (fun _ => 0) (0 : Int32).toNatClampNeg z7) (1 : Int32).toNatClampNeg z5) (2 : Int32).toNatClampNeg z1) posts (0 : Int32).toNatClampNeg (3 * (nums (5 : Int32).toNatClampNeg)).toNatClampNeg (3 : Int32).toNatClampNeg) loft (upd nums (5 : Int32).toNatClampNeg ((nums (5 : Int32).toNatClampNeg) + 1)) z3 (z15 - (z1 * z16)) z17 z18 z19 hz_19 _) (cwV 4 hts gX6_make_X6_let rfl rfl rfl (by decide +kernel) ⟨Nat.le_of_ble_eq_true rfl, Nat.le_of_ble_eq_true rfl⟩) hK hP hD hS hA hG [0, 1, 2, 3, 4, 5, 6, 7] hcX6_I3_X6_0 ndX6_0 gtX6_0 rfl rfl rfl hl.1 [] rfl (Nat.le_of_ble_eq_true rfl) dX6_make_119 ⟨(Nat.le_of_ble_eq_true rfl), (Nat.le_of_ble_eq_true rfl)⟩) hP hD hS hA [0, 1, 2, 3, 4, 5, 6, 7] hcX6_I3_X6_0 hmX6 kpX6_I3_X6_0 (fun H locs hP hD hS => ?_)
    refine lv_aload_n hx hb dX6_make_122 rfl (lv_at hl 5 rfl) ?_
    refine va_get (D := D) (C := RX6) (T := TX6) (N := 10) hx hb hts hiX6 hown hK hP 0 gtX6_I3_0 rfl 5 (by decide) hf16 (fun _ h9 => h9) rfl dX6_make_123 ?_
    refine lv_iconst (v := 3) hx hb dX6_make_126 (by decide) ?_
    refine lv_iload hx hb dX6_make_127 (lv_at hl 2 rfl) ?_
    refine lv_imul hx hb dX6_make_129 ?_
    refine lv_iconst (v := 2) hx hb dX6_make_130 (by decide) ?_
    refine lv_iadd hx hb dX6_make_131 ?_
    refine lv_bipush (v := 50) hx hb dX6_make_132 (by decide) ?_
    refine lv_aload_n hx hb dX6_make_134 rfl (lv_at hl 5 rfl) ?_
    refine lv_iload hx hb dX6_make_135 (lv_at hl 2 rfl) ?_
    refine lv_iconst (v := 2) hx hb dX6_make_137 (by decide) ?_
    replace hF := bnd_some hF
    obtain ⟨z20, hz_20, hF⟩ := hF
    refine krI (kV (As := [.int z4, .int 2]) ⟨hx, hb, hml, hown, hts⟩ (kX6_mo l D cy sa h thrown pairs teams water z19 moulds crews (va_cpy (upd (upd (upd (fun _ => 0) (0 : Int32).toNatClampNeg z7) (1 : Int32).toNatClampNeg z5) (2 : Int32).toNatClampNeg z1) posts (0 : Int32).toNatClampNeg (3 * (nums (5 : Int32).toNatClampNeg)).toNatClampNeg (3 : Int32).toNatClampNeg) loft (upd nums (5 : Int32).toNatClampNeg ((nums (5 : Int32).toNatClampNeg) + 1)) z4 2 z20 hz_20 _) (cwV 2 hts gX6_make_X6_mo rfl rfl rfl (by decide +kernel) ⟨Nat.le_of_ble_eq_true rfl, Nat.le_of_ble_eq_true rfl⟩) hK hP hD hS hA hG [0, 1, 2, 3, 4, 5, 6, 7] hcX6_I3_X6_0 ndX6_0 gtX6_0 rfl rfl rfl hl.1 [.int 50, .int ((3 * z4) + 2), .ref (h 3)] rfl (Nat.le_of_ble_eq_true rfl) dX6_make_138 ⟨(Nat.le_of_ble_eq_true rfl), (Nat.le_of_ble_eq_true rfl)⟩) hP hD hS hA [0, 1, 2, 3, 4, 5, 6, 7] hcX6_I3_X6_0 (fun H locs hP hS => ?_)
    refine lv_iload_n hx hb dX6_make_141 rfl (lv_at hl 4 rfl) ?_
    refine lv_iconst (v := 1) hx hb dX6_make_142 (by decide) ?_
    refine lv_iadd hx hb dX6_make_143 ?_
    refine lv_iconst (v := 2) hx hb dX6_make_144 (by decide) ?_
    refine lv_idiv hx hb dX6_make_145 (by decide) ?_
    refine lv_iadd hx hb dX6_make_146 ?_
    refine va_mmin hx hb (hml.trans hl.1.symm) hown (hts (.methodLink RX6 83 Lib.Math.min.name) (by decide +kernel)) (hts (.static Lib.Math.min.name) (by decide +kernel)) (hts (.initialized "java/lang/Math") (by decide +kernel)) (hts (.code Lib.Math.min.name Lib.Math.min.code 2 (some .int)) (by decide +kernel)) (Nat.le_of_ble_eq_true rfl) (Nat.le_of_ble_eq_true rfl) (Nat.le_of_ble_eq_true rfl) (Nat.le_of_ble_eq_true rfl) dX6_make_147 ?_
    replace hF := ckI_some hF
    obtain ⟨hi_21, hF⟩ := hF
    refine va_iast hx hb hK hP hD hS 3 0 gtX6_I3_3 rfl hi_21 dX6_make_150 (fun H locs hP hD hS => ?_)
    rw [stX6_I3_3] at hP hD
    refine lv_aload_n hx hb dX6_make_151 rfl (lv_at hl 5 rfl) ?_
    refine va_get (D := D) (C := RX6) (T := TX6) (N := 10) hx hb hts hiX6 hown hK hP 0 gtX6_I3_0 rfl 9 (by decide) hf28 (fun _ h9 => h9) rfl dX6_make_152 ?_
    refine lv_iconst (v := 3) hx hb dX6_make_155 (by decide) ?_
    refine lv_dup2_11 hx hb dX6_make_156 rfl rfl ?_
    refine va_iald hx hb hK hP 7 0 gtX6_I3_7 rfl (show ¬ ((3 : Int32) < 0 ∨ 9 ≤ (3 : Int32).toNatClampNeg) from by decide) dX6_make_157 ?_
    refine lv_iload_n hx hb dX6_make_158 rfl (lv_at hl 4 rfl) ?_
    refine lv_iadd hx hb dX6_make_159 ?_
    refine va_iast hx hb hK hP hD hS 7 0 gtX6_I3_7 rfl (show ¬ ((3 : Int32) < 0 ∨ 9 ≤ (3 : Int32).toNatClampNeg) from by decide) dX6_make_160 (fun H locs hP hD hS => ?_)
    rw [stX6_I3_7] at hP hD
    refine lv_aload_n hx hb dX6_make_161 rfl (lv_at hl 5 rfl) ?_
    refine va_get (D := D) (C := RX6) (T := TX6) (N := 10) hx hb hts hiX6 hown hK hP 0 gtX6_I3_0 rfl 9 (by decide) hf28 (fun _ h9 => h9) rfl dX6_make_162 ?_
    refine lv_iconst (v := 4) hx hb dX6_make_165 (by decide) ?_
    refine lv_dup2_11 hx hb dX6_make_166 rfl rfl ?_
    refine va_iald hx hb hK hP 7 0 gtX6_I3_7 rfl (show ¬ ((4 : Int32) < 0 ∨ 9 ≤ (4 : Int32).toNatClampNeg) from by decide) dX6_make_167 ?_
    refine lv_iload_n hx hb dX6_make_168 rfl (lv_at hl 4 rfl) ?_
    refine lv_iload hx hb dX6_make_169 (lv_at hl 1 rfl) ?_
    replace hF := bnd_some hF
    obtain ⟨z25, hz_25, hF⟩ := hF
    refine krI (kS (As := [.int z5]) ⟨hx, hb, hml, hown, hts⟩ (kX6_worth l D cy sa z5 z25 hz_25 _) (cwS 1 hts gX6_make_X6_worth rfl rfl rfl (by decide +kernel) ⟨Nat.le_of_ble_eq_true rfl, Nat.le_of_ble_eq_true rfl⟩) hK hP hD hS hA hG [] rfl rfl rfl hl.1 [.int z1, .int ((upd (upd nums (5 : Int32).toNatClampNeg ((nums (5 : Int32).toNatClampNeg) + 1)) (3 : Int32).toNatClampNeg (((upd nums (5 : Int32).toNatClampNeg ((nums (5 : Int32).toNatClampNeg) + 1)) (3 : Int32).toNatClampNeg) + z1)) (4 : Int32).toNatClampNeg), .int 4, .ref (h 7)] rfl (Nat.le_of_ble_eq_true rfl) dX6_make_171 ⟨(Nat.le_of_ble_eq_true rfl), (Nat.le_of_ble_eq_true rfl)⟩) hP hD hS hA [] rfl (fun H locs hP hS => ?_)
    refine lv_imul hx hb dX6_make_174 ?_
    refine lv_iadd hx hb dX6_make_175 ?_
    refine va_iast hx hb hK hP hD hS 7 0 gtX6_I3_7 rfl (show ¬ ((4 : Int32) < 0 ∨ 9 ≤ (4 : Int32).toNatClampNeg) from by decide) dX6_make_176 (fun H locs hP hD hS => ?_)
    rw [stX6_I3_7] at hP hD
    refine lv_iload_n hx hb dX6_make_177 rfl (lv_at hl 4 rfl) ?_
    replace hP := hP.sub [0, 1, 2, 3, 4, 5, 6, 7] drX6_I3
    replace hD := hD.sub [0, 1, 2, 3, 4, 5, 6, 7] ndX6_0 hcX6_I3_X6_0
    cases hF
    exact hQ _ _ _ _ _ _ (fun _ => 0) dX6_make_178 hP hD hS (Nat.le_of_ble_eq_true rfl) (Nat.le_of_ble_eq_true rfl)
  · replace hF := if_t hF c_2
    refine lv_iconst (v := 0) hx hb dX6_make_10 (by decide) ?_
    cases hF
    exact hQ _ _ _ _ _ _ (fun _ => 0) dX6_make_11 hP hD hS (Nat.le_of_ble_eq_true rfl) (Nat.le_of_ble_eq_true rfl)

def fX6_press_L3 : Nat → FN → FN → FN → Int32 → Option (FN × FN × FN)
  | 0, _, _, _, _ => none
  | k + 1, posts_3, loft_3, nums_3, x1_3 => if x1_3 ≤ 0 then some (posts_3, loft_3, nums_3) else if (nums_3 (5 : Int32).toNatClampNeg) ≤ 0 then some (posts_3, loft_3, nums_3) else (fX6_ps posts_3 0 2).bind fun z4 => (fX6_ps posts_3 0 0).bind fun z5 => (fX6_ps posts_3 0 1).bind fun z6 => ckI ((3 * z5) + z6) 30 (ckI ((3 * z5) + z6) 30 ((fX6_ps (upd posts_3 (2 : Int32).toNatClampNeg ((posts_3 (2 : Int32).toNatClampNeg) - (if z4 < x1_3 then z4 else x1_3))) 0 2).bind fun z11 => if z11 ≤ 0 then ckC 3 0 (3 * ((upd nums_3 (5 : Int32).toNatClampNeg ((nums_3 (5 : Int32).toNatClampNeg) - 1)) (5 : Int32).toNatClampNeg)) 270 270 (fX6_press_L3 k (va_cpy (upd posts_3 (2 : Int32).toNatClampNeg ((posts_3 (2 : Int32).toNatClampNeg) - (if z4 < x1_3 then z4 else x1_3))) (upd posts_3 (2 : Int32).toNatClampNeg ((posts_3 (2 : Int32).toNatClampNeg) - (if z4 < x1_3 then z4 else x1_3))) (3 : Int32).toNatClampNeg (0 : Int32).toNatClampNeg (3 * ((upd nums_3 (5 : Int32).toNatClampNeg ((nums_3 (5 : Int32).toNatClampNeg) - 1)) (5 : Int32).toNatClampNeg)).toNatClampNeg) (upd loft_3 ((3 * z5) + z6).toNatClampNeg ((loft_3 ((3 * z5) + z6).toNatClampNeg) + (if z4 < x1_3 then z4 else x1_3))) (upd nums_3 (5 : Int32).toNatClampNeg ((nums_3 (5 : Int32).toNatClampNeg) - 1)) (x1_3 - (if z4 < x1_3 then z4 else x1_3))) else fX6_press_L3 k (upd posts_3 (2 : Int32).toNatClampNeg ((posts_3 (2 : Int32).toNatClampNeg) - (if z4 < x1_3 then z4 else x1_3))) (upd loft_3 ((3 * z5) + z6).toNatClampNeg ((loft_3 ((3 * z5) + z6).toNatClampNeg) + (if z4 < x1_3 then z4 else x1_3))) nums_3 (x1_3 - (if z4 < x1_3 then z4 else x1_3))))
def fX6_press (posts : FN) (loft : FN) (nums : FN) : Option (FN × FN × FN) := fX6_press_L3 300 posts loft nums 24
abbrev rX6_press : Room := { frames := 1, cells := 0, slots := 0, locals := 40 }
set_option maxHeartbeats 4000000 in
set_option maxRecDepth 100000 in
theorem kX6_press (l : Launch) (D : va_G) (cy : Nat → ClassId) (sa : Nat → Nat) (h : Nat → Nat) (thrown : Int32) (pairs : Int32) (teams : Int32) (water : FN) (vats : FN) (moulds : FN) (crews : FN) (posts : FN) (loft : FN) (nums : FN) (z : FN × FN × FN) (hF : fX6_press posts loft nums = some z) : KV l D (tyW cy) sa yX6_press wsX6_press rX6_press [.ref (h 0)] (wX6 cy h thrown pairs teams water vats moulds crews posts loft nums) (fun _ => wX6 cy h thrown pairs teams water vats moulds crews z.1 z.2.1 z.2.2) 0 0 := by
  refine KV.of (cc := cX6_press) (maxL := 3) (by decide +kernel) rfl (Nat.le_of_ble_eq_true rfl) ?_
  intro p e s m args below meth c A ls Q hE hQ
  obtain ⟨hx, hb, hml, hown, hts, hA, hP, hK, hD, hG, hl, hnm⟩ := hE
  replace hown : s.vm.findClass RX6 = some m.cls := hown
  have hiX6 : ∀ w ∈ u_ws RX6 TX6 10, w ∈ wsX6_press := by decide +kernel
  have hf22 : (Cond.fieldLink RX6 22 "RagVatsModel" "posts" "[I").before args s = true := hts _ (by decide +kernel)
  have hf25 : (Cond.fieldLink RX6 25 "RagVatsModel" "loft" "[I").before args s = true := hts _ (by decide +kernel)
  have hf28 : (Cond.fieldLink RX6 28 "RagVatsModel" "numbers" "[I").before args s = true := hts _ (by decide +kernel)
  replace hl : lv_has ls 3 [(0, .ref (h 0))] := hl
  have hS : va_S A s.heap s.heap [] := va_S.rf
  have L3 : ∀ (k : Nat) (posts_3 : FN) (loft_3 : FN) (nums_3 : FN) (x1_3 : Int32), fX6_press_L3 k posts_3 loft_3 nums_3 x1_3 = some z → ∀ (H : Heap) (locs : List Loc) (ls : Array Slot), va_P D vwCl (wX6 cy h thrown pairs teams water vats moulds crews posts_3 loft_3 nums_3) H → va_D A (wX6 cy h thrown pairs teams water vats moulds crews posts_3 loft_3 nums_3) → va_S A s.heap H locs → lv_has ls 3 [(0, .ref (h 0)), (1, .int x1_3)] → W p l e rX6_press s m args below meth c H locs 0 0 Q (F0 m 3 ls []) := by
    intro k
    induction k with
    | zero =>
      intro posts_3 loft_3 nums_3 x1_3 hF
      rw [fX6_press_L3] at hF
      cases hF
    | succ k ih =>
      intro posts_3 loft_3 nums_3 x1_3 hF H locs ls hP hD hS hl
      rw [fX6_press_L3] at hF
      refine lv_iload_n hx hb dX6_press_3 rfl (lv_at hl 1 rfl) ?_
      refine lv_if_le (tgt := 111) hx hb dX6_press_4 (by decide) (fun c_1 => ?_) (fun c_1 => ?_)
      · replace hF := if_t hF c_1
        cases hF
        exact hQ _ _ _ _ _ _ (fun _ => 0) dX6_press_111 hP hD hS (Nat.le_of_ble_eq_true rfl) (Nat.le_of_ble_eq_true rfl)
      · replace hF := if_f hF c_1
        refine lv_aload_n hx hb dX6_press_7 rfl (lv_at hl 0 rfl) ?_
        refine va_get (D := D) (C := RX6) (T := TX6) (N := 10) hx hb hts hiX6 hown hK hP 0 gtX6_0 rfl 9 (by decide) hf28 (fun _ h9 => h9) rfl dX6_press_8 ?_
        refine lv_iconst (v := 5) hx hb dX6_press_11 (by decide) ?_
        refine va_iald hx hb hK hP 7 0 gtX6_7 rfl (show ¬ ((5 : Int32) < 0 ∨ 9 ≤ (5 : Int32).toNatClampNeg) from by decide) dX6_press_12 ?_
        refine lv_if_le (tgt := 111) hx hb dX6_press_13 (by decide) (fun c_3 => ?_) (fun c_3 => ?_)
        · replace hF := if_t hF c_3
          cases hF
          exact hQ _ _ _ _ _ _ (fun _ => 0) dX6_press_111 hP hD hS (Nat.le_of_ble_eq_true rfl) (Nat.le_of_ble_eq_true rfl)
        · replace hF := if_f hF c_3
          refine lv_iload_n hx hb dX6_press_16 rfl (lv_at hl 1 rfl) ?_
          refine lv_aload_n hx hb dX6_press_17 rfl (lv_at hl 0 rfl) ?_
          refine lv_iconst (v := 0) hx hb dX6_press_18 (by decide) ?_
          refine lv_iconst (v := 2) hx hb dX6_press_19 (by decide) ?_
          replace hF := bnd_some hF
          obtain ⟨z4, hz_4, hF⟩ := hF
          refine krI (kV (As := [.int 0, .int 2]) ⟨hx, hb, hml, hown, hts⟩ (kX6_ps l D cy sa h thrown pairs teams water vats moulds crews posts_3 loft_3 nums_3 0 2 z4 hz_4 _) (cwV 2 hts gX6_press_X6_ps rfl rfl rfl (by decide +kernel) ⟨Nat.le_of_ble_eq_true rfl, Nat.le_of_ble_eq_true rfl⟩) hK hP hD hS hA hG [0, 1, 2, 3, 4, 5, 6, 7] hcX6_X6_0 ndX6_0 gtX6_0 rfl rfl rfl hl.1 [.int x1_3] rfl (Nat.le_of_ble_eq_true rfl) dX6_press_20 ⟨(Nat.le_of_ble_eq_true rfl), (Nat.le_of_ble_eq_true rfl)⟩) hP hD hS hA [0, 1, 2, 3, 4, 5, 6, 7] hcX6_X6_0 (fun H locs hP hS => ?_)
          refine va_mmin hx hb (hml.trans hl.1.symm) hown (hts (.methodLink RX6 83 Lib.Math.min.name) (by decide +kernel)) (hts (.static Lib.Math.min.name) (by decide +kernel)) (hts (.initialized "java/lang/Math") (by decide +kernel)) (hts (.code Lib.Math.min.name Lib.Math.min.code 2 (some .int)) (by decide +kernel)) (Nat.le_of_ble_eq_true rfl) (Nat.le_of_ble_eq_true rfl) (Nat.le_of_ble_eq_true rfl) (Nat.le_of_ble_eq_true rfl) dX6_press_23 ?_
          refine lv_istore_n (lv' := [(2, .int (if z4 < x1_3 then z4 else x1_3)), (0, .ref (h 0)), (1, .int x1_3)]) hx hb dX6_press_26 rfl hl (by decide) rfl (fun ls hl => ?_)
          refine lv_aload_n hx hb dX6_press_27 rfl (lv_at hl 1 rfl) ?_
          refine va_get (D := D) (C := RX6) (T := TX6) (N := 10) hx hb hts hiX6 hown hK hP 0 gtX6_0 rfl 8 (by decide) hf25 (fun _ h9 => h9) rfl dX6_press_28 ?_
          refine lv_iconst (v := 3) hx hb dX6_press_31 (by decide) ?_
          refine lv_aload_n hx hb dX6_press_32 rfl (lv_at hl 1 rfl) ?_
          refine lv_iconst (v := 0) hx hb dX6_press_33 (by decide) ?_
          refine lv_iconst (v := 0) hx hb dX6_press_34 (by decide) ?_
          replace hF := bnd_some hF
          obtain ⟨z5, hz_5, hF⟩ := hF
          refine krI (kV (As := [.int 0, .int 0]) ⟨hx, hb, hml, hown, hts⟩ (kX6_ps l D cy sa h thrown pairs teams water vats moulds crews posts_3 loft_3 nums_3 0 0 z5 hz_5 _) (cwV 2 hts gX6_press_X6_ps rfl rfl rfl (by decide +kernel) ⟨Nat.le_of_ble_eq_true rfl, Nat.le_of_ble_eq_true rfl⟩) hK hP hD hS hA hG [0, 1, 2, 3, 4, 5, 6, 7] hcX6_X6_0 ndX6_0 gtX6_0 rfl rfl rfl hl.1 [.int 3, .ref (h 6)] rfl (Nat.le_of_ble_eq_true rfl) dX6_press_35 ⟨(Nat.le_of_ble_eq_true rfl), (Nat.le_of_ble_eq_true rfl)⟩) hP hD hS hA [0, 1, 2, 3, 4, 5, 6, 7] hcX6_X6_0 (fun H locs hP hS => ?_)
          refine lv_imul hx hb dX6_press_38 ?_
          refine lv_aload_n hx hb dX6_press_39 rfl (lv_at hl 1 rfl) ?_
          refine lv_iconst (v := 0) hx hb dX6_press_40 (by decide) ?_
          refine lv_iconst (v := 1) hx hb dX6_press_41 (by decide) ?_
          replace hF := bnd_some hF
          obtain ⟨z6, hz_6, hF⟩ := hF
          refine krI (kV (As := [.int 0, .int 1]) ⟨hx, hb, hml, hown, hts⟩ (kX6_ps l D cy sa h thrown pairs teams water vats moulds crews posts_3 loft_3 nums_3 0 1 z6 hz_6 _) (cwV 2 hts gX6_press_X6_ps rfl rfl rfl (by decide +kernel) ⟨Nat.le_of_ble_eq_true rfl, Nat.le_of_ble_eq_true rfl⟩) hK hP hD hS hA hG [0, 1, 2, 3, 4, 5, 6, 7] hcX6_X6_0 ndX6_0 gtX6_0 rfl rfl rfl hl.1 [.int (3 * z5), .ref (h 6)] rfl (Nat.le_of_ble_eq_true rfl) dX6_press_42 ⟨(Nat.le_of_ble_eq_true rfl), (Nat.le_of_ble_eq_true rfl)⟩) hP hD hS hA [0, 1, 2, 3, 4, 5, 6, 7] hcX6_X6_0 (fun H locs hP hS => ?_)
          refine lv_iadd hx hb dX6_press_45 ?_
          refine lv_dup2_11 hx hb dX6_press_46 rfl rfl ?_
          replace hF := ckI_some hF
          obtain ⟨hi_7, hF⟩ := hF
          refine va_iald hx hb hK hP 6 0 gtX6_6 rfl hi_7 dX6_press_47 ?_
          refine lv_iload_n hx hb dX6_press_48 rfl (lv_at hl 0 rfl) ?_
          refine lv_iadd hx hb dX6_press_49 ?_
          replace hF := ckI_some hF
          obtain ⟨hi_8, hF⟩ := hF
          refine va_iast hx hb hK hP hD hS 6 0 gtX6_6 rfl hi_8 dX6_press_50 (fun H locs hP hD hS => ?_)
          rw [stX6_6] at hP hD
          refine lv_aload_n hx hb dX6_press_51 rfl (lv_at hl 1 rfl) ?_
          refine va_get (D := D) (C := RX6) (T := TX6) (N := 10) hx hb hts hiX6 hown hK hP 0 gtX6_0 rfl 7 (by decide) hf22 (fun _ h9 => h9) rfl dX6_press_52 ?_
          refine lv_iconst (v := 2) hx hb dX6_press_55 (by decide) ?_
          refine lv_dup2_11 hx hb dX6_press_56 rfl rfl ?_
          refine va_iald hx hb hK hP 5 0 gtX6_5 rfl (show ¬ ((2 : Int32) < 0 ∨ 270 ≤ (2 : Int32).toNatClampNeg) from by decide) dX6_press_57 ?_
          refine lv_iload_n hx hb dX6_press_58 rfl (lv_at hl 0 rfl) ?_
          refine lv_isub hx hb dX6_press_59 ?_
          refine va_iast hx hb hK hP hD hS 5 0 gtX6_5 rfl (show ¬ ((2 : Int32) < 0 ∨ 270 ≤ (2 : Int32).toNatClampNeg) from by decide) dX6_press_60 (fun H locs hP hD hS => ?_)
          rw [stX6_5] at hP hD
          refine lv_iload_n hx hb dX6_press_61 rfl (lv_at hl 2 rfl) ?_
          refine lv_iload_n hx hb dX6_press_62 rfl (lv_at hl 0 rfl) ?_
          refine lv_isub hx hb dX6_press_63 ?_
          refine lv_istore_n (lv' := [(1, .int (x1_3 - (if z4 < x1_3 then z4 else x1_3))), (2, .int (if z4 < x1_3 then z4 else x1_3)), (0, .ref (h 0))]) hx hb dX6_press_64 rfl hl (by decide) rfl (fun ls hl => ?_)
          refine lv_aload_n hx hb dX6_press_65 rfl (lv_at hl 2 rfl) ?_
          refine lv_iconst (v := 0) hx hb dX6_press_66 (by decide) ?_
          refine lv_iconst (v := 2) hx hb dX6_press_67 (by decide) ?_
          replace hF := bnd_some hF
          obtain ⟨z11, hz_11, hF⟩ := hF
          refine krI (kV (As := [.int 0, .int 2]) ⟨hx, hb, hml, hown, hts⟩ (kX6_ps l D cy sa h thrown pairs teams water vats moulds crews (upd posts_3 (2 : Int32).toNatClampNeg ((posts_3 (2 : Int32).toNatClampNeg) - (if z4 < x1_3 then z4 else x1_3))) (upd loft_3 ((3 * z5) + z6).toNatClampNeg ((loft_3 ((3 * z5) + z6).toNatClampNeg) + (if z4 < x1_3 then z4 else x1_3))) nums_3 0 2 z11 hz_11 _) (cwV 2 hts gX6_press_X6_ps rfl rfl rfl (by decide +kernel) ⟨Nat.le_of_ble_eq_true rfl, Nat.le_of_ble_eq_true rfl⟩) hK hP hD hS hA hG [0, 1, 2, 3, 4, 5, 6, 7] hcX6_X6_0 ndX6_0 gtX6_0 rfl rfl rfl hl.1 [] rfl (Nat.le_of_ble_eq_true rfl) dX6_press_68 ⟨(Nat.le_of_ble_eq_true rfl), (Nat.le_of_ble_eq_true rfl)⟩) hP hD hS hA [0, 1, 2, 3, 4, 5, 6, 7] hcX6_X6_0 (fun H locs hP hS => ?_)
          refine lv_if_le (tgt := 77) hx hb dX6_press_71 (by decide) (fun c_12 => ?_) (fun c_12 => ?_)
          · replace hF := if_t hF c_12
            refine lv_aload_n hx hb dX6_press_77 rfl (lv_at hl 2 rfl) ?_
            refine va_get (D := D) (C := RX6) (T := TX6) (N := 10) hx hb hts hiX6 hown hK hP 0 gtX6_0 rfl 9 (by decide) hf28 (fun _ h9 => h9) rfl dX6_press_78 ?_
            refine lv_iconst (v := 5) hx hb dX6_press_81 (by decide) ?_
            refine lv_dup2_11 hx hb dX6_press_82 rfl rfl ?_
            refine va_iald hx hb hK hP 7 0 gtX6_7 rfl (show ¬ ((5 : Int32) < 0 ∨ 9 ≤ (5 : Int32).toNatClampNeg) from by decide) dX6_press_83 ?_
            refine lv_iconst (v := 1) hx hb dX6_press_84 (by decide) ?_
            refine lv_isub hx hb dX6_press_85 ?_
            refine va_iast hx hb hK hP hD hS 7 0 gtX6_7 rfl (show ¬ ((5 : Int32) < 0 ∨ 9 ≤ (5 : Int32).toNatClampNeg) from by decide) dX6_press_86 (fun H locs hP hD hS => ?_)
            rw [stX6_7] at hP hD
            refine lv_aload_n hx hb dX6_press_87 rfl (lv_at hl 2 rfl) ?_
            refine va_get (D := D) (C := RX6) (T := TX6) (N := 10) hx hb hts hiX6 hown hK hP 0 gtX6_0 rfl 7 (by decide) hf22 (fun _ h9 => h9) rfl dX6_press_88 ?_
            refine lv_iconst (v := 3) hx hb dX6_press_91 (by decide) ?_
            refine lv_aload_n hx hb dX6_press_92 rfl (lv_at hl 2 rfl) ?_
            refine va_get (D := D) (C := RX6) (T := TX6) (N := 10) hx hb hts hiX6 hown hK hP 0 gtX6_0 rfl 7 (by decide) hf22 (fun _ h9 => h9) rfl dX6_press_93 ?_
            refine lv_iconst (v := 0) hx hb dX6_press_96 (by decide) ?_
            refine lv_iconst (v := 3) hx hb dX6_press_97 (by decide) ?_
            refine lv_aload_n hx hb dX6_press_98 rfl (lv_at hl 2 rfl) ?_
            refine va_get (D := D) (C := RX6) (T := TX6) (N := 10) hx hb hts hiX6 hown hK hP 0 gtX6_0 rfl 9 (by decide) hf28 (fun _ h9 => h9) rfl dX6_press_99 ?_
            refine lv_iconst (v := 5) hx hb dX6_press_102 (by decide) ?_
            refine va_iald hx hb hK hP 7 0 gtX6_7 rfl (show ¬ ((5 : Int32) < 0 ∨ 9 ≤ (5 : Int32).toNatClampNeg) from by decide) dX6_press_103 ?_
            refine lv_imul hx hb dX6_press_104 ?_
            replace hF := ckC_some hF
            obtain ⟨hc_16, hF⟩ := hF
            refine va_copyi (own := RX6) hx hb (hml.trans hl.1.symm) hown (hts (.methodLink RX6 109 arraycopyName) (by decide +kernel)) (hts (.native arraycopyName) (by decide +kernel)) (hts (.static arraycopyName) (by decide +kernel)) (hts (.initialized "java/lang/System") (by decide +kernel)) hK hP hD hS 5 5 0 0 gtX6_5 gtX6_5 rfl rfl rfl hc_16.1 hc_16.2.1 hc_16.2.2.1 hc_16.2.2.2.1 hc_16.2.2.2.2 (fun _ _ => rfl) (Nat.le_of_ble_eq_true rfl) (by decide) dX6_press_105 (fun H locs hP hD hS => ?_)
            rw [stX6_5] at hP hD
            refine lv_goto (tgt := 3) hx hb dX6_press_108 (by decide) ?_
            exact ih  (va_cpy (upd posts_3 (2 : Int32).toNatClampNeg ((posts_3 (2 : Int32).toNatClampNeg) - (if z4 < x1_3 then z4 else x1_3))) (upd posts_3 (2 : Int32).toNatClampNeg ((posts_3 (2 : Int32).toNatClampNeg) - (if z4 < x1_3 then z4 else x1_3))) (3 : Int32).toNatClampNeg (0 : Int32).toNatClampNeg (3 * ((upd nums_3 (5 : Int32).toNatClampNeg ((nums_3 (5 : Int32).toNatClampNeg) - 1)) (5 : Int32).toNatClampNeg)).toNatClampNeg) (upd loft_3 ((3 * z5) + z6).toNatClampNeg ((loft_3 ((3 * z5) + z6).toNatClampNeg) + (if z4 < x1_3 then z4 else x1_3))) (upd nums_3 (5 : Int32).toNatClampNeg ((nums_3 (5 : Int32).toNatClampNeg) - 1)) (x1_3 - (if z4 < x1_3 then z4 else x1_3))  hF _ _ _ hP hD hS (lv_sub hl [2, 0] rfl)
          · replace hF := if_f hF c_12
            refine lv_goto (tgt := 3) hx hb dX6_press_74 (by decide) ?_
            exact ih  (upd posts_3 (2 : Int32).toNatClampNeg ((posts_3 (2 : Int32).toNatClampNeg) - (if z4 < x1_3 then z4 else x1_3))) (upd loft_3 ((3 * z5) + z6).toNatClampNeg ((loft_3 ((3 * z5) + z6).toNatClampNeg) + (if z4 < x1_3 then z4 else x1_3))) nums_3 (x1_3 - (if z4 < x1_3 then z4 else x1_3))  hF _ _ _ hP hD hS (lv_sub hl [2, 0] rfl)
  unfold fX6_press at hF
  refine lv_bipush (v := 24) hx hb dX6_press_0 (by decide) ?_
  refine lv_istore_n (lv' := [(1, .int 24), (0, .ref (h 0))]) hx hb dX6_press_2 rfl hl (by decide) rfl (fun ls hl => ?_)
  exact L3 300 posts loft nums 24  hF _ _ _ hP hD hS (lv_sub hl [1, 0] rfl)

def fX6_dayOn_L8 (teams : Int32) (crews : FN) (loft : FN) : Nat → FN → FN → FN → FN → Int32 → Int32 → Option (Int32 × FN × FN × FN × FN × FN)
  | 0, _, _, _, _, _, _ => none
  | k + 1, vats_8, moulds_8, posts_8, nums_8, x1_8, x2_8 => if teams ≤ x2_8 then (fX6_press posts_8 loft nums_8).bind fun z3 => some (x1_8, vats_8, moulds_8, z3.1, z3.2.1, upd z3.2.2 (0 : Int32).toNatClampNeg ((z3.2.2 (0 : Int32).toNatClampNeg) + 1)) else (fX6_make vats_8 moulds_8 crews posts_8 nums_8 x2_8).bind fun z6 => fX6_dayOn_L8 teams crews loft k z6.2.1 z6.2.2.1 z6.2.2.2.1 z6.2.2.2.2 (x1_8 + z6.1) (x2_8 + 1)
def fX6_dayOn (teams : Int32) (water : FN) (vats : FN) (moulds : FN) (crews : FN) (posts : FN) (loft : FN) (nums : FN) : Option (Int32 × FN × FN × FN × FN × FN) := (fX6_beat water vats nums).bind fun z1 => fX6_dayOn_L8 teams crews loft 4 z1 moulds posts nums 0 0
abbrev rX6_dayOn : Room := { frames := 5, cells := 4, slots := 12, locals := 113 }
set_option maxHeartbeats 4000000 in
set_option maxRecDepth 100000 in
theorem kX6_dayOn (l : Launch) (D : va_G) (cy : Nat → ClassId) (sa : Nat → Nat) (h : Nat → Nat) (thrown : Int32) (pairs : Int32) (teams : Int32) (water : FN) (vats : FN) (moulds : FN) (crews : FN) (posts : FN) (loft : FN) (nums : FN) (z : Int32 × FN × FN × FN × FN × FN) (hF : fX6_dayOn teams water vats moulds crews posts loft nums = some z) : KI l D (tyW cy) sa yX6_dayOn wsX6_dayOn rX6_dayOn [.ref (h 0)] (wX6 cy h thrown pairs teams water vats moulds crews posts loft nums) z.1 (fun _ => wX6 cy h thrown pairs teams water z.2.1 z.2.2.1 crews z.2.2.2.1 z.2.2.2.2.1 z.2.2.2.2.2) 4 12 := by
  refine KI.of (cc := cX6_dayOn) (maxL := 3) (by decide +kernel) rfl (Nat.le_of_ble_eq_true rfl) ?_
  intro p e s m args below meth c A ls Q hE hQ
  obtain ⟨hx, hb, hml, hown, hts, hA, hP, hK, hD, hG, hl, hnm⟩ := hE
  replace hown : s.vm.findClass RX6 = some m.cls := hown
  have hiX6 : ∀ w ∈ u_ws RX6 TX6 10, w ∈ wsX6_dayOn := by decide +kernel
  have hf28 : (Cond.fieldLink RX6 28 "RagVatsModel" "numbers" "[I").before args s = true := hts _ (by decide +kernel)
  have hf42 : (Cond.fieldLink RX6 42 "RagVatsModel" "teams" "I").before args s = true := hts _ (by decide +kernel)
  replace hl : lv_has ls 3 [(0, .ref (h 0))] := hl
  have hS : va_S A s.heap s.heap [] := va_S.rf
  have L8 : ∀ (k : Nat) (vats_8 : FN) (moulds_8 : FN) (posts_8 : FN) (nums_8 : FN) (x1_8 : Int32) (x2_8 : Int32), fX6_dayOn_L8 teams crews loft k vats_8 moulds_8 posts_8 nums_8 x1_8 x2_8 = some z → ∀ (cu su : Nat), cu + 1 * k ≤ 4 → su + 3 * k ≤ 12 → ∀ (H : Heap) (locs : List Loc) (ls : Array Slot), va_P D vwCl (wX6 cy h thrown pairs teams water vats_8 moulds_8 crews posts_8 loft nums_8) H → va_D A (wX6 cy h thrown pairs teams water vats_8 moulds_8 crews posts_8 loft nums_8) → va_S A s.heap H locs → lv_has ls 3 [(0, .ref (h 0)), (1, .int x1_8), (2, .int x2_8)] → W p l e rX6_dayOn s m args below meth c H locs cu su Q (F0 m 8 ls []) := by
    intro k
    induction k with
    | zero =>
      intro vats_8 moulds_8 posts_8 nums_8 x1_8 x2_8 hF
      rw [fX6_dayOn_L8] at hF
      cases hF
    | succ k ih =>
      intro vats_8 moulds_8 posts_8 nums_8 x1_8 x2_8 hF cu su hcu hsu H locs ls hP hD hS hl
      rw [fX6_dayOn_L8] at hF
      refine lv_iload_n hx hb dX6_dayOn_8 rfl (lv_at hl 2 rfl) ?_
      refine lv_aload_n hx hb dX6_dayOn_9 rfl (lv_at hl 0 rfl) ?_
      refine va_get (D := D) (C := RX6) (T := TX6) (N := 10) hx hb hts hiX6 hown hK hP 0 gtX6_0 rfl 2 (by decide) hf42 (fun _ h9 => h9) rfl dX6_dayOn_10 ?_
      refine lv_icmp_ge (tgt := 30) hx hb dX6_dayOn_13 (by decide) (fun c_2 => ?_) (fun c_2 => ?_)
      · replace hF := if_t hF c_2
        refine lv_aload_n hx hb dX6_dayOn_30 rfl (lv_at hl 0 rfl) ?_
        replace hF := bnd_some hF
        obtain ⟨z3, hz_3, hF⟩ := hF
        refine kwVE (kV (As := []) ⟨hx, hb, hml, hown, hts⟩ (kX6_press l D cy sa h thrown pairs teams water vats_8 moulds_8 crews posts_8 loft nums_8 z3 hz_3 _) (cwV 0 hts gX6_dayOn_X6_press rfl rfl rfl (by decide +kernel) ⟨Nat.le_of_ble_eq_true rfl, Nat.le_of_ble_eq_true rfl⟩) hK hP hD hS hA hG [0, 1, 2, 3, 4, 5, 6, 7] hcX6_X6_0 ndX6_0 gtX6_0 rfl rfl rfl hl.1 [] rfl (Nat.le_of_ble_eq_true rfl) dX6_dayOn_31 ⟨(by show _ ≤ (4 : Nat); omega), (by show _ ≤ (12 : Nat); omega)⟩) hP hD hS hA [0, 1, 2, 3, 4, 5, 6, 7] hcX6_X6_0 hmX6 kpX6_X6_0 (fun H locs hP hD hS => ?_)
        refine lv_aload_n hx hb dX6_dayOn_34 rfl (lv_at hl 0 rfl) ?_
        refine va_get (D := D) (C := RX6) (T := TX6) (N := 10) hx hb hts hiX6 hown hK hP 0 gtX6_0 rfl 9 (by decide) hf28 (fun _ h9 => h9) rfl dX6_dayOn_35 ?_
        refine lv_iconst (v := 0) hx hb dX6_dayOn_38 (by decide) ?_
        refine lv_dup2_11 hx hb dX6_dayOn_39 rfl rfl ?_
        refine va_iald hx hb hK hP 7 0 gtX6_7 rfl (show ¬ ((0 : Int32) < 0 ∨ 9 ≤ (0 : Int32).toNatClampNeg) from by decide) dX6_dayOn_40 ?_
        refine lv_iconst (v := 1) hx hb dX6_dayOn_41 (by decide) ?_
        refine lv_iadd hx hb dX6_dayOn_42 ?_
        refine va_iast hx hb hK hP hD hS 7 0 gtX6_7 rfl (show ¬ ((0 : Int32) < 0 ∨ 9 ≤ (0 : Int32).toNatClampNeg) from by decide) dX6_dayOn_43 (fun H locs hP hD hS => ?_)
        rw [stX6_7] at hP hD
        refine lv_iload_n hx hb dX6_dayOn_44 rfl (lv_at hl 1 rfl) ?_
        cases hF
        exact hQ _ _ _ _ _ _ (fun _ => 0) dX6_dayOn_45 hP hD hS (by omega) (by omega)
      · replace hF := if_f hF c_2
        refine lv_iload_n hx hb dX6_dayOn_16 rfl (lv_at hl 1 rfl) ?_
        refine lv_aload_n hx hb dX6_dayOn_17 rfl (lv_at hl 0 rfl) ?_
        refine lv_iload_n hx hb dX6_dayOn_18 rfl (lv_at hl 2 rfl) ?_
        replace hF := bnd_some hF
        obtain ⟨z6, hz_6, hF⟩ := hF
        refine kwIE (kV (As := [.int x2_8]) ⟨hx, hb, hml, hown, hts⟩ (kX6_make l D cy sa h thrown pairs teams water vats_8 moulds_8 crews posts_8 loft nums_8 x2_8 z6 hz_6 _) (cwV 1 hts gX6_dayOn_X6_make rfl rfl rfl (by decide +kernel) ⟨Nat.le_of_ble_eq_true rfl, Nat.le_of_ble_eq_true rfl⟩) hK hP hD hS hA hG [0, 1, 2, 3, 4, 5, 6, 7] hcX6_X6_0 ndX6_0 gtX6_0 rfl rfl rfl hl.1 [.int x1_8] rfl (Nat.le_of_ble_eq_true rfl) dX6_dayOn_19 ⟨(by show _ ≤ (4 : Nat); omega), (by show _ ≤ (12 : Nat); omega)⟩) hP hD hS hA [0, 1, 2, 3, 4, 5, 6, 7] hcX6_X6_0 hmX6 kpX6_X6_0 (fun H locs hP hD hS => ?_)
        refine lv_iadd hx hb dX6_dayOn_22 ?_
        refine lv_istore_n (lv' := [(1, .int (x1_8 + z6.1)), (0, .ref (h 0)), (2, .int x2_8)]) hx hb dX6_dayOn_23 rfl hl (by decide) rfl (fun ls hl => ?_)
        refine lv_iinc (v := x2_8 + 1) (lv' := [(2, .int (x2_8 + 1)), (1, .int (x1_8 + z6.1)), (0, .ref (h 0))]) hx hb dX6_dayOn_24 hl (k := 2) rfl rfl (by decide) rfl (fun ls hl => ?_)
        refine lv_goto (tgt := 8) hx hb dX6_dayOn_27 (by decide) ?_
        exact ih  z6.2.1 z6.2.2.1 z6.2.2.2.1 z6.2.2.2.2 (x1_8 + z6.1) (x2_8 + 1)  hF (cu + 1) (su + 3) (by omega) (by omega) _ _ _ hP hD hS (lv_sub hl [2, 1, 0] rfl)
  unfold fX6_dayOn at hF
  refine lv_aload_n hx hb dX6_dayOn_0 rfl (lv_at hl 0 rfl) ?_
  replace hF := bnd_some hF
  obtain ⟨z1, hz_1, hF⟩ := hF
  refine kwVE (kV (As := []) ⟨hx, hb, hml, hown, hts⟩ (kX6_beat l D cy sa h thrown pairs teams water vats moulds crews posts loft nums z1 hz_1 _) (cwV 0 hts gX6_dayOn_X6_beat rfl rfl rfl (by decide +kernel) ⟨Nat.le_of_ble_eq_true rfl, Nat.le_of_ble_eq_true rfl⟩) hK hP hD hS hA hG [0, 1, 2, 3, 4, 5, 6, 7] hcX6_X6_0 ndX6_0 gtX6_0 rfl rfl rfl hl.1 [] rfl (Nat.le_of_ble_eq_true rfl) dX6_dayOn_1 ⟨(Nat.le_of_ble_eq_true rfl), (Nat.le_of_ble_eq_true rfl)⟩) hP hD hS hA [0, 1, 2, 3, 4, 5, 6, 7] hcX6_X6_0 hmX6 kpX6_X6_0 (fun H locs hP hD hS => ?_)
  refine lv_iconst (v := 0) hx hb dX6_dayOn_4 (by decide) ?_
  refine lv_istore_n (lv' := [(1, .int 0), (0, .ref (h 0))]) hx hb dX6_dayOn_5 rfl hl (by decide) rfl (fun ls hl => ?_)
  refine lv_iconst (v := 0) hx hb dX6_dayOn_6 (by decide) ?_
  refine lv_istore_n (lv' := [(2, .int 0), (1, .int 0), (0, .ref (h 0))]) hx hb dX6_dayOn_7 rfl hl (by decide) rfl (fun ls hl => ?_)
  exact L8 4 z1 moulds posts nums 0 0  hF (0) (0) (by omega) (by omega) _ _ _ hP hD hS (lv_sub hl [2, 1, 0] rfl)

def fX6_daysOn_L4 (teams : Int32) (water : FN) (crews : FN) (a1 : Int32) : Nat → FN → FN → FN → FN → FN → Int32 → Int32 → Option (Int32 × FN × FN × FN × FN × FN)
  | 0, _, _, _, _, _, _, _ => none
  | k + 1, vats_4, moulds_4, posts_4, loft_4, nums_4, x2_4, x3_4 => if a1 ≤ x3_4 then some (x2_4, vats_4, moulds_4, posts_4, loft_4, nums_4) else (fX6_dayOn teams water vats_4 moulds_4 crews posts_4 loft_4 nums_4).bind fun z2 => fX6_daysOn_L4 teams water crews a1 k z2.2.1 z2.2.2.1 z2.2.2.2.1 z2.2.2.2.2.1 z2.2.2.2.2.2 (x2_4 + z2.1) (x3_4 + 1)
def fX6_daysOn (teams : Int32) (water : FN) (vats : FN) (moulds : FN) (crews : FN) (posts : FN) (loft : FN) (nums : FN) (a1 : Int32) : Option (Int32 × FN × FN × FN × FN × FN) := fX6_daysOn_L4 teams water crews a1 41 vats moulds posts loft nums 0 0
abbrev rX6_daysOn : Room := { frames := 6, cells := 164, slots := 492, locals := 135 }
set_option maxHeartbeats 4000000 in
set_option maxRecDepth 100000 in
theorem kX6_daysOn (l : Launch) (D : va_G) (cy : Nat → ClassId) (sa : Nat → Nat) (h : Nat → Nat) (thrown : Int32) (pairs : Int32) (teams : Int32) (water : FN) (vats : FN) (moulds : FN) (crews : FN) (posts : FN) (loft : FN) (nums : FN) (a1 : Int32) (z : Int32 × FN × FN × FN × FN × FN) (hF : fX6_daysOn teams water vats moulds crews posts loft nums a1 = some z) : KI l D (tyW cy) sa yX6_daysOn wsX6_daysOn rX6_daysOn [.ref (h 0), .int a1] (wX6 cy h thrown pairs teams water vats moulds crews posts loft nums) z.1 (fun _ => wX6 cy h thrown pairs teams water z.2.1 z.2.2.1 crews z.2.2.2.1 z.2.2.2.2.1 z.2.2.2.2.2) 164 492 := by
  refine KI.of (cc := cX6_daysOn) (maxL := 4) (by decide +kernel) rfl (Nat.le_of_ble_eq_true rfl) ?_
  intro p e s m args below meth c A ls Q hE hQ
  obtain ⟨hx, hb, hml, hown, hts, hA, hP, hK, hD, hG, hl, hnm⟩ := hE
  replace hown : s.vm.findClass RX6 = some m.cls := hown
  replace hl : lv_has ls 4 [(0, .ref (h 0)), (1, .int a1)] := hl
  have hS : va_S A s.heap s.heap [] := va_S.rf
  have L4 : ∀ (k : Nat) (vats_4 : FN) (moulds_4 : FN) (posts_4 : FN) (loft_4 : FN) (nums_4 : FN) (x2_4 : Int32) (x3_4 : Int32), fX6_daysOn_L4 teams water crews a1 k vats_4 moulds_4 posts_4 loft_4 nums_4 x2_4 x3_4 = some z → ∀ (cu su : Nat), cu + 4 * k ≤ 164 → su + 12 * k ≤ 492 → ∀ (H : Heap) (locs : List Loc) (ls : Array Slot), va_P D vwCl (wX6 cy h thrown pairs teams water vats_4 moulds_4 crews posts_4 loft_4 nums_4) H → va_D A (wX6 cy h thrown pairs teams water vats_4 moulds_4 crews posts_4 loft_4 nums_4) → va_S A s.heap H locs → lv_has ls 4 [(0, .ref (h 0)), (1, .int a1), (2, .int x2_4), (3, .int x3_4)] → W p l e rX6_daysOn s m args below meth c H locs cu su Q (F0 m 4 ls []) := by
    intro k
    induction k with
    | zero =>
      intro vats_4 moulds_4 posts_4 loft_4 nums_4 x2_4 x3_4 hF
      rw [fX6_daysOn_L4] at hF
      cases hF
    | succ k ih =>
      intro vats_4 moulds_4 posts_4 loft_4 nums_4 x2_4 x3_4 hF cu su hcu hsu H locs ls hP hD hS hl
      rw [fX6_daysOn_L4] at hF
      refine lv_iload_n hx hb dX6_daysOn_4 rfl (lv_at hl 3 rfl) ?_
      refine lv_iload_n hx hb dX6_daysOn_5 rfl (lv_at hl 1 rfl) ?_
      refine lv_icmp_ge (tgt := 22) hx hb dX6_daysOn_6 (by decide) (fun c_1 => ?_) (fun c_1 => ?_)
      · replace hF := if_t hF c_1
        refine lv_iload_n hx hb dX6_daysOn_22 rfl (lv_at hl 2 rfl) ?_
        cases hF
        exact hQ _ _ _ _ _ _ (fun _ => 0) dX6_daysOn_23 hP hD hS (by omega) (by omega)
      · replace hF := if_f hF c_1
        refine lv_iload_n hx hb dX6_daysOn_9 rfl (lv_at hl 2 rfl) ?_
        refine lv_aload_n hx hb dX6_daysOn_10 rfl (lv_at hl 0 rfl) ?_
        replace hF := bnd_some hF
        obtain ⟨z2, hz_2, hF⟩ := hF
        refine kwIE (kV (As := []) ⟨hx, hb, hml, hown, hts⟩ (kX6_dayOn l D cy sa h thrown pairs teams water vats_4 moulds_4 crews posts_4 loft_4 nums_4 z2 hz_2 _) (cwV 0 hts gX6_daysOn_X6_dayOn rfl rfl rfl (by decide +kernel) ⟨Nat.le_of_ble_eq_true rfl, Nat.le_of_ble_eq_true rfl⟩) hK hP hD hS hA hG [0, 1, 2, 3, 4, 5, 6, 7] hcX6_X6_0 ndX6_0 gtX6_0 rfl rfl rfl hl.1 [.int x2_4] rfl (Nat.le_of_ble_eq_true rfl) dX6_daysOn_11 ⟨(by show _ ≤ (164 : Nat); omega), (by show _ ≤ (492 : Nat); omega)⟩) hP hD hS hA [0, 1, 2, 3, 4, 5, 6, 7] hcX6_X6_0 hmX6 kpX6_X6_0 (fun H locs hP hD hS => ?_)
        refine lv_iadd hx hb dX6_daysOn_14 ?_
        refine lv_istore_n (lv' := [(2, .int (x2_4 + z2.1)), (0, .ref (h 0)), (1, .int a1), (3, .int x3_4)]) hx hb dX6_daysOn_15 rfl hl (by decide) rfl (fun ls hl => ?_)
        refine lv_iinc (v := x3_4 + 1) (lv' := [(3, .int (x3_4 + 1)), (2, .int (x2_4 + z2.1)), (0, .ref (h 0)), (1, .int a1)]) hx hb dX6_daysOn_16 hl (k := 3) rfl rfl (by decide) rfl (fun ls hl => ?_)
        refine lv_goto (tgt := 4) hx hb dX6_daysOn_19 (by decide) ?_
        exact ih  z2.2.1 z2.2.2.1 z2.2.2.2.1 z2.2.2.2.2.1 z2.2.2.2.2.2 (x2_4 + z2.1) (x3_4 + 1)  hF (cu + 4) (su + 12) (by omega) (by omega) _ _ _ hP hD hS (lv_sub hl [2, 3, 1, 0] rfl)
  unfold fX6_daysOn at hF
  refine lv_iconst (v := 0) hx hb dX6_daysOn_0 (by decide) ?_
  refine lv_istore_n (lv' := [(2, .int 0), (0, .ref (h 0)), (1, .int a1)]) hx hb dX6_daysOn_1 rfl hl (by decide) rfl (fun ls hl => ?_)
  refine lv_iconst (v := 0) hx hb dX6_daysOn_2 (by decide) ?_
  refine lv_istore_n (lv' := [(3, .int 0), (2, .int 0), (0, .ref (h 0)), (1, .int a1)]) hx hb dX6_daysOn_3 rfl hl (by decide) rfl (fun ls hl => ?_)
  exact L4 41 vats moulds posts loft nums 0 0  hF (0) (0) (by omega) (by omega) _ _ _ hP hD hS (lv_sub hl [2, 3, 1, 0] rfl)

def fX6_pass (teams : Int32) (water : FN) (vats : FN) (moulds : FN) (crews : FN) (posts : FN) (loft : FN) (nums : FN) (a1 : Int32) : Option (Int32 × Int32 × FN × FN × FN × FN × FN) := (fX6_isIn a1 1 40).bind fun z1 => if z1 = 0 then (fX6_fail 1).bind fun z3 => some (z3.1, z3.2, vats, moulds, posts, loft, nums) else (fX6_daysOn teams water vats moulds crews posts loft nums a1).bind fun z4 => some (z4.1, 0, z4.2.1, z4.2.2.1, z4.2.2.2.1, z4.2.2.2.2.1, z4.2.2.2.2.2)
abbrev rX6_pass : Room := { frames := 7, cells := 164, slots := 492, locals := 158 }
set_option maxHeartbeats 4000000 in
set_option maxRecDepth 100000 in
theorem kX6_pass (l : Launch) (D : va_G) (cy : Nat → ClassId) (sa : Nat → Nat) (h : Nat → Nat) (thrown : Int32) (pairs : Int32) (teams : Int32) (water : FN) (vats : FN) (moulds : FN) (crews : FN) (posts : FN) (loft : FN) (nums : FN) (a1 : Int32) (z : Int32 × Int32 × FN × FN × FN × FN × FN) (hF : fX6_pass teams water vats moulds crews posts loft nums a1 = some z) : KI l D (tyW cy) sa yX6_pass wsX6_pass rX6_pass [.ref (h 0), .int a1] (wX6 cy h thrown pairs teams water vats moulds crews posts loft nums) z.1 (fun _ => wX6 cy h z.2.1 pairs teams water z.2.2.1 z.2.2.2.1 crews z.2.2.2.2.1 z.2.2.2.2.2.1 z.2.2.2.2.2.2) 164 492 := by
  refine KI.of (cc := cX6_pass) (maxL := 2) (by decide +kernel) rfl (Nat.le_of_ble_eq_true rfl) ?_
  intro p e s m args below meth c A ls Q hE hQ
  obtain ⟨hx, hb, hml, hown, hts, hA, hP, hK, hD, hG, hl, hnm⟩ := hE
  replace hown : s.vm.findClass RX6 = some m.cls := hown
  have hiX6 : ∀ w ∈ u_ws RX6 TX6 10, w ∈ wsX6_pass := by decide +kernel
  have hf31 : (Cond.fieldLink RX6 31 "RagVatsModel" "thrown" "I").before args s = true := hts _ (by decide +kernel)
  replace hl : lv_has ls 2 [(0, .ref (h 0)), (1, .int a1)] := hl
  have hS : va_S A s.heap s.heap [] := va_S.rf
  unfold fX6_pass at hF
  refine lv_aload_n hx hb dX6_pass_0 rfl (lv_at hl 0 rfl) ?_
  refine lv_iconst (v := 0) hx hb dX6_pass_1 (by decide) ?_
  refine va_put (D := D) (v := .int 0) (ty := .int) (C := RX6) (T := TX6) (N := 10) hx hb hts hiX6 tyX6 tyX6_ok nmX6 hown hK hP hD hS 0 gtX6_0 rfl 0 (by decide) hf31 (fun _ h9 => h9) rfl (by decide +kernel) rfl rfl (Nat.le_of_ble_eq_true rfl) dX6_pass_2 (fun H locs hP hD hS => ?_)
  rw [stX6_0_0] at hP hD
  refine lv_iload_n hx hb dX6_pass_5 rfl (lv_at hl 1 rfl) ?_
  refine lv_iconst (v := 1) hx hb dX6_pass_6 (by decide) ?_
  refine lv_bipush (v := 40) hx hb dX6_pass_7 (by decide) ?_
  replace hF := bnd_some hF
  obtain ⟨z1, hz_1, hF⟩ := hF
  refine krI (kS (As := [.int a1, .int 1, .int 40]) ⟨hx, hb, hml, hown, hts⟩ (kX6_isIn l D cy sa a1 1 40 z1 hz_1 _) (cwS 3 hts gX6_pass_X6_isIn rfl rfl rfl (by decide +kernel) ⟨Nat.le_of_ble_eq_true rfl, Nat.le_of_ble_eq_true rfl⟩) hK hP hD hS hA hG [] rfl rfl rfl hl.1 [] rfl (Nat.le_of_ble_eq_true rfl) dX6_pass_9 ⟨(Nat.le_of_ble_eq_true rfl), (Nat.le_of_ble_eq_true rfl)⟩) hP hD hS hA [] rfl (fun H locs hP hS => ?_)
  refine lv_if_eq (tgt := 23) hx hb dX6_pass_12 (by decide) (fun c_2 => ?_) (fun c_2 => ?_)
  · replace hF := if_t hF c_2
    refine lv_aload_n hx hb dX6_pass_23 rfl (lv_at hl 0 rfl) ?_
    refine lv_iconst (v := 1) hx hb dX6_pass_24 (by decide) ?_
    replace hF := bnd_some hF
    obtain ⟨z3, hz_3, hF⟩ := hF
    refine kwIE (kV (As := [.int 1]) ⟨hx, hb, hml, hown, hts⟩ (kX6_fail l D cy sa h 0 pairs teams water vats moulds crews posts loft nums 1 z3 hz_3 _) (cwV 1 hts gX6_pass_X6_fail rfl rfl rfl (by decide +kernel) ⟨Nat.le_of_ble_eq_true rfl, Nat.le_of_ble_eq_true rfl⟩) hK hP hD hS hA hG [0, 1, 2, 3, 4, 5, 6, 7] hcX6_X6_0 ndX6_0 gtX6_0 rfl rfl rfl hl.1 [] rfl (Nat.le_of_ble_eq_true rfl) dX6_pass_25 ⟨(Nat.le_of_ble_eq_true rfl), (Nat.le_of_ble_eq_true rfl)⟩) hP hD hS hA [0, 1, 2, 3, 4, 5, 6, 7] hcX6_X6_0 hmX6 kpX6_X6_0 (fun H locs hP hD hS => ?_)
    cases hF
    exact hQ _ _ _ _ _ _ (fun _ => 0) dX6_pass_28 hP hD hS (Nat.le_of_ble_eq_true rfl) (Nat.le_of_ble_eq_true rfl)
  · replace hF := if_f hF c_2
    refine lv_aload_n hx hb dX6_pass_15 rfl (lv_at hl 0 rfl) ?_
    refine lv_iload_n hx hb dX6_pass_16 rfl (lv_at hl 1 rfl) ?_
    replace hF := bnd_some hF
    obtain ⟨z4, hz_4, hF⟩ := hF
    refine kwIE (kV (As := [.int a1]) ⟨hx, hb, hml, hown, hts⟩ (kX6_daysOn l D cy sa h 0 pairs teams water vats moulds crews posts loft nums a1 z4 hz_4 _) (cwV 1 hts gX6_pass_X6_daysOn rfl rfl rfl (by decide +kernel) ⟨Nat.le_of_ble_eq_true rfl, Nat.le_of_ble_eq_true rfl⟩) hK hP hD hS hA hG [0, 1, 2, 3, 4, 5, 6, 7] hcX6_X6_0 ndX6_0 gtX6_0 rfl rfl rfl hl.1 [] rfl (Nat.le_of_ble_eq_true rfl) dX6_pass_17 ⟨(Nat.le_of_ble_eq_true rfl), (Nat.le_of_ble_eq_true rfl)⟩) hP hD hS hA [0, 1, 2, 3, 4, 5, 6, 7] hcX6_X6_0 hmX6 kpX6_X6_0 (fun H locs hP hD hS => ?_)
    refine lv_goto (tgt := 28) hx hb dX6_pass_20 (by decide) ?_
    cases hF
    exact hQ _ _ _ _ _ _ (fun _ => 0) dX6_pass_28 hP hD hS (Nat.le_of_ble_eq_true rfl) (Nat.le_of_ble_eq_true rfl)

def fX6_digest_L256 (loft : FN) : Nat → Int32 → Int64 → Int32 → Int32 → Option (Int64 × Int32)
  | 0, _, _, _, _ => none
  | k + 1, thrown_256, x1_256, x4_256, x5_256 => if x4_256 ≤ x5_256 then some (x1_256, thrown_256) else ckI x5_256 30 (fX6_digest_L256 loft k thrown_256 ((x1_256 * 31) + ((loft x5_256.toNatClampNeg).toInt64)) x4_256 (x5_256 + 1))
def fX6_digest_L212 (posts : FN) (loft : FN) (nums : FN) : Nat → Int32 → Int64 → Int32 → Option (Int64 × Int32)
  | 0, _, _, _ => none
  | k + 1, thrown_212, x1_212, x3_212 => if (3 * (nums (5 : Int32).toNatClampNeg)) ≤ x3_212 then fX6_digest_L256 loft 300 thrown_212 x1_212 30 0 else ckI x3_212 270 (fX6_digest_L212 posts loft nums k thrown_212 ((x1_212 * 31) + ((posts x3_212.toNatClampNeg).toInt64)) (x3_212 + 1))
def fX6_digest_L177 (vats : FN) (moulds : FN) (crews : FN) (posts : FN) (nums : FN) (K : Int32 → Int64 → Int32 → Option (Int64 × Int32)) : Nat → Int32 → Int64 → Int32 → Int32 → Option (Int64 × Int32)
  | 0, _, _, _, _ => none
  | k + 1, thrown_177, x1_177, x3_177, x4_177 => if 4 ≤ x4_177 then K thrown_177 x1_177 (x3_177 + 1) else (fX6_teamTold vats moulds crews posts nums x3_177 x4_177).bind fun z12 => fX6_digest_L177 vats moulds crews posts nums K k thrown_177 ((x1_177 * 31) + z12.toInt64) x3_177 (x4_177 + 1)
def fX6_digest_L166 (teams : Int32) (vats : FN) (moulds : FN) (crews : FN) (posts : FN) (loft : FN) (nums : FN) : Nat → Int32 → Int64 → Int32 → Option (Int64 × Int32)
  | 0, _, _, _ => none
  | k + 1, thrown_166, x1_166, x3_166 => if teams ≤ x3_166 then fX6_digest_L212 posts loft nums 300 thrown_166 x1_166 0 else fX6_digest_L177 vats moulds crews posts nums (fX6_digest_L166 teams vats moulds crews posts loft nums k) 300 thrown_166 x1_166 x3_166 0
def fX6_digest_L131 (teams : Int32) (moulds : FN) (crews : FN) (K : Int32 → Int64 → Int32 → Option (Int64 × Int32)) : Nat → Int32 → Int64 → Int32 → Int32 → Option (Int64 × Int32)
  | 0, _, _, _, _ => none
  | k + 1, thrown_131, x1_131, x3_131, x4_131 => if 4 ≤ x4_131 then K thrown_131 x1_131 (x3_131 + 1) else (fX6_pairTold teams moulds crews x3_131 x4_131).bind fun z14 => fX6_digest_L131 teams moulds crews K k thrown_131 ((x1_131 * 31) + z14.toInt64) x3_131 (x4_131 + 1)
def fX6_digest_L120 (pairs : Int32) (teams : Int32) (vats : FN) (moulds : FN) (crews : FN) (posts : FN) (loft : FN) (nums : FN) : Nat → Int32 → Int64 → Int32 → Option (Int64 × Int32)
  | 0, _, _, _ => none
  | k + 1, thrown_120, x1_120, x3_120 => if pairs ≤ x3_120 then fX6_digest_L166 teams vats moulds crews posts loft nums 300 thrown_120 x1_120 0 else fX6_digest_L131 teams moulds crews (fX6_digest_L120 pairs teams vats moulds crews posts loft nums k) 300 thrown_120 x1_120 x3_120 0
def fX6_digest_L89 (pairs : Int32) (teams : Int32) (vats : FN) (moulds : FN) (crews : FN) (posts : FN) (loft : FN) (nums : FN) : Nat → Int32 → Int64 → Int32 → Int32 → Option (Int64 × Int32)
  | 0, _, _, _, _ => none
  | k + 1, thrown_89, x1_89, x4_89, x5_89 => if x4_89 ≤ x5_89 then fX6_digest_L120 pairs teams vats moulds crews posts loft nums 300 thrown_89 x1_89 0 else ckI x5_89 12 (fX6_digest_L89 pairs teams vats moulds crews posts loft nums k thrown_89 ((x1_89 * 31) + ((vats x5_89.toNatClampNeg).toInt64)) x4_89 (x5_89 + 1))
def fX6_digest_L48 (pairs : Int32) (teams : Int32) (water : FN) (vats : FN) (moulds : FN) (crews : FN) (posts : FN) (loft : FN) (nums : FN) : Nat → Int32 → Int64 → Int32 → Int32 → Option (Int64 × Int32)
  | 0, _, _, _, _ => none
  | k + 1, thrown_48, x1_48, x4_48, x5_48 => if x4_48 ≤ x5_48 then fX6_digest_L89 pairs teams vats moulds crews posts loft nums 300 thrown_48 x1_48 12 0 else ckI x5_48 7 (fX6_digest_L48 pairs teams water vats moulds crews posts loft nums k thrown_48 ((x1_48 * 31) + ((water x5_48.toNatClampNeg).toInt64)) x4_48 (x5_48 + 1))
def fX6_digest_L11 (pairs : Int32) (teams : Int32) (water : FN) (vats : FN) (moulds : FN) (crews : FN) (posts : FN) (loft : FN) (nums : FN) : Nat → Int32 → Int64 → Int32 → Option (Int64 × Int32)
  | 0, _, _, _ => none
  | k + 1, thrown_11, x1_11, x3_11 => if 12 ≤ x3_11 then fX6_digest_L48 pairs teams water vats moulds crews posts loft nums 300 thrown_11 x1_11 7 0 else (fX6_counted vats posts loft nums x3_11).bind fun z17 => fX6_digest_L11 pairs teams water vats moulds crews posts loft nums k thrown_11 ((x1_11 * 31) + z17.toInt64) (x3_11 + 1)
def fX6_digest (pairs : Int32) (teams : Int32) (water : FN) (vats : FN) (moulds : FN) (crews : FN) (posts : FN) (loft : FN) (nums : FN) : Option (Int64 × Int32) := fX6_digest_L11 pairs teams water vats moulds crews posts loft nums 300 0 1429 0
abbrev rX6_digest : Room := { frames := 5, cells := 0, slots := 0, locals := 109 }
set_option maxHeartbeats 4000000 in
set_option maxRecDepth 100000 in
theorem kX6_digest (l : Launch) (D : va_G) (cy : Nat → ClassId) (sa : Nat → Nat) (h : Nat → Nat) (thrown : Int32) (pairs : Int32) (teams : Int32) (water : FN) (vats : FN) (moulds : FN) (crews : FN) (posts : FN) (loft : FN) (nums : FN) (z : Int64 × Int32) (hF : fX6_digest pairs teams water vats moulds crews posts loft nums = some z) : KL l D (tyW cy) sa yX6_digest wsX6_digest rX6_digest [.ref (h 0)] (wX6 cy h thrown pairs teams water vats moulds crews posts loft nums) z.1 (fun _ => wX6 cy h z.2 pairs teams water vats moulds crews posts loft nums) 0 0 := by
  refine KL.of (cc := cX6_digest) (maxL := 7) (by decide +kernel) rfl (Nat.le_of_ble_eq_true rfl) ?_
  intro p e s m args below meth c A ls Q hE hQ
  obtain ⟨hx, hb, hml, hown, hts, hA, hP, hK, hD, hG, hl, hnm⟩ := hE
  replace hown : s.vm.findClass RX6 = some m.cls := hown
  have hiX6 : ∀ w ∈ u_ws RX6 TX6 10, w ∈ wsX6_digest := by decide +kernel
  have hf7 : (Cond.fieldLink RX6 7 "RagVatsModel" "water" "[I").before args s = true := hts _ (by decide +kernel)
  have hf13 : (Cond.fieldLink RX6 13 "RagVatsModel" "vats" "[I").before args s = true := hts _ (by decide +kernel)
  have hf22 : (Cond.fieldLink RX6 22 "RagVatsModel" "posts" "[I").before args s = true := hts _ (by decide +kernel)
  have hf25 : (Cond.fieldLink RX6 25 "RagVatsModel" "loft" "[I").before args s = true := hts _ (by decide +kernel)
  have hf28 : (Cond.fieldLink RX6 28 "RagVatsModel" "numbers" "[I").before args s = true := hts _ (by decide +kernel)
  have hf31 : (Cond.fieldLink RX6 31 "RagVatsModel" "thrown" "I").before args s = true := hts _ (by decide +kernel)
  have hf39 : (Cond.fieldLink RX6 39 "RagVatsModel" "pairs" "I").before args s = true := hts _ (by decide +kernel)
  have hf42 : (Cond.fieldLink RX6 42 "RagVatsModel" "teams" "I").before args s = true := hts _ (by decide +kernel)
  replace hl : lv_has ls 7 [(0, .ref (h 0))] := hl
  have hS : va_S A s.heap s.heap [] := va_S.rf
  have L256 : ∀ (k : Nat) (thrown_256 : Int32) (x1_256 : Int64) (x4_256 : Int32) (x5_256 : Int32), fX6_digest_L256 loft k thrown_256 x1_256 x4_256 x5_256 = some z → ∀ (H : Heap) (locs : List Loc) (ls : Array Slot), va_P D vwCl (wX6 cy h thrown_256 pairs teams water vats moulds crews posts loft nums) H → va_D A (wX6 cy h thrown_256 pairs teams water vats moulds crews posts loft nums) → va_S A s.heap H locs → lv_has ls 7 [(1, .long x1_256), (3, .ref (h 6)), (4, .int x4_256), (5, .int x5_256)] → W p l e rX6_digest s m args below meth c H locs 0 0 Q (F0 m 256 ls []) := by
    intro k
    induction k with
    | zero =>
      intro thrown_256 x1_256 x4_256 x5_256 hF
      rw [fX6_digest_L256] at hF
      cases hF
    | succ k ih =>
      intro thrown_256 x1_256 x4_256 x5_256 hF H locs ls hP hD hS hl
      rw [fX6_digest_L256] at hF
      refine lv_iload hx hb dX6_digest_256 (lv_at hl 3 rfl) ?_
      refine lv_iload hx hb dX6_digest_258 (lv_at hl 2 rfl) ?_
      refine lv_icmp_ge (tgt := 285) hx hb dX6_digest_260 (by decide) (fun c_8 => ?_) (fun c_8 => ?_)
      · replace hF := if_t hF c_8
        refine lv_lload_n hx hb dX6_digest_285 rfl (lv_at hl 0 rfl) ?_
        cases hF
        exact hQ _ _ _ _ _ _ (fun _ => 0) dX6_digest_286 hP hD hS (Nat.le_of_ble_eq_true rfl) (Nat.le_of_ble_eq_true rfl)
      · replace hF := if_f hF c_8
        refine lv_aload_n hx hb dX6_digest_263 rfl (lv_at hl 1 rfl) ?_
        refine lv_iload hx hb dX6_digest_264 (lv_at hl 3 rfl) ?_
        replace hF := ckI_some hF
        obtain ⟨hi_9, hF⟩ := hF
        refine va_iald hx hb hK hP 6 0 gtX6_6 rfl hi_9 dX6_digest_266 ?_
        refine lv_istore (lv' := [(6, .int (loft x5_256.toNatClampNeg)), (1, .long x1_256), (3, .ref (h 6)), (4, .int x4_256), (5, .int x5_256)]) hx hb dX6_digest_267 hl (by decide) rfl (fun ls hl => ?_)
        refine lv_lload_n hx hb dX6_digest_269 rfl (lv_at hl 1 rfl) ?_
        refine lv_ldc2 (own := RX6) (v := 31) hx hb hown (hts _ (by decide +kernel)) dX6_digest_270 ?_
        refine lv_lmul hx hb dX6_digest_273 ?_
        refine lv_iload hx hb dX6_digest_274 (lv_at hl 0 rfl) ?_
        refine lv_i2l hx hb dX6_digest_276 rfl ?_
        refine lv_ladd hx hb dX6_digest_277 ?_
        refine lv_lstore_n (lv' := [(1, .long ((x1_256 * 31) + ((loft x5_256.toNatClampNeg).toInt64))), (6, .int (loft x5_256.toNatClampNeg)), (3, .ref (h 6)), (4, .int x4_256), (5, .int x5_256)]) hx hb dX6_digest_278 rfl hl (by decide) rfl (fun ls hl => ?_)
        refine lv_iinc (v := x5_256 + 1) (lv' := [(5, .int (x5_256 + 1)), (1, .long ((x1_256 * 31) + ((loft x5_256.toNatClampNeg).toInt64))), (6, .int (loft x5_256.toNatClampNeg)), (3, .ref (h 6)), (4, .int x4_256)]) hx hb dX6_digest_279 hl (k := 4) rfl rfl (by decide) rfl (fun ls hl => ?_)
        refine lv_goto (tgt := 256) hx hb dX6_digest_282 (by decide) ?_
        exact ih  thrown_256 ((x1_256 * 31) + ((loft x5_256.toNatClampNeg).toInt64)) x4_256 (x5_256 + 1)  hF _ _ _ hP hD hS (lv_sub hl [1, 3, 4, 0] rfl)
  have L212 : ∀ (k : Nat) (thrown_212 : Int32) (x1_212 : Int64) (x3_212 : Int32), fX6_digest_L212 posts loft nums k thrown_212 x1_212 x3_212 = some z → ∀ (H : Heap) (locs : List Loc) (ls : Array Slot), va_P D vwCl (wX6 cy h thrown_212 pairs teams water vats moulds crews posts loft nums) H → va_D A (wX6 cy h thrown_212 pairs teams water vats moulds crews posts loft nums) → va_S A s.heap H locs → lv_has ls 7 [(0, .ref (h 0)), (1, .long x1_212), (3, .int x3_212)] → W p l e rX6_digest s m args below meth c H locs 0 0 Q (F0 m 212 ls []) := by
    intro k
    induction k with
    | zero =>
      intro thrown_212 x1_212 x3_212 hF
      rw [fX6_digest_L212] at hF
      cases hF
    | succ k ih =>
      intro thrown_212 x1_212 x3_212 hF H locs ls hP hD hS hl
      rw [fX6_digest_L212] at hF
      refine lv_iload_n hx hb dX6_digest_212 rfl (lv_at hl 2 rfl) ?_
      refine lv_iconst (v := 3) hx hb dX6_digest_213 (by decide) ?_
      refine lv_aload_n hx hb dX6_digest_214 rfl (lv_at hl 0 rfl) ?_
      refine va_get (D := D) (C := RX6) (T := TX6) (N := 10) hx hb hts hiX6 hown hK hP 0 gtX6_0 rfl 9 (by decide) hf28 (fun _ h9 => h9) rfl dX6_digest_215 ?_
      refine lv_iconst (v := 5) hx hb dX6_digest_218 (by decide) ?_
      refine va_iald hx hb hK hP 7 0 gtX6_7 rfl (show ¬ ((5 : Int32) < 0 ∨ 9 ≤ (5 : Int32).toNatClampNeg) from by decide) dX6_digest_219 ?_
      refine lv_imul hx hb dX6_digest_220 ?_
      refine lv_icmp_ge (tgt := 244) hx hb dX6_digest_221 (by decide) (fun c_7 => ?_) (fun c_7 => ?_)
      · replace hF := if_t hF c_7
        refine lv_aload_n hx hb dX6_digest_244 rfl (lv_at hl 0 rfl) ?_
        refine va_get (D := D) (C := RX6) (T := TX6) (N := 10) hx hb hts hiX6 hown hK hP 0 gtX6_0 rfl 8 (by decide) hf25 (fun _ h9 => h9) rfl dX6_digest_245 ?_
        refine lv_astore_n (lv' := [(3, .ref (h 6)), (0, .ref (h 0)), (1, .long x1_212)]) hx hb dX6_digest_248 rfl hl (by decide) rfl (fun ls hl => ?_)
        refine lv_aload_n hx hb dX6_digest_249 rfl (lv_at hl 0 rfl) ?_
        refine va_alen (v := 30) hx hb hK hP 6 0 gtX6_6 rfl rfl dX6_digest_250 ?_
        refine lv_istore (lv' := [(4, .int 30), (3, .ref (h 6)), (0, .ref (h 0)), (1, .long x1_212)]) hx hb dX6_digest_251 hl (by decide) rfl (fun ls hl => ?_)
        refine lv_iconst (v := 0) hx hb dX6_digest_253 (by decide) ?_
        refine lv_istore (lv' := [(5, .int 0), (4, .int 30), (3, .ref (h 6)), (0, .ref (h 0)), (1, .long x1_212)]) hx hb dX6_digest_254 hl (by decide) rfl (fun ls hl => ?_)
        exact L256 300 thrown_212 x1_212 30 0  hF _ _ _ hP hD hS (lv_sub hl [4, 2, 1, 0] rfl)
      · replace hF := if_f hF c_7
        refine lv_lload_n hx hb dX6_digest_224 rfl (lv_at hl 1 rfl) ?_
        refine lv_ldc2 (own := RX6) (v := 31) hx hb hown (hts _ (by decide +kernel)) dX6_digest_225 ?_
        refine lv_lmul hx hb dX6_digest_228 ?_
        refine lv_aload_n hx hb dX6_digest_229 rfl (lv_at hl 0 rfl) ?_
        refine va_get (D := D) (C := RX6) (T := TX6) (N := 10) hx hb hts hiX6 hown hK hP 0 gtX6_0 rfl 7 (by decide) hf22 (fun _ h9 => h9) rfl dX6_digest_230 ?_
        refine lv_iload_n hx hb dX6_digest_233 rfl (lv_at hl 2 rfl) ?_
        replace hF := ckI_some hF
        obtain ⟨hi_10, hF⟩ := hF
        refine va_iald hx hb hK hP 5 0 gtX6_5 rfl hi_10 dX6_digest_234 ?_
        refine lv_i2l hx hb dX6_digest_235 rfl ?_
        refine lv_ladd hx hb dX6_digest_236 ?_
        refine lv_lstore_n (lv' := [(1, .long ((x1_212 * 31) + ((posts x3_212.toNatClampNeg).toInt64))), (0, .ref (h 0)), (3, .int x3_212)]) hx hb dX6_digest_237 rfl hl (by decide) rfl (fun ls hl => ?_)
        refine lv_iinc (v := x3_212 + 1) (lv' := [(3, .int (x3_212 + 1)), (1, .long ((x1_212 * 31) + ((posts x3_212.toNatClampNeg).toInt64))), (0, .ref (h 0))]) hx hb dX6_digest_238 hl (k := 2) rfl rfl (by decide) rfl (fun ls hl => ?_)
        refine lv_goto (tgt := 212) hx hb dX6_digest_241 (by decide) ?_
        exact ih  thrown_212 ((x1_212 * 31) + ((posts x3_212.toNatClampNeg).toInt64)) (x3_212 + 1)  hF _ _ _ hP hD hS (lv_sub hl [2, 1, 0] rfl)
  have L177 : ∀ (K : Int32 → Int64 → Int32 → Option (Int64 × Int32)), (∀ (thrown_166 : Int32) (x1_166 : Int64) (x3_166 : Int32), K thrown_166 x1_166 x3_166 = some z → ∀ (H : Heap) (locs : List Loc) (ls : Array Slot), va_P D vwCl (wX6 cy h thrown_166 pairs teams water vats moulds crews posts loft nums) H → va_D A (wX6 cy h thrown_166 pairs teams water vats moulds crews posts loft nums) → va_S A s.heap H locs → lv_has ls 7 [(0, .ref (h 0)), (1, .long x1_166), (3, .int x3_166)] → W p l e rX6_digest s m args below meth c H locs 0 0 Q (F0 m 166 ls [])) → ∀ (k : Nat) (thrown_177 : Int32) (x1_177 : Int64) (x3_177 : Int32) (x4_177 : Int32), fX6_digest_L177 vats moulds crews posts nums K k thrown_177 x1_177 x3_177 x4_177 = some z → ∀ (H : Heap) (locs : List Loc) (ls : Array Slot), va_P D vwCl (wX6 cy h thrown_177 pairs teams water vats moulds crews posts loft nums) H → va_D A (wX6 cy h thrown_177 pairs teams water vats moulds crews posts loft nums) → va_S A s.heap H locs → lv_has ls 7 [(0, .ref (h 0)), (1, .long x1_177), (3, .int x3_177), (4, .int x4_177)] → W p l e rX6_digest s m args below meth c H locs 0 0 Q (F0 m 177 ls []) := by
    intro K hK9 k
    induction k with
    | zero =>
      intro thrown_177 x1_177 x3_177 x4_177 hF
      rw [fX6_digest_L177] at hF
      cases hF
    | succ k ih =>
      intro thrown_177 x1_177 x3_177 x4_177 hF H locs ls hP hD hS hl
      rw [fX6_digest_L177] at hF
      refine lv_iload hx hb dX6_digest_177 (lv_at hl 3 rfl) ?_
      refine lv_iconst (v := 4) hx hb dX6_digest_179 (by decide) ?_
      refine lv_icmp_ge (tgt := 204) hx hb dX6_digest_180 (by decide) (fun c_11 => ?_) (fun c_11 => ?_)
      · replace hF := if_t hF c_11
        refine lv_iinc (v := x3_177 + 1) (lv' := [(3, .int (x3_177 + 1)), (0, .ref (h 0)), (1, .long x1_177), (4, .int x4_177)]) hx hb dX6_digest_204 hl (k := 2) rfl rfl (by decide) rfl (fun ls hl => ?_)
        refine lv_goto (tgt := 166) hx hb dX6_digest_207 (by decide) ?_
        exact hK9  thrown_177 x1_177 (x3_177 + 1)  hF _ _ _ hP hD hS (lv_sub hl [1, 2, 0] rfl)
      · replace hF := if_f hF c_11
        refine lv_lload_n hx hb dX6_digest_183 rfl (lv_at hl 1 rfl) ?_
        refine lv_ldc2 (own := RX6) (v := 31) hx hb hown (hts _ (by decide +kernel)) dX6_digest_184 ?_
        refine lv_lmul hx hb dX6_digest_187 ?_
        refine lv_aload_n hx hb dX6_digest_188 rfl (lv_at hl 0 rfl) ?_
        refine lv_iload_n hx hb dX6_digest_189 rfl (lv_at hl 2 rfl) ?_
        refine lv_iload hx hb dX6_digest_190 (lv_at hl 3 rfl) ?_
        replace hF := bnd_some hF
        obtain ⟨z12, hz_12, hF⟩ := hF
        refine krI (kV (As := [.int x3_177, .int x4_177]) ⟨hx, hb, hml, hown, hts⟩ (kX6_teamTold l D cy sa h thrown_177 pairs teams water vats moulds crews posts loft nums x3_177 x4_177 z12 hz_12 _) (cwV 2 hts gX6_digest_X6_teamTold rfl rfl rfl (by decide +kernel) ⟨Nat.le_of_ble_eq_true rfl, Nat.le_of_ble_eq_true rfl⟩) hK hP hD hS hA hG [0, 1, 2, 3, 4, 5, 6, 7] hcX6_X6_0 ndX6_0 gtX6_0 rfl rfl rfl hl.1 [.long (x1_177 * 31)] rfl (Nat.le_of_ble_eq_true rfl) dX6_digest_192 ⟨(Nat.le_of_ble_eq_true rfl), (Nat.le_of_ble_eq_true rfl)⟩) hP hD hS hA [0, 1, 2, 3, 4, 5, 6, 7] hcX6_X6_0 (fun H locs hP hS => ?_)
        refine lv_i2l hx hb dX6_digest_195 rfl ?_
        refine lv_ladd hx hb dX6_digest_196 ?_
        refine lv_lstore_n (lv' := [(1, .long ((x1_177 * 31) + z12.toInt64)), (0, .ref (h 0)), (3, .int x3_177), (4, .int x4_177)]) hx hb dX6_digest_197 rfl hl (by decide) rfl (fun ls hl => ?_)
        refine lv_iinc (v := x4_177 + 1) (lv' := [(4, .int (x4_177 + 1)), (1, .long ((x1_177 * 31) + z12.toInt64)), (0, .ref (h 0)), (3, .int x3_177)]) hx hb dX6_digest_198 hl (k := 3) rfl rfl (by decide) rfl (fun ls hl => ?_)
        refine lv_goto (tgt := 177) hx hb dX6_digest_201 (by decide) ?_
        exact ih  thrown_177 ((x1_177 * 31) + z12.toInt64) x3_177 (x4_177 + 1)  hF _ _ _ hP hD hS (lv_sub hl [2, 1, 3, 0] rfl)
  have L166 : ∀ (k : Nat) (thrown_166 : Int32) (x1_166 : Int64) (x3_166 : Int32), fX6_digest_L166 teams vats moulds crews posts loft nums k thrown_166 x1_166 x3_166 = some z → ∀ (H : Heap) (locs : List Loc) (ls : Array Slot), va_P D vwCl (wX6 cy h thrown_166 pairs teams water vats moulds crews posts loft nums) H → va_D A (wX6 cy h thrown_166 pairs teams water vats moulds crews posts loft nums) → va_S A s.heap H locs → lv_has ls 7 [(0, .ref (h 0)), (1, .long x1_166), (3, .int x3_166)] → W p l e rX6_digest s m args below meth c H locs 0 0 Q (F0 m 166 ls []) := by
    intro k
    induction k with
    | zero =>
      intro thrown_166 x1_166 x3_166 hF
      rw [fX6_digest_L166] at hF
      cases hF
    | succ k ih =>
      intro thrown_166 x1_166 x3_166 hF H locs ls hP hD hS hl
      rw [fX6_digest_L166] at hF
      refine lv_iload_n hx hb dX6_digest_166 rfl (lv_at hl 2 rfl) ?_
      refine lv_aload_n hx hb dX6_digest_167 rfl (lv_at hl 0 rfl) ?_
      refine va_get (D := D) (C := RX6) (T := TX6) (N := 10) hx hb hts hiX6 hown hK hP 0 gtX6_0 rfl 2 (by decide) hf42 (fun _ h9 => h9) rfl dX6_digest_168 ?_
      refine lv_icmp_ge (tgt := 210) hx hb dX6_digest_171 (by decide) (fun c_5 => ?_) (fun c_5 => ?_)
      · replace hF := if_t hF c_5
        refine lv_iconst (v := 0) hx hb dX6_digest_210 (by decide) ?_
        refine lv_istore_n (lv' := [(3, .int 0), (0, .ref (h 0)), (1, .long x1_166)]) hx hb dX6_digest_211 rfl hl (by decide) rfl (fun ls hl => ?_)
        exact L212 300 thrown_166 x1_166 0  hF _ _ _ hP hD hS (lv_sub hl [1, 2, 0] rfl)
      · replace hF := if_f hF c_5
        refine lv_iconst (v := 0) hx hb dX6_digest_174 (by decide) ?_
        refine lv_istore (lv' := [(4, .int 0), (0, .ref (h 0)), (1, .long x1_166), (3, .int x3_166)]) hx hb dX6_digest_175 hl (by decide) rfl (fun ls hl => ?_)
        exact L177 _ ih 300 thrown_166 x1_166 x3_166 0  hF _ _ _ hP hD hS (lv_sub hl [1, 2, 3, 0] rfl)
  have L131 : ∀ (K : Int32 → Int64 → Int32 → Option (Int64 × Int32)), (∀ (thrown_120 : Int32) (x1_120 : Int64) (x3_120 : Int32), K thrown_120 x1_120 x3_120 = some z → ∀ (H : Heap) (locs : List Loc) (ls : Array Slot), va_P D vwCl (wX6 cy h thrown_120 pairs teams water vats moulds crews posts loft nums) H → va_D A (wX6 cy h thrown_120 pairs teams water vats moulds crews posts loft nums) → va_S A s.heap H locs → lv_has ls 7 [(0, .ref (h 0)), (1, .long x1_120), (3, .int x3_120)] → W p l e rX6_digest s m args below meth c H locs 0 0 Q (F0 m 120 ls [])) → ∀ (k : Nat) (thrown_131 : Int32) (x1_131 : Int64) (x3_131 : Int32) (x4_131 : Int32), fX6_digest_L131 teams moulds crews K k thrown_131 x1_131 x3_131 x4_131 = some z → ∀ (H : Heap) (locs : List Loc) (ls : Array Slot), va_P D vwCl (wX6 cy h thrown_131 pairs teams water vats moulds crews posts loft nums) H → va_D A (wX6 cy h thrown_131 pairs teams water vats moulds crews posts loft nums) → va_S A s.heap H locs → lv_has ls 7 [(0, .ref (h 0)), (1, .long x1_131), (3, .int x3_131), (4, .int x4_131)] → W p l e rX6_digest s m args below meth c H locs 0 0 Q (F0 m 131 ls []) := by
    intro K hK9 k
    induction k with
    | zero =>
      intro thrown_131 x1_131 x3_131 x4_131 hF
      rw [fX6_digest_L131] at hF
      cases hF
    | succ k ih =>
      intro thrown_131 x1_131 x3_131 x4_131 hF H locs ls hP hD hS hl
      rw [fX6_digest_L131] at hF
      refine lv_iload hx hb dX6_digest_131 (lv_at hl 3 rfl) ?_
      refine lv_iconst (v := 4) hx hb dX6_digest_133 (by decide) ?_
      refine lv_icmp_ge (tgt := 158) hx hb dX6_digest_134 (by decide) (fun c_13 => ?_) (fun c_13 => ?_)
      · replace hF := if_t hF c_13
        refine lv_iinc (v := x3_131 + 1) (lv' := [(3, .int (x3_131 + 1)), (0, .ref (h 0)), (1, .long x1_131), (4, .int x4_131)]) hx hb dX6_digest_158 hl (k := 2) rfl rfl (by decide) rfl (fun ls hl => ?_)
        refine lv_goto (tgt := 120) hx hb dX6_digest_161 (by decide) ?_
        exact hK9  thrown_131 x1_131 (x3_131 + 1)  hF _ _ _ hP hD hS (lv_sub hl [1, 2, 0] rfl)
      · replace hF := if_f hF c_13
        refine lv_lload_n hx hb dX6_digest_137 rfl (lv_at hl 1 rfl) ?_
        refine lv_ldc2 (own := RX6) (v := 31) hx hb hown (hts _ (by decide +kernel)) dX6_digest_138 ?_
        refine lv_lmul hx hb dX6_digest_141 ?_
        refine lv_aload_n hx hb dX6_digest_142 rfl (lv_at hl 0 rfl) ?_
        refine lv_iload_n hx hb dX6_digest_143 rfl (lv_at hl 2 rfl) ?_
        refine lv_iload hx hb dX6_digest_144 (lv_at hl 3 rfl) ?_
        replace hF := bnd_some hF
        obtain ⟨z14, hz_14, hF⟩ := hF
        refine krI (kV (As := [.int x3_131, .int x4_131]) ⟨hx, hb, hml, hown, hts⟩ (kX6_pairTold l D cy sa h thrown_131 pairs teams water vats moulds crews posts loft nums x3_131 x4_131 z14 hz_14 _) (cwV 2 hts gX6_digest_X6_pairTold rfl rfl rfl (by decide +kernel) ⟨Nat.le_of_ble_eq_true rfl, Nat.le_of_ble_eq_true rfl⟩) hK hP hD hS hA hG [0, 1, 2, 3, 4, 5, 6, 7] hcX6_X6_0 ndX6_0 gtX6_0 rfl rfl rfl hl.1 [.long (x1_131 * 31)] rfl (Nat.le_of_ble_eq_true rfl) dX6_digest_146 ⟨(Nat.le_of_ble_eq_true rfl), (Nat.le_of_ble_eq_true rfl)⟩) hP hD hS hA [0, 1, 2, 3, 4, 5, 6, 7] hcX6_X6_0 (fun H locs hP hS => ?_)
        refine lv_i2l hx hb dX6_digest_149 rfl ?_
        refine lv_ladd hx hb dX6_digest_150 ?_
        refine lv_lstore_n (lv' := [(1, .long ((x1_131 * 31) + z14.toInt64)), (0, .ref (h 0)), (3, .int x3_131), (4, .int x4_131)]) hx hb dX6_digest_151 rfl hl (by decide) rfl (fun ls hl => ?_)
        refine lv_iinc (v := x4_131 + 1) (lv' := [(4, .int (x4_131 + 1)), (1, .long ((x1_131 * 31) + z14.toInt64)), (0, .ref (h 0)), (3, .int x3_131)]) hx hb dX6_digest_152 hl (k := 3) rfl rfl (by decide) rfl (fun ls hl => ?_)
        refine lv_goto (tgt := 131) hx hb dX6_digest_155 (by decide) ?_
        exact ih  thrown_131 ((x1_131 * 31) + z14.toInt64) x3_131 (x4_131 + 1)  hF _ _ _ hP hD hS (lv_sub hl [2, 1, 3, 0] rfl)
  have L120 : ∀ (k : Nat) (thrown_120 : Int32) (x1_120 : Int64) (x3_120 : Int32), fX6_digest_L120 pairs teams vats moulds crews posts loft nums k thrown_120 x1_120 x3_120 = some z → ∀ (H : Heap) (locs : List Loc) (ls : Array Slot), va_P D vwCl (wX6 cy h thrown_120 pairs teams water vats moulds crews posts loft nums) H → va_D A (wX6 cy h thrown_120 pairs teams water vats moulds crews posts loft nums) → va_S A s.heap H locs → lv_has ls 7 [(0, .ref (h 0)), (1, .long x1_120), (3, .int x3_120)] → W p l e rX6_digest s m args below meth c H locs 0 0 Q (F0 m 120 ls []) := by
    intro k
    induction k with
    | zero =>
      intro thrown_120 x1_120 x3_120 hF
      rw [fX6_digest_L120] at hF
      cases hF
    | succ k ih =>
      intro thrown_120 x1_120 x3_120 hF H locs ls hP hD hS hl
      rw [fX6_digest_L120] at hF
      refine lv_iload_n hx hb dX6_digest_120 rfl (lv_at hl 2 rfl) ?_
      refine lv_aload_n hx hb dX6_digest_121 rfl (lv_at hl 0 rfl) ?_
      refine va_get (D := D) (C := RX6) (T := TX6) (N := 10) hx hb hts hiX6 hown hK hP 0 gtX6_0 rfl 1 (by decide) hf39 (fun _ h9 => h9) rfl dX6_digest_122 ?_
      refine lv_icmp_ge (tgt := 164) hx hb dX6_digest_125 (by decide) (fun c_4 => ?_) (fun c_4 => ?_)
      · replace hF := if_t hF c_4
        refine lv_iconst (v := 0) hx hb dX6_digest_164 (by decide) ?_
        refine lv_istore_n (lv' := [(3, .int 0), (0, .ref (h 0)), (1, .long x1_120)]) hx hb dX6_digest_165 rfl hl (by decide) rfl (fun ls hl => ?_)
        exact L166 300 thrown_120 x1_120 0  hF _ _ _ hP hD hS (lv_sub hl [1, 2, 0] rfl)
      · replace hF := if_f hF c_4
        refine lv_iconst (v := 0) hx hb dX6_digest_128 (by decide) ?_
        refine lv_istore (lv' := [(4, .int 0), (0, .ref (h 0)), (1, .long x1_120), (3, .int x3_120)]) hx hb dX6_digest_129 hl (by decide) rfl (fun ls hl => ?_)
        exact L131 _ ih 300 thrown_120 x1_120 x3_120 0  hF _ _ _ hP hD hS (lv_sub hl [1, 2, 3, 0] rfl)
  have L89 : ∀ (k : Nat) (thrown_89 : Int32) (x1_89 : Int64) (x4_89 : Int32) (x5_89 : Int32), fX6_digest_L89 pairs teams vats moulds crews posts loft nums k thrown_89 x1_89 x4_89 x5_89 = some z → ∀ (H : Heap) (locs : List Loc) (ls : Array Slot), va_P D vwCl (wX6 cy h thrown_89 pairs teams water vats moulds crews posts loft nums) H → va_D A (wX6 cy h thrown_89 pairs teams water vats moulds crews posts loft nums) → va_S A s.heap H locs → lv_has ls 7 [(0, .ref (h 0)), (1, .long x1_89), (3, .ref (h 2)), (4, .int x4_89), (5, .int x5_89)] → W p l e rX6_digest s m args below meth c H locs 0 0 Q (F0 m 89 ls []) := by
    intro k
    induction k with
    | zero =>
      intro thrown_89 x1_89 x4_89 x5_89 hF
      rw [fX6_digest_L89] at hF
      cases hF
    | succ k ih =>
      intro thrown_89 x1_89 x4_89 x5_89 hF H locs ls hP hD hS hl
      rw [fX6_digest_L89] at hF
      refine lv_iload hx hb dX6_digest_89 (lv_at hl 4 rfl) ?_
      refine lv_iload hx hb dX6_digest_91 (lv_at hl 3 rfl) ?_
      refine lv_icmp_ge (tgt := 118) hx hb dX6_digest_93 (by decide) (fun c_3 => ?_) (fun c_3 => ?_)
      · replace hF := if_t hF c_3
        refine lv_iconst (v := 0) hx hb dX6_digest_118 (by decide) ?_
        refine lv_istore_n (lv' := [(3, .int 0), (0, .ref (h 0)), (1, .long x1_89), (4, .int x4_89), (5, .int x5_89)]) hx hb dX6_digest_119 rfl hl (by decide) rfl (fun ls hl => ?_)
        exact L120 300 thrown_89 x1_89 0  hF _ _ _ hP hD hS (lv_sub hl [1, 2, 0] rfl)
      · replace hF := if_f hF c_3
        refine lv_aload_n hx hb dX6_digest_96 rfl (lv_at hl 2 rfl) ?_
        refine lv_iload hx hb dX6_digest_97 (lv_at hl 4 rfl) ?_
        replace hF := ckI_some hF
        obtain ⟨hi_15, hF⟩ := hF
        refine va_iald hx hb hK hP 2 0 gtX6_2 rfl hi_15 dX6_digest_99 ?_
        refine lv_istore (lv' := [(6, .int (vats x5_89.toNatClampNeg)), (0, .ref (h 0)), (1, .long x1_89), (3, .ref (h 2)), (4, .int x4_89), (5, .int x5_89)]) hx hb dX6_digest_100 hl (by decide) rfl (fun ls hl => ?_)
        refine lv_lload_n hx hb dX6_digest_102 rfl (lv_at hl 2 rfl) ?_
        refine lv_ldc2 (own := RX6) (v := 31) hx hb hown (hts _ (by decide +kernel)) dX6_digest_103 ?_
        refine lv_lmul hx hb dX6_digest_106 ?_
        refine lv_iload hx hb dX6_digest_107 (lv_at hl 0 rfl) ?_
        refine lv_i2l hx hb dX6_digest_109 rfl ?_
        refine lv_ladd hx hb dX6_digest_110 ?_
        refine lv_lstore_n (lv' := [(1, .long ((x1_89 * 31) + ((vats x5_89.toNatClampNeg).toInt64))), (6, .int (vats x5_89.toNatClampNeg)), (0, .ref (h 0)), (3, .ref (h 2)), (4, .int x4_89), (5, .int x5_89)]) hx hb dX6_digest_111 rfl hl (by decide) rfl (fun ls hl => ?_)
        refine lv_iinc (v := x5_89 + 1) (lv' := [(5, .int (x5_89 + 1)), (1, .long ((x1_89 * 31) + ((vats x5_89.toNatClampNeg).toInt64))), (6, .int (vats x5_89.toNatClampNeg)), (0, .ref (h 0)), (3, .ref (h 2)), (4, .int x4_89)]) hx hb dX6_digest_112 hl (k := 5) rfl rfl (by decide) rfl (fun ls hl => ?_)
        refine lv_goto (tgt := 89) hx hb dX6_digest_115 (by decide) ?_
        exact ih  thrown_89 ((x1_89 * 31) + ((vats x5_89.toNatClampNeg).toInt64)) x4_89 (x5_89 + 1)  hF _ _ _ hP hD hS (lv_sub hl [3, 1, 4, 5, 0] rfl)
  have L48 : ∀ (k : Nat) (thrown_48 : Int32) (x1_48 : Int64) (x4_48 : Int32) (x5_48 : Int32), fX6_digest_L48 pairs teams water vats moulds crews posts loft nums k thrown_48 x1_48 x4_48 x5_48 = some z → ∀ (H : Heap) (locs : List Loc) (ls : Array Slot), va_P D vwCl (wX6 cy h thrown_48 pairs teams water vats moulds crews posts loft nums) H → va_D A (wX6 cy h thrown_48 pairs teams water vats moulds crews posts loft nums) → va_S A s.heap H locs → lv_has ls 7 [(0, .ref (h 0)), (1, .long x1_48), (3, .ref (h 1)), (4, .int x4_48), (5, .int x5_48)] → W p l e rX6_digest s m args below meth c H locs 0 0 Q (F0 m 48 ls []) := by
    intro k
    induction k with
    | zero =>
      intro thrown_48 x1_48 x4_48 x5_48 hF
      rw [fX6_digest_L48] at hF
      cases hF
    | succ k ih =>
      intro thrown_48 x1_48 x4_48 x5_48 hF H locs ls hP hD hS hl
      rw [fX6_digest_L48] at hF
      refine lv_iload hx hb dX6_digest_48 (lv_at hl 4 rfl) ?_
      refine lv_iload hx hb dX6_digest_50 (lv_at hl 3 rfl) ?_
      refine lv_icmp_ge (tgt := 77) hx hb dX6_digest_52 (by decide) (fun c_2 => ?_) (fun c_2 => ?_)
      · replace hF := if_t hF c_2
        refine lv_aload_n hx hb dX6_digest_77 rfl (lv_at hl 0 rfl) ?_
        refine va_get (D := D) (C := RX6) (T := TX6) (N := 10) hx hb hts hiX6 hown hK hP 0 gtX6_0 rfl 4 (by decide) hf13 (fun _ h9 => h9) rfl dX6_digest_78 ?_
        refine lv_astore_n (lv' := [(3, .ref (h 2)), (0, .ref (h 0)), (1, .long x1_48), (4, .int x4_48), (5, .int x5_48)]) hx hb dX6_digest_81 rfl hl (by decide) rfl (fun ls hl => ?_)
        refine lv_aload_n hx hb dX6_digest_82 rfl (lv_at hl 0 rfl) ?_
        refine va_alen (v := 12) hx hb hK hP 2 0 gtX6_2 rfl rfl dX6_digest_83 ?_
        refine lv_istore (lv' := [(4, .int 12), (3, .ref (h 2)), (0, .ref (h 0)), (1, .long x1_48), (5, .int x5_48)]) hx hb dX6_digest_84 hl (by decide) rfl (fun ls hl => ?_)
        refine lv_iconst (v := 0) hx hb dX6_digest_86 (by decide) ?_
        refine lv_istore (lv' := [(5, .int 0), (4, .int 12), (3, .ref (h 2)), (0, .ref (h 0)), (1, .long x1_48)]) hx hb dX6_digest_87 hl (by decide) rfl (fun ls hl => ?_)
        exact L89 300 thrown_48 x1_48 12 0  hF _ _ _ hP hD hS (lv_sub hl [3, 4, 2, 1, 0] rfl)
      · replace hF := if_f hF c_2
        refine lv_aload_n hx hb dX6_digest_55 rfl (lv_at hl 2 rfl) ?_
        refine lv_iload hx hb dX6_digest_56 (lv_at hl 4 rfl) ?_
        replace hF := ckI_some hF
        obtain ⟨hi_16, hF⟩ := hF
        refine va_iald hx hb hK hP 1 0 gtX6_1 rfl hi_16 dX6_digest_58 ?_
        refine lv_istore (lv' := [(6, .int (water x5_48.toNatClampNeg)), (0, .ref (h 0)), (1, .long x1_48), (3, .ref (h 1)), (4, .int x4_48), (5, .int x5_48)]) hx hb dX6_digest_59 hl (by decide) rfl (fun ls hl => ?_)
        refine lv_lload_n hx hb dX6_digest_61 rfl (lv_at hl 2 rfl) ?_
        refine lv_ldc2 (own := RX6) (v := 31) hx hb hown (hts _ (by decide +kernel)) dX6_digest_62 ?_
        refine lv_lmul hx hb dX6_digest_65 ?_
        refine lv_iload hx hb dX6_digest_66 (lv_at hl 0 rfl) ?_
        refine lv_i2l hx hb dX6_digest_68 rfl ?_
        refine lv_ladd hx hb dX6_digest_69 ?_
        refine lv_lstore_n (lv' := [(1, .long ((x1_48 * 31) + ((water x5_48.toNatClampNeg).toInt64))), (6, .int (water x5_48.toNatClampNeg)), (0, .ref (h 0)), (3, .ref (h 1)), (4, .int x4_48), (5, .int x5_48)]) hx hb dX6_digest_70 rfl hl (by decide) rfl (fun ls hl => ?_)
        refine lv_iinc (v := x5_48 + 1) (lv' := [(5, .int (x5_48 + 1)), (1, .long ((x1_48 * 31) + ((water x5_48.toNatClampNeg).toInt64))), (6, .int (water x5_48.toNatClampNeg)), (0, .ref (h 0)), (3, .ref (h 1)), (4, .int x4_48)]) hx hb dX6_digest_71 hl (k := 5) rfl rfl (by decide) rfl (fun ls hl => ?_)
        refine lv_goto (tgt := 48) hx hb dX6_digest_74 (by decide) ?_
        exact ih  thrown_48 ((x1_48 * 31) + ((water x5_48.toNatClampNeg).toInt64)) x4_48 (x5_48 + 1)  hF _ _ _ hP hD hS (lv_sub hl [3, 1, 4, 5, 0] rfl)
  have L11 : ∀ (k : Nat) (thrown_11 : Int32) (x1_11 : Int64) (x3_11 : Int32), fX6_digest_L11 pairs teams water vats moulds crews posts loft nums k thrown_11 x1_11 x3_11 = some z → ∀ (H : Heap) (locs : List Loc) (ls : Array Slot), va_P D vwCl (wX6 cy h thrown_11 pairs teams water vats moulds crews posts loft nums) H → va_D A (wX6 cy h thrown_11 pairs teams water vats moulds crews posts loft nums) → va_S A s.heap H locs → lv_has ls 7 [(0, .ref (h 0)), (1, .long x1_11), (3, .int x3_11)] → W p l e rX6_digest s m args below meth c H locs 0 0 Q (F0 m 11 ls []) := by
    intro k
    induction k with
    | zero =>
      intro thrown_11 x1_11 x3_11 hF
      rw [fX6_digest_L11] at hF
      cases hF
    | succ k ih =>
      intro thrown_11 x1_11 x3_11 hF H locs ls hP hD hS hl
      rw [fX6_digest_L11] at hF
      refine lv_iload_n hx hb dX6_digest_11 rfl (lv_at hl 2 rfl) ?_
      refine lv_bipush (v := 12) hx hb dX6_digest_12 (by decide) ?_
      refine lv_icmp_ge (tgt := 36) hx hb dX6_digest_14 (by decide) (fun c_1 => ?_) (fun c_1 => ?_)
      · replace hF := if_t hF c_1
        refine lv_aload_n hx hb dX6_digest_36 rfl (lv_at hl 0 rfl) ?_
        refine va_get (D := D) (C := RX6) (T := TX6) (N := 10) hx hb hts hiX6 hown hK hP 0 gtX6_0 rfl 3 (by decide) hf7 (fun _ h9 => h9) rfl dX6_digest_37 ?_
        refine lv_astore_n (lv' := [(3, .ref (h 1)), (0, .ref (h 0)), (1, .long x1_11)]) hx hb dX6_digest_40 rfl hl (by decide) rfl (fun ls hl => ?_)
        refine lv_aload_n hx hb dX6_digest_41 rfl (lv_at hl 0 rfl) ?_
        refine va_alen (v := 7) hx hb hK hP 1 0 gtX6_1 rfl rfl dX6_digest_42 ?_
        refine lv_istore (lv' := [(4, .int 7), (3, .ref (h 1)), (0, .ref (h 0)), (1, .long x1_11)]) hx hb dX6_digest_43 hl (by decide) rfl (fun ls hl => ?_)
        refine lv_iconst (v := 0) hx hb dX6_digest_45 (by decide) ?_
        refine lv_istore (lv' := [(5, .int 0), (4, .int 7), (3, .ref (h 1)), (0, .ref (h 0)), (1, .long x1_11)]) hx hb dX6_digest_46 hl (by decide) rfl (fun ls hl => ?_)
        exact L48 300 thrown_11 x1_11 7 0  hF _ _ _ hP hD hS (lv_sub hl [3, 4, 2, 1, 0] rfl)
      · replace hF := if_f hF c_1
        refine lv_lload_n hx hb dX6_digest_17 rfl (lv_at hl 1 rfl) ?_
        refine lv_ldc2 (own := RX6) (v := 31) hx hb hown (hts _ (by decide +kernel)) dX6_digest_18 ?_
        refine lv_lmul hx hb dX6_digest_21 ?_
        refine lv_aload_n hx hb dX6_digest_22 rfl (lv_at hl 0 rfl) ?_
        refine lv_iload_n hx hb dX6_digest_23 rfl (lv_at hl 2 rfl) ?_
        replace hF := bnd_some hF
        obtain ⟨z17, hz_17, hF⟩ := hF
        refine krI (kV (As := [.int x3_11]) ⟨hx, hb, hml, hown, hts⟩ (kX6_counted l D cy sa h thrown_11 pairs teams water vats moulds crews posts loft nums x3_11 z17 hz_17 _) (cwV 1 hts gX6_digest_X6_counted rfl rfl rfl (by decide +kernel) ⟨Nat.le_of_ble_eq_true rfl, Nat.le_of_ble_eq_true rfl⟩) hK hP hD hS hA hG [0, 1, 2, 3, 4, 5, 6, 7] hcX6_X6_0 ndX6_0 gtX6_0 rfl rfl rfl hl.1 [.long (x1_11 * 31)] rfl (Nat.le_of_ble_eq_true rfl) dX6_digest_24 ⟨(Nat.le_of_ble_eq_true rfl), (Nat.le_of_ble_eq_true rfl)⟩) hP hD hS hA [0, 1, 2, 3, 4, 5, 6, 7] hcX6_X6_0 (fun H locs hP hS => ?_)
        refine lv_i2l hx hb dX6_digest_27 rfl ?_
        refine lv_ladd hx hb dX6_digest_28 ?_
        refine lv_lstore_n (lv' := [(1, .long ((x1_11 * 31) + z17.toInt64)), (0, .ref (h 0)), (3, .int x3_11)]) hx hb dX6_digest_29 rfl hl (by decide) rfl (fun ls hl => ?_)
        refine lv_iinc (v := x3_11 + 1) (lv' := [(3, .int (x3_11 + 1)), (1, .long ((x1_11 * 31) + z17.toInt64)), (0, .ref (h 0))]) hx hb dX6_digest_30 hl (k := 2) rfl rfl (by decide) rfl (fun ls hl => ?_)
        refine lv_goto (tgt := 11) hx hb dX6_digest_33 (by decide) ?_
        exact ih  thrown_11 ((x1_11 * 31) + z17.toInt64) (x3_11 + 1)  hF _ _ _ hP hD hS (lv_sub hl [2, 1, 0] rfl)
  unfold fX6_digest at hF
  refine lv_aload_n hx hb dX6_digest_0 rfl (lv_at hl 0 rfl) ?_
  refine lv_iconst (v := 0) hx hb dX6_digest_1 (by decide) ?_
  refine va_put (D := D) (v := .int 0) (ty := .int) (C := RX6) (T := TX6) (N := 10) hx hb hts hiX6 tyX6 tyX6_ok nmX6 hown hK hP hD hS 0 gtX6_0 rfl 0 (by decide) hf31 (fun _ h9 => h9) rfl (by decide +kernel) rfl rfl (Nat.le_of_ble_eq_true rfl) dX6_digest_2 (fun H locs hP hD hS => ?_)
  rw [stX6_0_0] at hP hD
  refine lv_ldc2 (own := RX6) (v := 1429) hx hb hown (hts _ (by decide +kernel)) dX6_digest_5 ?_
  refine lv_lstore_n (lv' := [(1, .long 1429), (0, .ref (h 0))]) hx hb dX6_digest_8 rfl hl (by decide) rfl (fun ls hl => ?_)
  refine lv_iconst (v := 0) hx hb dX6_digest_9 (by decide) ?_
  refine lv_istore_n (lv' := [(3, .int 0), (1, .long 1429), (0, .ref (h 0))]) hx hb dX6_digest_10 rfl hl (by decide) rfl (fun ls hl => ?_)
  exact L11 300 0 1429 0  hF _ _ _ hP hD hS (lv_sub hl [2, 1, 0] rfl)
