abbrev wX4 (cy : Nat → ClassId) (h : Nat → Nat) (pulp : FN) (beat : FN) (sort : FN) : va_W := [(h 0, .inr (4, [.ref (h 1), .ref (h 2), .ref (h 3)])), (h 1, .inl (cy 0, 4, .inl pulp)), (h 2, .inl (cy 0, 4, .inl beat)), (h 3, .inl (cy 0, 4, .inl sort))]
abbrev wX1 (cy : Nat → ClassId) (h : Nat → Nat) (nM : Int32) (mark : FN) (size : FN) (worn : FN) : va_W := [(h 0, .inr (1, [.int nM, .ref (h 1), .ref (h 2), .ref (h 3)])), (h 1, .inl (cy 0, 5, .inl mark)), (h 2, .inl (cy 0, 5, .inl size)), (h 3, .inl (cy 0, 5, .inl worn))]
abbrev wX3 (cy : Nat → ClassId) (h : Nat → Nat) (nT : Int32) (skill : FN) (vat : FN) (pair : FN) : va_W := [(h 0, .inr (3, [.int nT, .ref (h 1), .ref (h 2), .ref (h 3)])), (h 1, .inl (cy 0, 3, .inl skill)), (h 2, .inl (cy 0, 3, .inl vat)), (h 3, .inl (cy 0, 3, .inl pair))]
abbrev wX2 (cy : Nat → ClassId) (h : Nat → Nat) (nQ : Int32) (allS : Int32) (pmark : FN) (pgrade : FN) (psheets : FN) : va_W := [(h 0, .inr (2, [.int nQ, .int allS, .ref (h 1), .ref (h 2), .ref (h 3)])), (h 1, .inl (cy 0, 90, .inl pmark)), (h 2, .inl (cy 0, 90, .inl pgrade)), (h 3, .inl (cy 0, 90, .inl psheets))]
abbrev wX0 (cy : Nat → ClassId) (h : Nat → Nat) (day : Int32) (coins : Int32) (felts : Int32) (made : Int32) (worth : Int32) (rags : FN) (water : FN) (pulp : FN) (beat : FN) (sort : FN) (nM : Int32) (mark : FN) (size : FN) (worn : FN) (nT : Int32) (skill : FN) (vat : FN) (pair : FN) (nQ : Int32) (allS : Int32) (pmark : FN) (pgrade : FN) (psheets : FN) (loft : FN) : va_W := [(h 0, .inr (0, [.int day, .int coins, .int felts, .int made, .int worth, .ref (h 1), .ref (h 2), .ref (h 3), .ref (h 7), .ref (h 11), .ref (h 15), .ref (h 19)])), (h 1, .inl (cy 0, 3, .inl rags)), (h 2, .inl (cy 0, 7, .inl water)), (h 3, .inr (4, [.ref (h 4), .ref (h 5), .ref (h 6)])), (h 4, .inl (cy 0, 4, .inl pulp)), (h 5, .inl (cy 0, 4, .inl beat)), (h 6, .inl (cy 0, 4, .inl sort)), (h 7, .inr (1, [.int nM, .ref (h 8), .ref (h 9), .ref (h 10)])), (h 8, .inl (cy 0, 5, .inl mark)), (h 9, .inl (cy 0, 5, .inl size)), (h 10, .inl (cy 0, 5, .inl worn)), (h 11, .inr (3, [.int nT, .ref (h 12), .ref (h 13), .ref (h 14)])), (h 12, .inl (cy 0, 3, .inl skill)), (h 13, .inl (cy 0, 3, .inl vat)), (h 14, .inl (cy 0, 3, .inl pair)), (h 15, .inr (2, [.int nQ, .int allS, .ref (h 16), .ref (h 17), .ref (h 18)])), (h 16, .inl (cy 0, 90, .inl pmark)), (h 17, .inl (cy 0, 90, .inl pgrade)), (h 18, .inl (cy 0, 90, .inl psheets)), (h 19, .inl (cy 0, 30, .inl loft))]
abbrev wX5 (cy : Nat → ClassId) (h : Nat → Nat) (m_day : Int32) (m_coins : Int32) (m_felts : Int32) (m_made : Int32) (m_worth : Int32) (m_rags : FN) (m_water : FN) (m_pulp : FN) (m_beat : FN) (m_sort : FN) (m_nM : Int32) (m_mark : FN) (m_size : FN) (m_worn : FN) (m_nT : Int32) (m_skill : FN) (m_vat : FN) (m_pair : FN) (m_nQ : Int32) (m_allS : Int32) (m_pmark : FN) (m_pgrade : FN) (m_psheets : FN) (m_loft : FN) (t_day : Int32) (t_coins : Int32) (t_felts : Int32) (t_made : Int32) (t_worth : Int32) (t_rags : FN) (t_water : FN) (t_pulp : FN) (t_beat : FN) (t_sort : FN) (t_nM : Int32) (t_mark : FN) (t_size : FN) (t_worn : FN) (t_nT : Int32) (t_skill : FN) (t_vat : FN) (t_pair : FN) (t_nQ : Int32) (t_allS : Int32) (t_pmark : FN) (t_pgrade : FN) (t_psheets : FN) (t_loft : FN) : va_W := [(h 0, .inr (5, [.ref (h 1), .ref (h 21)])), (h 1, .inr (0, [.int m_day, .int m_coins, .int m_felts, .int m_made, .int m_worth, .ref (h 2), .ref (h 3), .ref (h 4), .ref (h 8), .ref (h 12), .ref (h 16), .ref (h 20)])), (h 2, .inl (cy 0, 3, .inl m_rags)), (h 3, .inl (cy 0, 7, .inl m_water)), (h 4, .inr (4, [.ref (h 5), .ref (h 6), .ref (h 7)])), (h 5, .inl (cy 0, 4, .inl m_pulp)), (h 6, .inl (cy 0, 4, .inl m_beat)), (h 7, .inl (cy 0, 4, .inl m_sort)), (h 8, .inr (1, [.int m_nM, .ref (h 9), .ref (h 10), .ref (h 11)])), (h 9, .inl (cy 0, 5, .inl m_mark)), (h 10, .inl (cy 0, 5, .inl m_size)), (h 11, .inl (cy 0, 5, .inl m_worn)), (h 12, .inr (3, [.int m_nT, .ref (h 13), .ref (h 14), .ref (h 15)])), (h 13, .inl (cy 0, 3, .inl m_skill)), (h 14, .inl (cy 0, 3, .inl m_vat)), (h 15, .inl (cy 0, 3, .inl m_pair)), (h 16, .inr (2, [.int m_nQ, .int m_allS, .ref (h 17), .ref (h 18), .ref (h 19)])), (h 17, .inl (cy 0, 90, .inl m_pmark)), (h 18, .inl (cy 0, 90, .inl m_pgrade)), (h 19, .inl (cy 0, 90, .inl m_psheets)), (h 20, .inl (cy 0, 30, .inl m_loft)), (h 21, .inr (0, [.int t_day, .int t_coins, .int t_felts, .int t_made, .int t_worth, .ref (h 22), .ref (h 23), .ref (h 24), .ref (h 28), .ref (h 32), .ref (h 36), .ref (h 40)])), (h 22, .inl (cy 0, 3, .inl t_rags)), (h 23, .inl (cy 0, 7, .inl t_water)), (h 24, .inr (4, [.ref (h 25), .ref (h 26), .ref (h 27)])), (h 25, .inl (cy 0, 4, .inl t_pulp)), (h 26, .inl (cy 0, 4, .inl t_beat)), (h 27, .inl (cy 0, 4, .inl t_sort)), (h 28, .inr (1, [.int t_nM, .ref (h 29), .ref (h 30), .ref (h 31)])), (h 29, .inl (cy 0, 5, .inl t_mark)), (h 30, .inl (cy 0, 5, .inl t_size)), (h 31, .inl (cy 0, 5, .inl t_worn)), (h 32, .inr (3, [.int t_nT, .ref (h 33), .ref (h 34), .ref (h 35)])), (h 33, .inl (cy 0, 3, .inl t_skill)), (h 34, .inl (cy 0, 3, .inl t_vat)), (h 35, .inl (cy 0, 3, .inl t_pair)), (h 36, .inr (2, [.int t_nQ, .int t_allS, .ref (h 37), .ref (h 38), .ref (h 39)])), (h 37, .inl (cy 0, 90, .inl t_pmark)), (h 38, .inl (cy 0, 90, .inl t_pgrade)), (h 39, .inl (cy 0, 90, .inl t_psheets)), (h 40, .inl (cy 0, 30, .inl t_loft))]
abbrev wX6 (cy : Nat → ClassId) (h : Nat → Nat) (thrown : Int32) (pairs : Int32) (teams : Int32) (water : FN) (vats : FN) (moulds : FN) (crews : FN) (posts : FN) (loft : FN) (nums : FN) : va_W := [(h 0, .inr (6, [.int thrown, .int pairs, .int teams, .ref (h 1), .ref (h 2), .ref (h 3), .ref (h 4), .ref (h 5), .ref (h 6), .ref (h 7)])), (h 1, .inl (cy 0, 7, .inl water)), (h 2, .inl (cy 0, 12, .inl vats)), (h 3, .inl (cy 0, 20, .inl moulds)), (h 4, .inl (cy 0, 12, .inl crews)), (h 5, .inl (cy 0, 270, .inl posts)), (h 6, .inl (cy 0, 30, .inl loft)), (h 7, .inl (cy 0, 9, .inl nums))]
def fX5_isBelow (a1 : Int32) (a2 : Int32) : Option (Int32) := if a1 < 0 then some 0 else if a2 ≤ a1 then some 0 else some 1
abbrev rX5_isBelow : Room := { frames := 0, cells := 0, slots := 0, locals := 0 }
set_option maxHeartbeats 4000000 in
set_option maxRecDepth 100000 in
theorem kX5_isBelow (l : Launch) (D : va_G) (cy : Nat → ClassId) (sa : Nat → Nat) (a1 : Int32) (a2 : Int32) (z : Int32) (hF : fX5_isBelow a1 a2 = some z) : KI l D (tyW cy) sa yX5_isBelow wsX5_isBelow rX5_isBelow [.int a1, .int a2] (([] : va_W)) z (fun _ => ([] : va_W)) 0 0 := by
  refine KI.ofZ (cc := cX5_isBelow) (maxL := 2) (by decide) rfl (Nat.le_of_ble_eq_true rfl) ?_
  intro p e s m args below meth c A ls Q hE hQ
  obtain ⟨hx, hb, hml, hown, hts, hA, hP, hK, hD, hG, hl, hnm⟩ := hE
  replace hown : s.vm.findClass RX5 = some m.cls := hown
  replace hl : lv_has ls 2 [(0, .int a1), (1, .int a2)] := hl
  have hS : va_S A s.heap s.heap [] := va_S.rf
  unfold fX5_isBelow at hF
  refine lv_iload_n hx hb dX5_isBelow_0 rfl (lv_at hl 0 rfl) ?_
  refine lv_if_lt (tgt := 13) hx hb dX5_isBelow_1 (by decide) (fun c_1 => ?_) (fun c_1 => ?_)
  · replace hF := if_t hF c_1
    refine lv_iconst (v := 0) hx hb dX5_isBelow_13 (by decide) ?_
    cases hF
    exact hQ _ _ _ _ _ _ (fun _ => 0) rfl dX5_isBelow_14 hP hD hS (Nat.le_of_ble_eq_true rfl) (Nat.le_of_ble_eq_true rfl)
  · replace hF := if_f hF c_1
    refine lv_iload_n hx hb dX5_isBelow_4 rfl (lv_at hl 0 rfl) ?_
    refine lv_iload_n hx hb dX5_isBelow_5 rfl (lv_at hl 1 rfl) ?_
    refine lv_icmp_ge (tgt := 13) hx hb dX5_isBelow_6 (by decide) (fun c_2 => ?_) (fun c_2 => ?_)
    · replace hF := if_t hF c_2
      refine lv_iconst (v := 0) hx hb dX5_isBelow_13 (by decide) ?_
      cases hF
      exact hQ _ _ _ _ _ _ (fun _ => 0) rfl dX5_isBelow_14 hP hD hS (Nat.le_of_ble_eq_true rfl) (Nat.le_of_ble_eq_true rfl)
    · replace hF := if_f hF c_2
      refine lv_iconst (v := 1) hx hb dX5_isBelow_9 (by decide) ?_
      refine lv_goto (tgt := 14) hx hb dX5_isBelow_10 (by decide) ?_
      cases hF
      exact hQ _ _ _ _ _ _ (fun _ => 0) rfl dX5_isBelow_14 hP hD hS (Nat.le_of_ble_eq_true rfl) (Nat.le_of_ble_eq_true rfl)

def fX4_pulpOf (pulp : FN) (a1 : Int32) : Option (Int32) := (fX5_isBelow a1 4).bind fun z1 => if z1 = 0 then some 0 else ckI a1 4 (some (pulp a1.toNatClampNeg))
abbrev rX4_pulpOf : Room := { frames := 1, cells := 0, slots := 0, locals := 21 }
set_option maxHeartbeats 4000000 in
set_option maxRecDepth 100000 in
theorem kX4_pulpOf (l : Launch) (D : va_G) (cy : Nat → ClassId) (sa : Nat → Nat) (h : Nat → Nat) (pulp : FN) (beat : FN) (sort : FN) (a1 : Int32) (z : Int32) (hF : fX4_pulpOf pulp a1 = some z) : KI l D (tyW cy) sa yX4_pulpOf wsX4_pulpOf rX4_pulpOf [.ref (h 0), .int a1] (wX4 cy h pulp beat sort) z (fun _ => wX4 cy h pulp beat sort) 0 0 := by
  refine KI.of (cc := cX4_pulpOf) (maxL := 2) (by decide) rfl (Nat.le_of_ble_eq_true rfl) ?_
  intro p e s m args below meth c A ls Q hE hQ
  obtain ⟨hx, hb, hml, hown, hts, hA, hP, hK, hD, hG, hl, hnm⟩ := hE
  replace hown : s.vm.findClass RX4 = some m.cls := hown
  have hiX4 : ∀ w ∈ u_ws RX4 TX4 3, w ∈ wsX4_pulpOf := by decide +kernel
  have hf9 : (Cond.fieldLink RX4 9 "RagVats$Vats" "pulp" "[I").before args s = true := hts _ (by decide +kernel)
  have hn33 : va_Nw (.methodLinkNest RX4 33 yX5_isBelow "RagVats") s := hG.1.1 _ (by decide +kernel)
  replace hl : lv_has ls 2 [(0, .ref (h 0)), (1, .int a1)] := hl
  have hS : va_S A s.heap s.heap [] := va_S.rf
  unfold fX4_pulpOf at hF
  refine lv_iload_n hx hb dX4_pulpOf_0 rfl (lv_at hl 1 rfl) ?_
  refine lv_iconst (v := 4) hx hb dX4_pulpOf_1 (by decide) ?_
  replace hF := bnd_some hF
  obtain ⟨z1, hz_1, hF⟩ := hF
  refine krI (kSN (As := [.int a1, .int 4]) ⟨hx, hb, hml, hown, hts⟩ (kX5_isBelow l D cy sa a1 4 z1 hz_1 _) ⟨va_cnB (host := "RagVats") 2 hts gX4_pulpOf_X5_isBelow_n33 rfl rfl rfl hn33 (hts (.initialized RX5) (by decide +kernel)) (by decide +kernel) ⟨Nat.le_of_ble_eq_true rfl, Nat.le_of_ble_eq_true rfl⟩, hts (.static yX5_isBelow) (by decide +kernel), trivial⟩ hK hP hD hS hA hG [] rfl rfl rfl hl.1 [] rfl (Nat.le_of_ble_eq_true rfl) dX4_pulpOf_2 ⟨Nat.le_of_ble_eq_true rfl, Nat.le_of_ble_eq_true rfl⟩) hP hD hS hA [] rfl (fun H locs hP hS => ?_)
  refine lv_if_eq (tgt := 17) hx hb dX4_pulpOf_5 (by decide) (fun c_2 => ?_) (fun c_2 => ?_)
  · replace hF := if_t hF c_2
    refine lv_iconst (v := 0) hx hb dX4_pulpOf_17 (by decide) ?_
    cases hF
    exact hQ _ _ _ _ _ _ (fun _ => 0) dX4_pulpOf_18 hP hD hS (Nat.le_of_ble_eq_true rfl) (Nat.le_of_ble_eq_true rfl)
  · replace hF := if_f hF c_2
    refine lv_aload_n hx hb dX4_pulpOf_8 rfl (lv_at hl 0 rfl) ?_
    refine va_get (D := D) (C := RX4) (T := TX4) (N := 3) hx hb hts hiX4 hown hK hP 0 rfl rfl 0 (by decide) hf9 (fun _ h9 => h9) rfl dX4_pulpOf_9 ?_
    refine lv_iload_n hx hb dX4_pulpOf_12 rfl (lv_at hl 1 rfl) ?_
    replace hF := ckI_some hF
    obtain ⟨hi_3, hF⟩ := hF
    refine va_iald hx hb hK hP 1 0 rfl rfl hi_3 dX4_pulpOf_13 ?_
    refine lv_goto (tgt := 18) hx hb dX4_pulpOf_14 (by decide) ?_
    cases hF
    exact hQ _ _ _ _ _ _ (fun _ => 0) dX4_pulpOf_18 hP hD hS (Nat.le_of_ble_eq_true rfl) (Nat.le_of_ble_eq_true rfl)

def fX4_charge (pulp : FN) (beat : FN) (sort : FN) (a1 : Int32) (a2 : Int32) (a3 : Int32) : Option (FN × FN × FN) := (fX5_isBelow a1 4).bind fun z1 => if z1 = 0 then some (pulp, beat, sort) else ckI a1 4 (ckI a1 4 (ckI a1 4 (some (upd pulp a1.toNatClampNeg a3, upd beat a1.toNatClampNeg 0, upd sort a1.toNatClampNeg a2))))
abbrev rX4_charge : Room := { frames := 1, cells := 0, slots := 0, locals := 21 }
set_option maxHeartbeats 4000000 in
set_option maxRecDepth 100000 in
theorem kX4_charge (l : Launch) (D : va_G) (cy : Nat → ClassId) (sa : Nat → Nat) (h : Nat → Nat) (pulp : FN) (beat : FN) (sort : FN) (a1 : Int32) (a2 : Int32) (a3 : Int32) (z : FN × FN × FN) (hF : fX4_charge pulp beat sort a1 a2 a3 = some z) : KV l D (tyW cy) sa yX4_charge wsX4_charge rX4_charge [.ref (h 0), .int a1, .int a2, .int a3] (wX4 cy h pulp beat sort) (fun _ => wX4 cy h z.1 z.2.1 z.2.2) 0 0 := by
  refine KV.of (cc := cX4_charge) (maxL := 4) (by decide) rfl (Nat.le_of_ble_eq_true rfl) ?_
  intro p e s m args below meth c A ls Q hE hQ
  obtain ⟨hx, hb, hml, hown, hts, hA, hP, hK, hD, hG, hl, hnm⟩ := hE
  replace hown : s.vm.findClass RX4 = some m.cls := hown
  have hiX4 : ∀ w ∈ u_ws RX4 TX4 3, w ∈ wsX4_charge := by decide +kernel
  have hf9 : (Cond.fieldLink RX4 9 "RagVats$Vats" "pulp" "[I").before args s = true := hts _ (by decide +kernel)
  have hf15 : (Cond.fieldLink RX4 15 "RagVats$Vats" "beat" "[I").before args s = true := hts _ (by decide +kernel)
  have hf18 : (Cond.fieldLink RX4 18 "RagVats$Vats" "sort" "[I").before args s = true := hts _ (by decide +kernel)
  have hn33 : va_Nw (.methodLinkNest RX4 33 yX5_isBelow "RagVats") s := hG.1.1 _ (by decide +kernel)
  replace hl : lv_has ls 4 [(0, .ref (h 0)), (1, .int a1), (2, .int a2), (3, .int a3)] := hl
  have hS : va_S A s.heap s.heap [] := va_S.rf
  unfold fX4_charge at hF
  refine lv_iload_n hx hb dX4_charge_0 rfl (lv_at hl 1 rfl) ?_
  refine lv_iconst (v := 4) hx hb dX4_charge_1 (by decide) ?_
  replace hF := bnd_some hF
  obtain ⟨z1, hz_1, hF⟩ := hF
  refine krI (kSN (As := [.int a1, .int 4]) ⟨hx, hb, hml, hown, hts⟩ (kX5_isBelow l D cy sa a1 4 z1 hz_1 _) ⟨va_cnB (host := "RagVats") 2 hts gX4_charge_X5_isBelow_n33 rfl rfl rfl hn33 (hts (.initialized RX5) (by decide +kernel)) (by decide +kernel) ⟨Nat.le_of_ble_eq_true rfl, Nat.le_of_ble_eq_true rfl⟩, hts (.static yX5_isBelow) (by decide +kernel), trivial⟩ hK hP hD hS hA hG [] rfl rfl rfl hl.1 [] rfl (Nat.le_of_ble_eq_true rfl) dX4_charge_2 ⟨Nat.le_of_ble_eq_true rfl, Nat.le_of_ble_eq_true rfl⟩) hP hD hS hA [] rfl (fun H locs hP hS => ?_)
  refine lv_if_eq (tgt := 29) hx hb dX4_charge_5 (by decide) (fun c_2 => ?_) (fun c_2 => ?_)
  · replace hF := if_t hF c_2
    cases hF
    exact hQ _ _ _ _ _ _ (fun _ => 0) dX4_charge_29 hP hD hS (Nat.le_of_ble_eq_true rfl) (Nat.le_of_ble_eq_true rfl)
  · replace hF := if_f hF c_2
    refine lv_aload_n hx hb dX4_charge_8 rfl (lv_at hl 0 rfl) ?_
    refine va_get (D := D) (C := RX4) (T := TX4) (N := 3) hx hb hts hiX4 hown hK hP 0 rfl rfl 0 (by decide) hf9 (fun _ h9 => h9) rfl dX4_charge_9 ?_
    refine lv_iload_n hx hb dX4_charge_12 rfl (lv_at hl 1 rfl) ?_
    refine lv_iload_n hx hb dX4_charge_13 rfl (lv_at hl 3 rfl) ?_
    replace hF := ckI_some hF
    obtain ⟨hi_3, hF⟩ := hF
    refine va_iast hx hb hK hP hD hS 1 0 rfl rfl hi_3 dX4_charge_14 (fun H locs hP hD hS => ?_)
    replace hP : va_P D vwCl (wX4 cy h (upd pulp a1.toNatClampNeg a3) beat sort) H := hP
    replace hD : va_D A (wX4 cy h (upd pulp a1.toNatClampNeg a3) beat sort) := hD
    refine lv_aload_n hx hb dX4_charge_15 rfl (lv_at hl 0 rfl) ?_
    refine va_get (D := D) (C := RX4) (T := TX4) (N := 3) hx hb hts hiX4 hown hK hP 0 rfl rfl 1 (by decide) hf15 (fun _ h9 => h9) rfl dX4_charge_16 ?_
    refine lv_iload_n hx hb dX4_charge_19 rfl (lv_at hl 1 rfl) ?_
    refine lv_iconst (v := 0) hx hb dX4_charge_20 (by decide) ?_
    replace hF := ckI_some hF
    obtain ⟨hi_4, hF⟩ := hF
    refine va_iast hx hb hK hP hD hS 2 0 rfl rfl hi_4 dX4_charge_21 (fun H locs hP hD hS => ?_)
    replace hP : va_P D vwCl (wX4 cy h (upd pulp a1.toNatClampNeg a3) (upd beat a1.toNatClampNeg 0) sort) H := hP
    replace hD : va_D A (wX4 cy h (upd pulp a1.toNatClampNeg a3) (upd beat a1.toNatClampNeg 0) sort) := hD
    refine lv_aload_n hx hb dX4_charge_22 rfl (lv_at hl 0 rfl) ?_
    refine va_get (D := D) (C := RX4) (T := TX4) (N := 3) hx hb hts hiX4 hown hK hP 0 rfl rfl 2 (by decide) hf18 (fun _ h9 => h9) rfl dX4_charge_23 ?_
    refine lv_iload_n hx hb dX4_charge_26 rfl (lv_at hl 1 rfl) ?_
    refine lv_iload_n hx hb dX4_charge_27 rfl (lv_at hl 2 rfl) ?_
    replace hF := ckI_some hF
    obtain ⟨hi_5, hF⟩ := hF
    refine va_iast hx hb hK hP hD hS 3 0 rfl rfl hi_5 dX4_charge_28 (fun H locs hP hD hS => ?_)
    replace hP : va_P D vwCl (wX4 cy h (upd pulp a1.toNatClampNeg a3) (upd beat a1.toNatClampNeg 0) (upd sort a1.toNatClampNeg a2)) H := hP
    replace hD : va_D A (wX4 cy h (upd pulp a1.toNatClampNeg a3) (upd beat a1.toNatClampNeg 0) (upd sort a1.toNatClampNeg a2)) := hD
    cases hF
    exact hQ _ _ _ _ _ _ (fun _ => 0) dX4_charge_29 hP hD hS (Nat.le_of_ble_eq_true rfl) (Nat.le_of_ble_eq_true rfl)

def fX4_takeOut (pulp : FN) (beat : FN) (sort : FN) (a1 : Int32) (a2 : Int32) : Option (FN × FN × FN) := (fX5_isBelow a1 4).bind fun z1 => if z1 = 0 then some (pulp, beat, sort) else ckI a1 4 (ckI a1 4 (ckI a1 4 (if 0 < ((upd pulp a1.toNatClampNeg ((pulp a1.toNatClampNeg) - a2)) a1.toNatClampNeg) then some (upd pulp a1.toNatClampNeg ((pulp a1.toNatClampNeg) - a2), beat, sort) else (fX4_charge (upd pulp a1.toNatClampNeg ((pulp a1.toNatClampNeg) - a2)) beat sort a1 (-1) 0).bind fun z7 => some (z7.1, z7.2.1, z7.2.2))))
abbrev rX4_takeOut : Room := { frames := 2, cells := 0, slots := 0, locals := 44 }
set_option maxHeartbeats 4000000 in
set_option maxRecDepth 100000 in
theorem kX4_takeOut (l : Launch) (D : va_G) (cy : Nat → ClassId) (sa : Nat → Nat) (h : Nat → Nat) (pulp : FN) (beat : FN) (sort : FN) (a1 : Int32) (a2 : Int32) (z : FN × FN × FN) (hF : fX4_takeOut pulp beat sort a1 a2 = some z) : KV l D (tyW cy) sa yX4_takeOut wsX4_takeOut rX4_takeOut [.ref (h 0), .int a1, .int a2] (wX4 cy h pulp beat sort) (fun _ => wX4 cy h z.1 z.2.1 z.2.2) 0 0 := by
  refine KV.of (cc := cX4_takeOut) (maxL := 3) (by decide) rfl (Nat.le_of_ble_eq_true rfl) ?_
  intro p e s m args below meth c A ls Q hE hQ
  obtain ⟨hx, hb, hml, hown, hts, hA, hP, hK, hD, hG, hl, hnm⟩ := hE
  replace hown : s.vm.findClass RX4 = some m.cls := hown
  have hiX4 : ∀ w ∈ u_ws RX4 TX4 3, w ∈ wsX4_takeOut := by decide +kernel
  have hf9 : (Cond.fieldLink RX4 9 "RagVats$Vats" "pulp" "[I").before args s = true := hts _ (by decide +kernel)
  have hn33 : va_Nw (.methodLinkNest RX4 33 yX5_isBelow "RagVats") s := hG.1.1 _ (by decide +kernel)
  replace hl : lv_has ls 3 [(0, .ref (h 0)), (1, .int a1), (2, .int a2)] := hl
  have hS : va_S A s.heap s.heap [] := va_S.rf
  unfold fX4_takeOut at hF
  refine lv_iload_n hx hb dX4_takeOut_0 rfl (lv_at hl 1 rfl) ?_
  refine lv_iconst (v := 4) hx hb dX4_takeOut_1 (by decide) ?_
  replace hF := bnd_some hF
  obtain ⟨z1, hz_1, hF⟩ := hF
  refine krI (kSN (As := [.int a1, .int 4]) ⟨hx, hb, hml, hown, hts⟩ (kX5_isBelow l D cy sa a1 4 z1 hz_1 _) ⟨va_cnB (host := "RagVats") 2 hts gX4_takeOut_X5_isBelow_n33 rfl rfl rfl hn33 (hts (.initialized RX5) (by decide +kernel)) (by decide +kernel) ⟨Nat.le_of_ble_eq_true rfl, Nat.le_of_ble_eq_true rfl⟩, hts (.static yX5_isBelow) (by decide +kernel), trivial⟩ hK hP hD hS hA hG [] rfl rfl rfl hl.1 [] rfl (Nat.le_of_ble_eq_true rfl) dX4_takeOut_2 ⟨Nat.le_of_ble_eq_true rfl, Nat.le_of_ble_eq_true rfl⟩) hP hD hS hA [] rfl (fun H locs hP hS => ?_)
  refine lv_if_ne (tgt := 9) hx hb dX4_takeOut_5 (by decide) (fun c_2 => ?_) (fun c_2 => ?_)
  · replace hF := if_f hF c_2
    refine lv_aload_n hx hb dX4_takeOut_9 rfl (lv_at hl 0 rfl) ?_
    refine va_get (D := D) (C := RX4) (T := TX4) (N := 3) hx hb hts hiX4 hown hK hP 0 rfl rfl 0 (by decide) hf9 (fun _ h9 => h9) rfl dX4_takeOut_10 ?_
    refine lv_iload_n hx hb dX4_takeOut_13 rfl (lv_at hl 1 rfl) ?_
    refine lv_dup2_11 hx hb dX4_takeOut_14 rfl rfl ?_
    replace hF := ckI_some hF
    obtain ⟨hi_3, hF⟩ := hF
    refine va_iald hx hb hK hP 1 0 rfl rfl hi_3 dX4_takeOut_15 ?_
    refine lv_iload_n hx hb dX4_takeOut_16 rfl (lv_at hl 2 rfl) ?_
    refine lv_isub hx hb dX4_takeOut_17 ?_
    replace hF := ckI_some hF
    obtain ⟨hi_4, hF⟩ := hF
    refine va_iast hx hb hK hP hD hS 1 0 rfl rfl hi_4 dX4_takeOut_18 (fun H locs hP hD hS => ?_)
    replace hP : va_P D vwCl (wX4 cy h (upd pulp a1.toNatClampNeg ((pulp a1.toNatClampNeg) - a2)) beat sort) H := hP
    replace hD : va_D A (wX4 cy h (upd pulp a1.toNatClampNeg ((pulp a1.toNatClampNeg) - a2)) beat sort) := hD
    refine lv_aload_n hx hb dX4_takeOut_19 rfl (lv_at hl 0 rfl) ?_
    refine va_get (D := D) (C := RX4) (T := TX4) (N := 3) hx hb hts hiX4 hown hK hP 0 rfl rfl 0 (by decide) hf9 (fun _ h9 => h9) rfl dX4_takeOut_20 ?_
    refine lv_iload_n hx hb dX4_takeOut_23 rfl (lv_at hl 1 rfl) ?_
    replace hF := ckI_some hF
    obtain ⟨hi_5, hF⟩ := hF
    refine va_iald hx hb hK hP 1 0 rfl rfl hi_5 dX4_takeOut_24 ?_
    refine lv_if_gt (tgt := 35) hx hb dX4_takeOut_25 (by decide) (fun c_6 => ?_) (fun c_6 => ?_)
    · replace hF := if_t hF c_6
      cases hF
      exact hQ _ _ _ _ _ _ (fun _ => 0) dX4_takeOut_35 hP hD hS (Nat.le_of_ble_eq_true rfl) (Nat.le_of_ble_eq_true rfl)
    · replace hF := if_f hF c_6
      refine lv_aload_n hx hb dX4_takeOut_28 rfl (lv_at hl 0 rfl) ?_
      refine lv_iload_n hx hb dX4_takeOut_29 rfl (lv_at hl 1 rfl) ?_
      refine lv_iconst (v := -1) hx hb dX4_takeOut_30 (by decide) ?_
      refine lv_iconst (v := 0) hx hb dX4_takeOut_31 (by decide) ?_
      replace hF := bnd_some hF
      obtain ⟨z7, hz_7, hF⟩ := hF
      refine kwV (kV (As := [.int a1, .int (-1), .int 0]) ⟨hx, hb, hml, hown, hts⟩ (kX4_charge l D cy sa h (upd pulp a1.toNatClampNeg ((pulp a1.toNatClampNeg) - a2)) beat sort a1 (-1) 0 z7 hz_7 _) (cwV 3 hts gX4_takeOut_X4_charge rfl rfl rfl (by decide +kernel) ⟨Nat.le_of_ble_eq_true rfl, Nat.le_of_ble_eq_true rfl⟩) hK hP hD hS hA hG [0, 1, 2, 3] rfl rfl rfl rfl rfl rfl hl.1 [] rfl (Nat.le_of_ble_eq_true rfl) dX4_takeOut_32 ⟨Nat.le_of_ble_eq_true rfl, Nat.le_of_ble_eq_true rfl⟩) hP hD hS hA [0, 1, 2, 3] rfl rfl (fun H locs hP hD hS => ?_)
      replace hP : va_P D vwCl (wX4 cy h z7.1 z7.2.1 z7.2.2) H := hP
      replace hD : va_D A (wX4 cy h z7.1 z7.2.1 z7.2.2) := hD
      cases hF
      exact hQ _ _ _ _ _ _ (fun _ => 0) dX4_takeOut_35 hP hD hS (Nat.le_of_ble_eq_true rfl) (Nat.le_of_ble_eq_true rfl)
  · replace hF := if_t hF c_2
    cases hF
    exact hQ _ _ _ _ _ _ (fun _ => 0) dX4_takeOut_8 hP hD hS (Nat.le_of_ble_eq_true rfl) (Nat.le_of_ble_eq_true rfl)

def fX4_allPulp_L4 (pulp : FN) : Nat → Int32 → Int32 → Option (Int32)
  | 0, _, _ => none
  | k + 1, x1_4, x2_4 => if 4 ≤ x2_4 then some x1_4 else ckI x2_4 4 (fX4_allPulp_L4 pulp k (x1_4 + (pulp x2_4.toNatClampNeg)) (x2_4 + 1))
def fX4_allPulp (pulp : FN) : Option (Int32) := fX4_allPulp_L4 pulp 300 0 0
abbrev rX4_allPulp : Room := { frames := 0, cells := 0, slots := 0, locals := 0 }
set_option maxHeartbeats 4000000 in
set_option maxRecDepth 100000 in
theorem kX4_allPulp (l : Launch) (D : va_G) (cy : Nat → ClassId) (sa : Nat → Nat) (h : Nat → Nat) (pulp : FN) (beat : FN) (sort : FN) (z : Int32) (hF : fX4_allPulp pulp = some z) : KI l D (tyW cy) sa yX4_allPulp wsX4_allPulp rX4_allPulp [.ref (h 0)] (wX4 cy h pulp beat sort) z (fun _ => wX4 cy h pulp beat sort) 0 0 := by
  refine KI.of (cc := cX4_allPulp) (maxL := 3) (by decide) rfl (Nat.le_of_ble_eq_true rfl) ?_
  intro p e s m args below meth c A ls Q hE hQ
  obtain ⟨hx, hb, hml, hown, hts, hA, hP, hK, hD, hG, hl, hnm⟩ := hE
  replace hown : s.vm.findClass RX4 = some m.cls := hown
  have hiX4 : ∀ w ∈ u_ws RX4 TX4 3, w ∈ wsX4_allPulp := by decide +kernel
  have hf9 : (Cond.fieldLink RX4 9 "RagVats$Vats" "pulp" "[I").before args s = true := hts _ (by decide +kernel)
  replace hl : lv_has ls 3 [(0, .ref (h 0))] := hl
  have hS : va_S A s.heap s.heap [] := va_S.rf
  have L4 : ∀ (k : Nat) (x1_4 : Int32) (x2_4 : Int32), fX4_allPulp_L4 pulp k x1_4 x2_4 = some z → ∀ (H : Heap) (locs : List Loc) (ls : Array Slot), va_P D vwCl (wX4 cy h pulp beat sort) H → va_D A (wX4 cy h pulp beat sort) → va_S A s.heap H locs → lv_has ls 3 [(0, .ref (h 0)), (1, .int x1_4), (2, .int x2_4)] → W p l e rX4_allPulp s m args below meth c H locs 0 0 Q (F0 m 4 ls []) := by
    intro k
    induction k with
    | zero =>
      intro x1_4 x2_4 hF
      rw [fX4_allPulp_L4] at hF
      cases hF
    | succ k ih =>
      intro x1_4 x2_4 hF H locs ls hP hD hS hl
      rw [fX4_allPulp_L4] at hF
      refine lv_iload_n hx hb dX4_allPulp_4 rfl (lv_at hl 2 rfl) ?_
      refine lv_iconst (v := 4) hx hb dX4_allPulp_5 (by decide) ?_
      refine lv_icmp_ge (tgt := 24) hx hb dX4_allPulp_6 (by decide) (fun c_1 => ?_) (fun c_1 => ?_)
      · replace hF := if_t hF c_1
        refine lv_iload_n hx hb dX4_allPulp_24 rfl (lv_at hl 1 rfl) ?_
        cases hF
        exact hQ _ _ _ _ _ _ (fun _ => 0) dX4_allPulp_25 hP hD hS (Nat.le_of_ble_eq_true rfl) (Nat.le_of_ble_eq_true rfl)
      · replace hF := if_f hF c_1
        refine lv_iload_n hx hb dX4_allPulp_9 rfl (lv_at hl 1 rfl) ?_
        refine lv_aload_n hx hb dX4_allPulp_10 rfl (lv_at hl 0 rfl) ?_
        refine va_get (D := D) (C := RX4) (T := TX4) (N := 3) hx hb hts hiX4 hown hK hP 0 rfl rfl 0 (by decide) hf9 (fun _ h9 => h9) rfl dX4_allPulp_11 ?_
        refine lv_iload_n hx hb dX4_allPulp_14 rfl (lv_at hl 2 rfl) ?_
        replace hF := ckI_some hF
        obtain ⟨hi_2, hF⟩ := hF
        refine va_iald hx hb hK hP 1 0 rfl rfl hi_2 dX4_allPulp_15 ?_
        refine lv_iadd hx hb dX4_allPulp_16 ?_
        refine lv_istore_n (lv' := [(1, .int (x1_4 + (pulp x2_4.toNatClampNeg))), (0, .ref (h 0)), (2, .int x2_4)]) hx hb dX4_allPulp_17 rfl hl (by decide) rfl (fun ls hl => ?_)
        refine lv_iinc (v := x2_4 + 1) (lv' := [(2, .int (x2_4 + 1)), (1, .int (x1_4 + (pulp x2_4.toNatClampNeg))), (0, .ref (h 0))]) hx hb dX4_allPulp_18 hl (k := 2) rfl rfl (by decide) rfl (fun ls hl => ?_)
        refine lv_goto (tgt := 4) hx hb dX4_allPulp_21 (by decide) ?_
        exact ih  (x1_4 + (pulp x2_4.toNatClampNeg)) (x2_4 + 1)  hF _ _ _ hP hD hS (lv_sub hl [2, 1, 0] rfl)
  unfold fX4_allPulp at hF
  refine lv_iconst (v := 0) hx hb dX4_allPulp_0 (by decide) ?_
  refine lv_istore_n (lv' := [(1, .int 0), (0, .ref (h 0))]) hx hb dX4_allPulp_1 rfl hl (by decide) rfl (fun ls hl => ?_)
  refine lv_iconst (v := 0) hx hb dX4_allPulp_2 (by decide) ?_
  refine lv_istore_n (lv' := [(2, .int 0), (1, .int 0), (0, .ref (h 0))]) hx hb dX4_allPulp_3 rfl hl (by decide) rfl (fun ls hl => ?_)
  exact L4 300 0 0  hF _ _ _ hP hD hS (lv_sub hl [2, 1, 0] rfl)

