def fX5_about (m_pulp : FN) (m_beat : FN) (m_sort : FN) (a1 : Int32) (a2 : Int32) : Option ((Int32) ⊕ Nat) := (fX5_isBelow a1 4).bind fun z1 => if z1 = 0 then some (.inr 0) else (fX5_isBelow a2 3).bind fun z3 => if z3 = 0 then some (.inr 0) else (fX4_tell m_pulp m_beat m_sort a1 a2).bind fun z5 => some (.inl z5)
abbrev rX5_about : Room := { frames := 3, cells := 0, slots := 0, locals := 64 }
set_option maxHeartbeats 4000000 in
set_option maxRecDepth 100000 in
theorem kX5_about (l : Launch) (D : va_G) (cy : Nat → ClassId) (sa : SAT) (h : Nat → Nat) (m_day : Int32) (m_coins : Int32) (m_felts : Int32) (m_made : Int32) (m_worth : Int32) (m_rags : FN) (m_water : FN) (m_pulp : FN) (m_beat : FN) (m_sort : FN) (m_nM : Int32) (m_mark : FN) (m_size : FN) (m_worn : FN) (m_nT : Int32) (m_skill : FN) (m_vat : FN) (m_pair : FN) (m_nQ : Int32) (m_allS : Int32) (m_pmark : FN) (m_pgrade : FN) (m_psheets : FN) (m_loft : FN) (t_day : Int32) (t_coins : Int32) (t_felts : Int32) (t_made : Int32) (t_worth : Int32) (t_rags : FN) (t_water : FN) (t_pulp : FN) (t_beat : FN) (t_sort : FN) (t_nM : Int32) (t_mark : FN) (t_size : FN) (t_worn : FN) (t_nT : Int32) (t_skill : FN) (t_vat : FN) (t_pair : FN) (t_nQ : Int32) (t_allS : Int32) (t_pmark : FN) (t_pgrade : FN) (t_psheets : FN) (t_loft : FN) (a1 : Int32) (a2 : Int32) (z : Int32) (hF : fX5_about m_pulp m_beat m_sort a1 a2 = some (.inl z)) : KI l D (tyW cy) sa yX5_about wsX5_about rX5_about [.ref (h 0), .int a1, .int a2] (wX5 cy h m_day m_coins m_felts m_made m_worth m_rags m_water m_pulp m_beat m_sort m_nM m_mark m_size m_worn m_nT m_skill m_vat m_pair m_nQ m_allS m_pmark m_pgrade m_psheets m_loft t_day t_coins t_felts t_made t_worth t_rags t_water t_pulp t_beat t_sort t_nM t_mark t_size t_worn t_nT t_skill t_vat t_pair t_nQ t_allS t_pmark t_pgrade t_psheets t_loft) z (fun _ => wX5 cy h m_day m_coins m_felts m_made m_worth m_rags m_water m_pulp m_beat m_sort m_nM m_mark m_size m_worn m_nT m_skill m_vat m_pair m_nQ m_allS m_pmark m_pgrade m_psheets m_loft t_day t_coins t_felts t_made t_worth t_rags t_water t_pulp t_beat t_sort t_nM t_mark t_size t_worn t_nT t_skill t_vat t_pair t_nQ t_allS t_pmark t_pgrade t_psheets t_loft) 0 0 := by
  refine KI.of (cc := cX5_about) (maxL := 3) (by decide +kernel) rfl (Nat.le_of_ble_eq_true rfl) ?_
  intro p e s m args below meth c A ls Q hE hQ
  obtain ⟨hx, hb, hml, hown, hts, hA, hP, hK, hD, hG, hl, hnm⟩ := hE
  replace hown : s.vm.findClass RX5 = some m.cls := hown
  have hiX0 : ∀ w ∈ u_ws RX0 TX0 12, w ∈ wsX5_about := by decide +kernel
  have hiX5 : ∀ w ∈ u_ws RX5 TX5 2, w ∈ wsX5_about := by decide +kernel
  have hf10 : (Cond.fieldLink RX5 10 "RagVats" "mill" "LRagVats$Mill;").before args s = true := hts _ (by decide +kernel)
  have hn81 : (Cond.fieldLinkNest RX5 81 "RagVats$Mill" "vats" "LRagVats$Vats;" "RagVats").before args s = true := va_Nw.use rfl (hG.1.1 _ (by decide +kernel))
  replace hl : lv_has ls 3 [(0, .ref (h 0)), (1, .int a1), (2, .int a2)] := hl
  have hS : va_S A s.heap s.heap [] := va_S.rf
  unfold fX5_about at hF
  refine lv_iload_n hx hb dX5_about_0 rfl (lv_at hl 1 rfl) ?_
  refine lv_iconst (v := 4) hx hb dX5_about_1 (by decide) ?_
  replace hF := bnd_some hF
  obtain ⟨z1, hz_1, hF⟩ := hF
  refine krI (kS (As := [.int a1, .int 4]) ⟨hx, hb, hml, hown, hts⟩ (kX5_isBelow l D cy sa a1 4 z1 hz_1 _) (cwS 2 hts gX5_about_X5_isBelow rfl rfl rfl (by decide +kernel) ⟨Nat.le_of_ble_eq_true rfl, Nat.le_of_ble_eq_true rfl⟩) hK hP hD hS hA hG [] rfl rfl rfl hl.1 [] rfl (Nat.le_of_ble_eq_true rfl) dX5_about_2 ⟨(Nat.le_of_ble_eq_true rfl), (Nat.le_of_ble_eq_true rfl)⟩) hP hD hS hA [] rfl (fun H locs hP hS => ?_)
  refine lv_if_eq (tgt := 16) hx hb dX5_about_5 (by decide) (fun c_2 => ?_) (fun c_2 => ?_)
  · replace hF := if_t hF c_2
    cases hF
  · replace hF := if_f hF c_2
    refine lv_iload_n hx hb dX5_about_8 rfl (lv_at hl 2 rfl) ?_
    refine lv_iconst (v := 3) hx hb dX5_about_9 (by decide) ?_
    replace hF := bnd_some hF
    obtain ⟨z3, hz_3, hF⟩ := hF
    refine krI (kS (As := [.int a2, .int 3]) ⟨hx, hb, hml, hown, hts⟩ (kX5_isBelow l D cy sa a2 3 z3 hz_3 _) (cwS 2 hts gX5_about_X5_isBelow rfl rfl rfl (by decide +kernel) ⟨Nat.le_of_ble_eq_true rfl, Nat.le_of_ble_eq_true rfl⟩) hK hP hD hS hA hG [] rfl rfl rfl hl.1 [] rfl (Nat.le_of_ble_eq_true rfl) dX5_about_10 ⟨(Nat.le_of_ble_eq_true rfl), (Nat.le_of_ble_eq_true rfl)⟩) hP hD hS hA [] rfl (fun H locs hP hS => ?_)
    refine lv_if_ne (tgt := 26) hx hb dX5_about_13 (by decide) (fun c_4 => ?_) (fun c_4 => ?_)
    · replace hF := if_f hF c_4
      refine lv_aload_n hx hb dX5_about_26 rfl (lv_at hl 0 rfl) ?_
      refine va_get (D := D) (C := RX5) (T := TX5) (N := 2) hx hb hts hiX5 hown hK hP 0 gtX5_0 rfl 0 (by decide) hf10 (fun _ h9 => h9) rfl dX5_about_27 ?_
      refine va_getN (host := "RagVats") (D := D) (C := RX0) (T := TX0) (N := 12) hx hb hts hiX0 hown hK hP 1 gtX5_1 rfl 7 (by decide) hn81 (fun _ h9 => h9) rfl dX5_about_30 ?_
      refine lv_iload_n hx hb dX5_about_33 rfl (lv_at hl 1 rfl) ?_
      refine lv_iload_n hx hb dX5_about_34 rfl (lv_at hl 2 rfl) ?_
      replace hF := bnd_some hF
      obtain ⟨z5, hz_5, hF⟩ := hF
      refine krI (kV (As := [.int a1, .int a2]) ⟨hx, hb, hml, hown, hts⟩ (kX4_tell l D cy sa (fun i => h (i + 4)) m_pulp m_beat m_sort a1 a2 z5 hz_5 _) (cwV 2 hts gX5_about_X4_tell rfl rfl rfl (by decide +kernel) ⟨Nat.le_of_ble_eq_true rfl, Nat.le_of_ble_eq_true rfl⟩) hK hP hD hS hA hG [4, 5, 6, 7] hcX5_X4_4 ndX4_4 gtX4_0 rfl rfl rfl hl.1 [] rfl (Nat.le_of_ble_eq_true rfl) dX5_about_35 ⟨(Nat.le_of_ble_eq_true rfl), (Nat.le_of_ble_eq_true rfl)⟩) hP hD hS hA [4, 5, 6, 7] hcX5_X4_4 (fun H locs hP hS => ?_)
      cases hF
      exact hQ _ _ _ _ _ _ (fun _ => 0) dX5_about_38 hP hD hS (Nat.le_of_ble_eq_true rfl) (Nat.le_of_ble_eq_true rfl)
    · replace hF := if_t hF c_4
      cases hF
abbrev rX5_aboutx : Room := { frames := 6, cells := 1, slots := 6, locals := 98 }
set_option maxHeartbeats 4000000 in
set_option maxRecDepth 100000 in
theorem kX5_aboutx (l : Launch) (D : va_G) (cy : Nat → ClassId) (sa : SAT) (h : Nat → Nat) (m_day : Int32) (m_coins : Int32) (m_felts : Int32) (m_made : Int32) (m_worth : Int32) (m_rags : FN) (m_water : FN) (m_pulp : FN) (m_beat : FN) (m_sort : FN) (m_nM : Int32) (m_mark : FN) (m_size : FN) (m_worn : FN) (m_nT : Int32) (m_skill : FN) (m_vat : FN) (m_pair : FN) (m_nQ : Int32) (m_allS : Int32) (m_pmark : FN) (m_pgrade : FN) (m_psheets : FN) (m_loft : FN) (t_day : Int32) (t_coins : Int32) (t_felts : Int32) (t_made : Int32) (t_worth : Int32) (t_rags : FN) (t_water : FN) (t_pulp : FN) (t_beat : FN) (t_sort : FN) (t_nM : Int32) (t_mark : FN) (t_size : FN) (t_worn : FN) (t_nT : Int32) (t_skill : FN) (t_vat : FN) (t_pair : FN) (t_nQ : Int32) (t_allS : Int32) (t_pmark : FN) (t_pgrade : FN) (t_psheets : FN) (t_loft : FN) (a1 : Int32) (a2 : Int32) (hst : l.stackTraces = false) (kx : Nat) (hF : fX5_about m_pulp m_beat m_sort a1 a2 = some (.inr kx)) : KX l D (tyW cy) sa yX5_about wsX5_about rX5_aboutx [.ref (h 0), .int a1, .int a2] (wX5 cy h m_day m_coins m_felts m_made m_worth m_rags m_water m_pulp m_beat m_sort m_nM m_mark m_size m_worn m_nT m_skill m_vat m_pair m_nQ m_allS m_pmark m_pgrade m_psheets m_loft t_day t_coins t_felts t_made t_worth t_rags t_water t_pulp t_beat t_sort t_nM t_mark t_size t_worn t_nT t_skill t_vat t_pair t_nQ t_allS t_pmark t_pgrade t_psheets t_loft) (exN kx) 1 6 := by
  refine KX.of (cc := cX5_about) (maxL := 3) (ret := (some .int)) hst (by decide) rfl (Nat.le_of_ble_eq_true rfl) (Nat.le_of_ble_eq_true rfl) (Nat.le_of_ble_eq_true rfl) (Nat.le_refl _) (Nat.le_refl _) ?_
  intro p e s m args below meth c A ls Q hE hQ
  obtain ⟨hx, hb, hml, hown, hts, hA, hP, hK, hD, hG, hl, hnm⟩ := hE
  replace hown : s.vm.findClass RX5 = some m.cls := hown
  have hiX0 : ∀ w ∈ u_ws RX0 TX0 12, w ∈ wsX5_about := by decide +kernel
  have hiX5 : ∀ w ∈ u_ws RX5 TX5 2, w ∈ wsX5_about := by decide +kernel
  have hf10 : (Cond.fieldLink RX5 10 "RagVats" "mill" "LRagVats$Mill;").before args s = true := hts _ (by decide +kernel)
  have hn81 : (Cond.fieldLinkNest RX5 81 "RagVats$Mill" "vats" "LRagVats$Vats;" "RagVats").before args s = true := va_Nw.use rfl (hG.1.1 _ (by decide +kernel))
  have hat27 : ∀ w ∈ vx_atS RX5 27 "java/lang/IndexOutOfBoundsException" exNames, w.before args s = true := vx_hat (B := [.castable "java/lang/IndexOutOfBoundsException" "java/lang/IndexOutOfBoundsException", .declares (Bundle.initS "java/lang/RuntimeException"), .declares (Bundle.initS "java/lang/Exception"), .declares (Bundle.initS "java/lang/Throwable")]) (fun w h => hts w ((by decide +kernel : ∀ w ∈ (vx_atS RX5 27 "java/lang/IndexOutOfBoundsException" exNames).filter goodWord, w ∈ wsX5_about) w h)) (by decide +kernel) (vx_c (va_Nw.use rfl (hG.1.1 _ (by decide +kernel))) (vx_c (va_Nw.use rfl (hG.1.1 _ (by decide +kernel))) (vx_c (va_Nw.use rfl (hG.1.1 _ (by decide +kernel))) (vx_c (va_Nw.use rfl (hG.1.1 _ (by decide +kernel))) vx_n))))
  replace hl : lv_has ls 3 [(0, .ref (h 0)), (1, .int a1), (2, .int a2)] := hl
  have hS : va_S A s.heap s.heap [] := va_S.rf
  unfold fX5_about at hF
  refine lv_iload_n hx hb dX5_about_0 rfl (lv_at hl 1 rfl) ?_
  refine lv_iconst (v := 4) hx hb dX5_about_1 (by decide) ?_
  replace hF := bnd_some hF
  obtain ⟨z1, hz_1, hF⟩ := hF
  refine krI (kS (As := [.int a1, .int 4]) ⟨hx, hb, hml, hown, hts⟩ (kX5_isBelow l D cy sa a1 4 z1 hz_1 _) (cwS 2 hts gX5_about_X5_isBelow rfl rfl rfl (by decide +kernel) ⟨Nat.le_of_ble_eq_true rfl, Nat.le_of_ble_eq_true rfl⟩) hK hP hD hS hA hG [] rfl rfl rfl hl.1 [] rfl (Nat.le_of_ble_eq_true rfl) dX5_about_2 ⟨(Nat.le_of_ble_eq_true rfl), (Nat.le_of_ble_eq_true rfl)⟩) hP hD hS hA [] rfl (fun H locs hP hS => ?_)
  refine lv_if_eq (tgt := 16) hx hb dX5_about_5 (by decide) (fun c_2 => ?_) (fun c_2 => ?_)
  · replace hF := if_t hF c_2
    cases hF
    exact hQ _ _ _ _ _ 23 175 27 _ _ "no such vat, or what is not 0 to 2" dX5_about_16 dX5_about_19 dX5_about_20 dX5_about_22 dX5_about_25 (hts _ (by decide +kernel)) (hts _ (by decide +kernel)) (by decide +kernel) hat27 ⟨by decide +kernel, by decide +kernel⟩ hP hD hS hl.1 (Nat.le_of_ble_eq_true rfl) (Nat.le_of_ble_eq_true rfl) (Nat.le_of_ble_eq_true rfl)
  · replace hF := if_f hF c_2
    refine lv_iload_n hx hb dX5_about_8 rfl (lv_at hl 2 rfl) ?_
    refine lv_iconst (v := 3) hx hb dX5_about_9 (by decide) ?_
    replace hF := bnd_some hF
    obtain ⟨z3, hz_3, hF⟩ := hF
    refine krI (kS (As := [.int a2, .int 3]) ⟨hx, hb, hml, hown, hts⟩ (kX5_isBelow l D cy sa a2 3 z3 hz_3 _) (cwS 2 hts gX5_about_X5_isBelow rfl rfl rfl (by decide +kernel) ⟨Nat.le_of_ble_eq_true rfl, Nat.le_of_ble_eq_true rfl⟩) hK hP hD hS hA hG [] rfl rfl rfl hl.1 [] rfl (Nat.le_of_ble_eq_true rfl) dX5_about_10 ⟨(Nat.le_of_ble_eq_true rfl), (Nat.le_of_ble_eq_true rfl)⟩) hP hD hS hA [] rfl (fun H locs hP hS => ?_)
    refine lv_if_ne (tgt := 26) hx hb dX5_about_13 (by decide) (fun c_4 => ?_) (fun c_4 => ?_)
    · replace hF := if_f hF c_4
      refine lv_aload_n hx hb dX5_about_26 rfl (lv_at hl 0 rfl) ?_
      refine va_get (D := D) (C := RX5) (T := TX5) (N := 2) hx hb hts hiX5 hown hK hP 0 gtX5_0 rfl 0 (by decide) hf10 (fun _ h9 => h9) rfl dX5_about_27 ?_
      refine va_getN (host := "RagVats") (D := D) (C := RX0) (T := TX0) (N := 12) hx hb hts hiX0 hown hK hP 1 gtX5_1 rfl 7 (by decide) hn81 (fun _ h9 => h9) rfl dX5_about_30 ?_
      refine lv_iload_n hx hb dX5_about_33 rfl (lv_at hl 1 rfl) ?_
      refine lv_iload_n hx hb dX5_about_34 rfl (lv_at hl 2 rfl) ?_
      replace hF := bnd_some hF
      obtain ⟨z5, hz_5, hF⟩ := hF
      refine krI (kV (As := [.int a1, .int a2]) ⟨hx, hb, hml, hown, hts⟩ (kX4_tell l D cy sa (fun i => h (i + 4)) m_pulp m_beat m_sort a1 a2 z5 hz_5 _) (cwV 2 hts gX5_about_X4_tell rfl rfl rfl (by decide +kernel) ⟨Nat.le_of_ble_eq_true rfl, Nat.le_of_ble_eq_true rfl⟩) hK hP hD hS hA hG [4, 5, 6, 7] hcX5_X4_4 ndX4_4 gtX4_0 rfl rfl rfl hl.1 [] rfl (Nat.le_of_ble_eq_true rfl) dX5_about_35 ⟨(Nat.le_of_ble_eq_true rfl), (Nat.le_of_ble_eq_true rfl)⟩) hP hD hS hA [4, 5, 6, 7] hcX5_X4_4 (fun H locs hP hS => ?_)
      cases hF
    · replace hF := if_t hF c_4
      cases hF
      exact hQ _ _ _ _ _ 23 175 27 _ _ "no such vat, or what is not 0 to 2" dX5_about_16 dX5_about_19 dX5_about_20 dX5_about_22 dX5_about_25 (hts _ (by decide +kernel)) (hts _ (by decide +kernel)) (by decide +kernel) hat27 ⟨by decide +kernel, by decide +kernel⟩ hP hD hS hl.1 (Nat.le_of_ble_eq_true rfl) (Nat.le_of_ble_eq_true rfl) (Nat.le_of_ble_eq_true rfl)

def fX5_mould (m_nM : Int32) (m_mark : FN) (m_size : FN) (m_worn : FN) (m_nT : Int32) (m_pair : FN) (a1 : Int32) (a2 : Int32) : Option ((Int32) ⊕ Nat) := (fX1_has m_nM a1).bind fun z1 => if z1 = 0 then some (.inr 0) else (fX5_isBelow a2 4).bind fun z3 => if z3 = 0 then some (.inr 0) else (fX0_tellPair m_nM m_mark m_size m_worn m_nT m_pair a1 a2).bind fun z5 => some (.inl z5)
abbrev rX5_mould : Room := { frames := 4, cells := 0, slots := 0, locals := 86 }
set_option maxHeartbeats 4000000 in
set_option maxRecDepth 100000 in
theorem kX5_mould (l : Launch) (D : va_G) (cy : Nat → ClassId) (sa : SAT) (h : Nat → Nat) (m_day : Int32) (m_coins : Int32) (m_felts : Int32) (m_made : Int32) (m_worth : Int32) (m_rags : FN) (m_water : FN) (m_pulp : FN) (m_beat : FN) (m_sort : FN) (m_nM : Int32) (m_mark : FN) (m_size : FN) (m_worn : FN) (m_nT : Int32) (m_skill : FN) (m_vat : FN) (m_pair : FN) (m_nQ : Int32) (m_allS : Int32) (m_pmark : FN) (m_pgrade : FN) (m_psheets : FN) (m_loft : FN) (t_day : Int32) (t_coins : Int32) (t_felts : Int32) (t_made : Int32) (t_worth : Int32) (t_rags : FN) (t_water : FN) (t_pulp : FN) (t_beat : FN) (t_sort : FN) (t_nM : Int32) (t_mark : FN) (t_size : FN) (t_worn : FN) (t_nT : Int32) (t_skill : FN) (t_vat : FN) (t_pair : FN) (t_nQ : Int32) (t_allS : Int32) (t_pmark : FN) (t_pgrade : FN) (t_psheets : FN) (t_loft : FN) (a1 : Int32) (a2 : Int32) (z : Int32) (hF : fX5_mould m_nM m_mark m_size m_worn m_nT m_pair a1 a2 = some (.inl z)) : KI l D (tyW cy) sa yX5_mould wsX5_mould rX5_mould [.ref (h 0), .int a1, .int a2] (wX5 cy h m_day m_coins m_felts m_made m_worth m_rags m_water m_pulp m_beat m_sort m_nM m_mark m_size m_worn m_nT m_skill m_vat m_pair m_nQ m_allS m_pmark m_pgrade m_psheets m_loft t_day t_coins t_felts t_made t_worth t_rags t_water t_pulp t_beat t_sort t_nM t_mark t_size t_worn t_nT t_skill t_vat t_pair t_nQ t_allS t_pmark t_pgrade t_psheets t_loft) z (fun _ => wX5 cy h m_day m_coins m_felts m_made m_worth m_rags m_water m_pulp m_beat m_sort m_nM m_mark m_size m_worn m_nT m_skill m_vat m_pair m_nQ m_allS m_pmark m_pgrade m_psheets m_loft t_day t_coins t_felts t_made t_worth t_rags t_water t_pulp t_beat t_sort t_nM t_mark t_size t_worn t_nT t_skill t_vat t_pair t_nQ t_allS t_pmark t_pgrade t_psheets t_loft) 0 0 := by
  refine KI.of (cc := cX5_mould) (maxL := 3) (by decide +kernel) rfl (Nat.le_of_ble_eq_true rfl) ?_
  intro p e s m args below meth c A ls Q hE hQ
  obtain ⟨hx, hb, hml, hown, hts, hA, hP, hK, hD, hG, hl, hnm⟩ := hE
  replace hown : s.vm.findClass RX5 = some m.cls := hown
  have hiX0 : ∀ w ∈ u_ws RX0 TX0 12, w ∈ wsX5_mould := by decide +kernel
  have hiX5 : ∀ w ∈ u_ws RX5 TX5 2, w ∈ wsX5_mould := by decide +kernel
  have hf10 : (Cond.fieldLink RX5 10 "RagVats" "mill" "LRagVats$Mill;").before args s = true := hts _ (by decide +kernel)
  have hn112 : (Cond.fieldLinkNest RX5 112 "RagVats$Mill" "moulds" "LRagVats$Moulds;" "RagVats").before args s = true := va_Nw.use rfl (hG.1.1 _ (by decide +kernel))
  replace hl : lv_has ls 3 [(0, .ref (h 0)), (1, .int a1), (2, .int a2)] := hl
  have hS : va_S A s.heap s.heap [] := va_S.rf
  unfold fX5_mould at hF
  refine lv_aload_n hx hb dX5_mould_0 rfl (lv_at hl 0 rfl) ?_
  refine va_get (D := D) (C := RX5) (T := TX5) (N := 2) hx hb hts hiX5 hown hK hP 0 gtX5_0 rfl 0 (by decide) hf10 (fun _ h9 => h9) rfl dX5_mould_1 ?_
  refine va_getN (host := "RagVats") (D := D) (C := RX0) (T := TX0) (N := 12) hx hb hts hiX0 hown hK hP 1 gtX5_1 rfl 8 (by decide) hn112 (fun _ h9 => h9) rfl dX5_mould_4 ?_
  refine lv_iload_n hx hb dX5_mould_7 rfl (lv_at hl 1 rfl) ?_
  replace hF := bnd_some hF
  obtain ⟨z1, hz_1, hF⟩ := hF
  refine krI (kV (As := [.int a1]) ⟨hx, hb, hml, hown, hts⟩ (kX1_has l D cy sa (fun i => h (i + 8)) m_nM m_mark m_size m_worn a1 z1 hz_1 _) (cwV 1 hts gX5_mould_X1_has rfl rfl rfl (by decide +kernel) ⟨Nat.le_of_ble_eq_true rfl, Nat.le_of_ble_eq_true rfl⟩) hK hP hD hS hA hG [8, 9, 10, 11] hcX5_X1_8 ndX1_8 gtX1_0 rfl rfl rfl hl.1 [] rfl (Nat.le_of_ble_eq_true rfl) dX5_mould_8 ⟨(Nat.le_of_ble_eq_true rfl), (Nat.le_of_ble_eq_true rfl)⟩) hP hD hS hA [8, 9, 10, 11] hcX5_X1_8 (fun H locs hP hS => ?_)
  refine lv_if_eq (tgt := 22) hx hb dX5_mould_11 (by decide) (fun c_2 => ?_) (fun c_2 => ?_)
  · replace hF := if_t hF c_2
    cases hF
  · replace hF := if_f hF c_2
    refine lv_iload_n hx hb dX5_mould_14 rfl (lv_at hl 2 rfl) ?_
    refine lv_iconst (v := 4) hx hb dX5_mould_15 (by decide) ?_
    replace hF := bnd_some hF
    obtain ⟨z3, hz_3, hF⟩ := hF
    refine krI (kS (As := [.int a2, .int 4]) ⟨hx, hb, hml, hown, hts⟩ (kX5_isBelow l D cy sa a2 4 z3 hz_3 _) (cwS 2 hts gX5_mould_X5_isBelow rfl rfl rfl (by decide +kernel) ⟨Nat.le_of_ble_eq_true rfl, Nat.le_of_ble_eq_true rfl⟩) hK hP hD hS hA hG [] rfl rfl rfl hl.1 [] rfl (Nat.le_of_ble_eq_true rfl) dX5_mould_16 ⟨(Nat.le_of_ble_eq_true rfl), (Nat.le_of_ble_eq_true rfl)⟩) hP hD hS hA [] rfl (fun H locs hP hS => ?_)
    refine lv_if_ne (tgt := 32) hx hb dX5_mould_19 (by decide) (fun c_4 => ?_) (fun c_4 => ?_)
    · replace hF := if_f hF c_4
      refine lv_aload_n hx hb dX5_mould_32 rfl (lv_at hl 0 rfl) ?_
      refine va_get (D := D) (C := RX5) (T := TX5) (N := 2) hx hb hts hiX5 hown hK hP 0 gtX5_0 rfl 0 (by decide) hf10 (fun _ h9 => h9) rfl dX5_mould_33 ?_
      refine lv_iload_n hx hb dX5_mould_36 rfl (lv_at hl 1 rfl) ?_
      refine lv_iload_n hx hb dX5_mould_37 rfl (lv_at hl 2 rfl) ?_
      replace hF := bnd_some hF
      obtain ⟨z5, hz_5, hF⟩ := hF
      refine krI (kV (As := [.int a1, .int a2]) ⟨hx, hb, hml, hown, hts⟩ (kX0_tellPair l D cy sa (fun i => h (i + 1)) m_day m_coins m_felts m_made m_worth m_rags m_water m_pulp m_beat m_sort m_nM m_mark m_size m_worn m_nT m_skill m_vat m_pair m_nQ m_allS m_pmark m_pgrade m_psheets m_loft a1 a2 z5 hz_5 _) (cwV 2 hts gX5_mould_X0_tellPair rfl rfl rfl (by decide +kernel) ⟨Nat.le_of_ble_eq_true rfl, Nat.le_of_ble_eq_true rfl⟩) hK hP hD hS hA hG [1, 2, 3, 4, 5, 6, 7, 8, 9, 10, 11, 12, 13, 14, 15, 16, 17, 18, 19, 20] hcX5_X0_1 ndX0_1 gtX0_0 rfl rfl rfl hl.1 [] rfl (Nat.le_of_ble_eq_true rfl) dX5_mould_38 ⟨(Nat.le_of_ble_eq_true rfl), (Nat.le_of_ble_eq_true rfl)⟩) hP hD hS hA [1, 2, 3, 4, 5, 6, 7, 8, 9, 10, 11, 12, 13, 14, 15, 16, 17, 18, 19, 20] hcX5_X0_1 (fun H locs hP hS => ?_)
      cases hF
      exact hQ _ _ _ _ _ _ (fun _ => 0) dX5_mould_41 hP hD hS (Nat.le_of_ble_eq_true rfl) (Nat.le_of_ble_eq_true rfl)
    · replace hF := if_t hF c_4
      cases hF
abbrev rX5_mouldx : Room := { frames := 6, cells := 1, slots := 6, locals := 98 }
set_option maxHeartbeats 4000000 in
set_option maxRecDepth 100000 in
theorem kX5_mouldx (l : Launch) (D : va_G) (cy : Nat → ClassId) (sa : SAT) (h : Nat → Nat) (m_day : Int32) (m_coins : Int32) (m_felts : Int32) (m_made : Int32) (m_worth : Int32) (m_rags : FN) (m_water : FN) (m_pulp : FN) (m_beat : FN) (m_sort : FN) (m_nM : Int32) (m_mark : FN) (m_size : FN) (m_worn : FN) (m_nT : Int32) (m_skill : FN) (m_vat : FN) (m_pair : FN) (m_nQ : Int32) (m_allS : Int32) (m_pmark : FN) (m_pgrade : FN) (m_psheets : FN) (m_loft : FN) (t_day : Int32) (t_coins : Int32) (t_felts : Int32) (t_made : Int32) (t_worth : Int32) (t_rags : FN) (t_water : FN) (t_pulp : FN) (t_beat : FN) (t_sort : FN) (t_nM : Int32) (t_mark : FN) (t_size : FN) (t_worn : FN) (t_nT : Int32) (t_skill : FN) (t_vat : FN) (t_pair : FN) (t_nQ : Int32) (t_allS : Int32) (t_pmark : FN) (t_pgrade : FN) (t_psheets : FN) (t_loft : FN) (a1 : Int32) (a2 : Int32) (hst : l.stackTraces = false) (kx : Nat) (hF : fX5_mould m_nM m_mark m_size m_worn m_nT m_pair a1 a2 = some (.inr kx)) : KX l D (tyW cy) sa yX5_mould wsX5_mould rX5_mouldx [.ref (h 0), .int a1, .int a2] (wX5 cy h m_day m_coins m_felts m_made m_worth m_rags m_water m_pulp m_beat m_sort m_nM m_mark m_size m_worn m_nT m_skill m_vat m_pair m_nQ m_allS m_pmark m_pgrade m_psheets m_loft t_day t_coins t_felts t_made t_worth t_rags t_water t_pulp t_beat t_sort t_nM t_mark t_size t_worn t_nT t_skill t_vat t_pair t_nQ t_allS t_pmark t_pgrade t_psheets t_loft) (exN kx) 1 6 := by
  refine KX.of (cc := cX5_mould) (maxL := 3) (ret := (some .int)) hst (by decide) rfl (Nat.le_of_ble_eq_true rfl) (Nat.le_of_ble_eq_true rfl) (Nat.le_of_ble_eq_true rfl) (Nat.le_refl _) (Nat.le_refl _) ?_
  intro p e s m args below meth c A ls Q hE hQ
  obtain ⟨hx, hb, hml, hown, hts, hA, hP, hK, hD, hG, hl, hnm⟩ := hE
  replace hown : s.vm.findClass RX5 = some m.cls := hown
  have hiX0 : ∀ w ∈ u_ws RX0 TX0 12, w ∈ wsX5_mould := by decide +kernel
  have hiX5 : ∀ w ∈ u_ws RX5 TX5 2, w ∈ wsX5_mould := by decide +kernel
  have hf10 : (Cond.fieldLink RX5 10 "RagVats" "mill" "LRagVats$Mill;").before args s = true := hts _ (by decide +kernel)
  have hn112 : (Cond.fieldLinkNest RX5 112 "RagVats$Mill" "moulds" "LRagVats$Moulds;" "RagVats").before args s = true := va_Nw.use rfl (hG.1.1 _ (by decide +kernel))
  have hat27 : ∀ w ∈ vx_atS RX5 27 "java/lang/IndexOutOfBoundsException" exNames, w.before args s = true := vx_hat (B := [.castable "java/lang/IndexOutOfBoundsException" "java/lang/IndexOutOfBoundsException", .declares (Bundle.initS "java/lang/RuntimeException"), .declares (Bundle.initS "java/lang/Exception"), .declares (Bundle.initS "java/lang/Throwable")]) (fun w h => hts w ((by decide +kernel : ∀ w ∈ (vx_atS RX5 27 "java/lang/IndexOutOfBoundsException" exNames).filter goodWord, w ∈ wsX5_mould) w h)) (by decide +kernel) (vx_c (va_Nw.use rfl (hG.1.1 _ (by decide +kernel))) (vx_c (va_Nw.use rfl (hG.1.1 _ (by decide +kernel))) (vx_c (va_Nw.use rfl (hG.1.1 _ (by decide +kernel))) (vx_c (va_Nw.use rfl (hG.1.1 _ (by decide +kernel))) vx_n))))
  replace hl : lv_has ls 3 [(0, .ref (h 0)), (1, .int a1), (2, .int a2)] := hl
  have hS : va_S A s.heap s.heap [] := va_S.rf
  unfold fX5_mould at hF
  refine lv_aload_n hx hb dX5_mould_0 rfl (lv_at hl 0 rfl) ?_
  refine va_get (D := D) (C := RX5) (T := TX5) (N := 2) hx hb hts hiX5 hown hK hP 0 gtX5_0 rfl 0 (by decide) hf10 (fun _ h9 => h9) rfl dX5_mould_1 ?_
  refine va_getN (host := "RagVats") (D := D) (C := RX0) (T := TX0) (N := 12) hx hb hts hiX0 hown hK hP 1 gtX5_1 rfl 8 (by decide) hn112 (fun _ h9 => h9) rfl dX5_mould_4 ?_
  refine lv_iload_n hx hb dX5_mould_7 rfl (lv_at hl 1 rfl) ?_
  replace hF := bnd_some hF
  obtain ⟨z1, hz_1, hF⟩ := hF
  refine krI (kV (As := [.int a1]) ⟨hx, hb, hml, hown, hts⟩ (kX1_has l D cy sa (fun i => h (i + 8)) m_nM m_mark m_size m_worn a1 z1 hz_1 _) (cwV 1 hts gX5_mould_X1_has rfl rfl rfl (by decide +kernel) ⟨Nat.le_of_ble_eq_true rfl, Nat.le_of_ble_eq_true rfl⟩) hK hP hD hS hA hG [8, 9, 10, 11] hcX5_X1_8 ndX1_8 gtX1_0 rfl rfl rfl hl.1 [] rfl (Nat.le_of_ble_eq_true rfl) dX5_mould_8 ⟨(Nat.le_of_ble_eq_true rfl), (Nat.le_of_ble_eq_true rfl)⟩) hP hD hS hA [8, 9, 10, 11] hcX5_X1_8 (fun H locs hP hS => ?_)
  refine lv_if_eq (tgt := 22) hx hb dX5_mould_11 (by decide) (fun c_2 => ?_) (fun c_2 => ?_)
  · replace hF := if_t hF c_2
    cases hF
    exact hQ _ _ _ _ _ 23 180 27 _ _ "no such pair, or what is not 0 to 3" dX5_mould_22 dX5_mould_25 dX5_mould_26 dX5_mould_28 dX5_mould_31 (hts _ (by decide +kernel)) (hts _ (by decide +kernel)) (by decide +kernel) hat27 ⟨by decide +kernel, by decide +kernel⟩ hP hD hS hl.1 (Nat.le_of_ble_eq_true rfl) (Nat.le_of_ble_eq_true rfl) (Nat.le_of_ble_eq_true rfl)
  · replace hF := if_f hF c_2
    refine lv_iload_n hx hb dX5_mould_14 rfl (lv_at hl 2 rfl) ?_
    refine lv_iconst (v := 4) hx hb dX5_mould_15 (by decide) ?_
    replace hF := bnd_some hF
    obtain ⟨z3, hz_3, hF⟩ := hF
    refine krI (kS (As := [.int a2, .int 4]) ⟨hx, hb, hml, hown, hts⟩ (kX5_isBelow l D cy sa a2 4 z3 hz_3 _) (cwS 2 hts gX5_mould_X5_isBelow rfl rfl rfl (by decide +kernel) ⟨Nat.le_of_ble_eq_true rfl, Nat.le_of_ble_eq_true rfl⟩) hK hP hD hS hA hG [] rfl rfl rfl hl.1 [] rfl (Nat.le_of_ble_eq_true rfl) dX5_mould_16 ⟨(Nat.le_of_ble_eq_true rfl), (Nat.le_of_ble_eq_true rfl)⟩) hP hD hS hA [] rfl (fun H locs hP hS => ?_)
    refine lv_if_ne (tgt := 32) hx hb dX5_mould_19 (by decide) (fun c_4 => ?_) (fun c_4 => ?_)
    · replace hF := if_f hF c_4
      refine lv_aload_n hx hb dX5_mould_32 rfl (lv_at hl 0 rfl) ?_
      refine va_get (D := D) (C := RX5) (T := TX5) (N := 2) hx hb hts hiX5 hown hK hP 0 gtX5_0 rfl 0 (by decide) hf10 (fun _ h9 => h9) rfl dX5_mould_33 ?_
      refine lv_iload_n hx hb dX5_mould_36 rfl (lv_at hl 1 rfl) ?_
      refine lv_iload_n hx hb dX5_mould_37 rfl (lv_at hl 2 rfl) ?_
      replace hF := bnd_some hF
      obtain ⟨z5, hz_5, hF⟩ := hF
      refine krI (kV (As := [.int a1, .int a2]) ⟨hx, hb, hml, hown, hts⟩ (kX0_tellPair l D cy sa (fun i => h (i + 1)) m_day m_coins m_felts m_made m_worth m_rags m_water m_pulp m_beat m_sort m_nM m_mark m_size m_worn m_nT m_skill m_vat m_pair m_nQ m_allS m_pmark m_pgrade m_psheets m_loft a1 a2 z5 hz_5 _) (cwV 2 hts gX5_mould_X0_tellPair rfl rfl rfl (by decide +kernel) ⟨Nat.le_of_ble_eq_true rfl, Nat.le_of_ble_eq_true rfl⟩) hK hP hD hS hA hG [1, 2, 3, 4, 5, 6, 7, 8, 9, 10, 11, 12, 13, 14, 15, 16, 17, 18, 19, 20] hcX5_X0_1 ndX0_1 gtX0_0 rfl rfl rfl hl.1 [] rfl (Nat.le_of_ble_eq_true rfl) dX5_mould_38 ⟨(Nat.le_of_ble_eq_true rfl), (Nat.le_of_ble_eq_true rfl)⟩) hP hD hS hA [1, 2, 3, 4, 5, 6, 7, 8, 9, 10, 11, 12, 13, 14, 15, 16, 17, 18, 19, 20] hcX5_X0_1 (fun H locs hP hS => ?_)
      cases hF
    · replace hF := if_t hF c_4
      cases hF
      exact hQ _ _ _ _ _ 23 180 27 _ _ "no such pair, or what is not 0 to 3" dX5_mould_22 dX5_mould_25 dX5_mould_26 dX5_mould_28 dX5_mould_31 (hts _ (by decide +kernel)) (hts _ (by decide +kernel)) (by decide +kernel) hat27 ⟨by decide +kernel, by decide +kernel⟩ hP hD hS hl.1 (Nat.le_of_ble_eq_true rfl) (Nat.le_of_ble_eq_true rfl) (Nat.le_of_ble_eq_true rfl)

def fX5_told (m_felts : Int32) (m_pulp : FN) (m_beat : FN) (m_nM : Int32) (m_size : FN) (m_nT : Int32) (m_skill : FN) (m_vat : FN) (m_pair : FN) (m_allS : Int32) (a1 : Int32) (a2 : Int32) : Option ((Int32) ⊕ Nat) := (fX3_has m_nT a1).bind fun z1 => if z1 = 0 then some (.inr 0) else (fX5_isBelow a2 4).bind fun z3 => if z3 = 0 then some (.inr 0) else (fX0_tellTeam m_felts m_pulp m_beat m_nM m_size m_nT m_skill m_vat m_pair m_allS a1 a2).bind fun z5 => some (.inl z5)
abbrev rX5_told : Room := { frames := 4, cells := 0, slots := 0, locals := 89 }
set_option maxHeartbeats 4000000 in
set_option maxRecDepth 100000 in
theorem kX5_told (l : Launch) (D : va_G) (cy : Nat → ClassId) (sa : SAT) (h : Nat → Nat) (m_day : Int32) (m_coins : Int32) (m_felts : Int32) (m_made : Int32) (m_worth : Int32) (m_rags : FN) (m_water : FN) (m_pulp : FN) (m_beat : FN) (m_sort : FN) (m_nM : Int32) (m_mark : FN) (m_size : FN) (m_worn : FN) (m_nT : Int32) (m_skill : FN) (m_vat : FN) (m_pair : FN) (m_nQ : Int32) (m_allS : Int32) (m_pmark : FN) (m_pgrade : FN) (m_psheets : FN) (m_loft : FN) (t_day : Int32) (t_coins : Int32) (t_felts : Int32) (t_made : Int32) (t_worth : Int32) (t_rags : FN) (t_water : FN) (t_pulp : FN) (t_beat : FN) (t_sort : FN) (t_nM : Int32) (t_mark : FN) (t_size : FN) (t_worn : FN) (t_nT : Int32) (t_skill : FN) (t_vat : FN) (t_pair : FN) (t_nQ : Int32) (t_allS : Int32) (t_pmark : FN) (t_pgrade : FN) (t_psheets : FN) (t_loft : FN) (a1 : Int32) (a2 : Int32) (z : Int32) (hF : fX5_told m_felts m_pulp m_beat m_nM m_size m_nT m_skill m_vat m_pair m_allS a1 a2 = some (.inl z)) : KI l D (tyW cy) sa yX5_told wsX5_told rX5_told [.ref (h 0), .int a1, .int a2] (wX5 cy h m_day m_coins m_felts m_made m_worth m_rags m_water m_pulp m_beat m_sort m_nM m_mark m_size m_worn m_nT m_skill m_vat m_pair m_nQ m_allS m_pmark m_pgrade m_psheets m_loft t_day t_coins t_felts t_made t_worth t_rags t_water t_pulp t_beat t_sort t_nM t_mark t_size t_worn t_nT t_skill t_vat t_pair t_nQ t_allS t_pmark t_pgrade t_psheets t_loft) z (fun _ => wX5 cy h m_day m_coins m_felts m_made m_worth m_rags m_water m_pulp m_beat m_sort m_nM m_mark m_size m_worn m_nT m_skill m_vat m_pair m_nQ m_allS m_pmark m_pgrade m_psheets m_loft t_day t_coins t_felts t_made t_worth t_rags t_water t_pulp t_beat t_sort t_nM t_mark t_size t_worn t_nT t_skill t_vat t_pair t_nQ t_allS t_pmark t_pgrade t_psheets t_loft) 0 0 := by
  refine KI.of (cc := cX5_told) (maxL := 3) (by decide +kernel) rfl (Nat.le_of_ble_eq_true rfl) ?_
  intro p e s m args below meth c A ls Q hE hQ
  obtain ⟨hx, hb, hml, hown, hts, hA, hP, hK, hD, hG, hl, hnm⟩ := hE
  replace hown : s.vm.findClass RX5 = some m.cls := hown
  have hiX0 : ∀ w ∈ u_ws RX0 TX0 12, w ∈ wsX5_told := by decide +kernel
  have hiX5 : ∀ w ∈ u_ws RX5 TX5 2, w ∈ wsX5_told := by decide +kernel
  have hf10 : (Cond.fieldLink RX5 10 "RagVats" "mill" "LRagVats$Mill;").before args s = true := hts _ (by decide +kernel)
  have hn143 : (Cond.fieldLinkNest RX5 143 "RagVats$Mill" "teams" "LRagVats$Teams;" "RagVats").before args s = true := va_Nw.use rfl (hG.1.1 _ (by decide +kernel))
  replace hl : lv_has ls 3 [(0, .ref (h 0)), (1, .int a1), (2, .int a2)] := hl
  have hS : va_S A s.heap s.heap [] := va_S.rf
  unfold fX5_told at hF
  refine lv_aload_n hx hb dX5_told_0 rfl (lv_at hl 0 rfl) ?_
  refine va_get (D := D) (C := RX5) (T := TX5) (N := 2) hx hb hts hiX5 hown hK hP 0 gtX5_0 rfl 0 (by decide) hf10 (fun _ h9 => h9) rfl dX5_told_1 ?_
  refine va_getN (host := "RagVats") (D := D) (C := RX0) (T := TX0) (N := 12) hx hb hts hiX0 hown hK hP 1 gtX5_1 rfl 9 (by decide) hn143 (fun _ h9 => h9) rfl dX5_told_4 ?_
  refine lv_iload_n hx hb dX5_told_7 rfl (lv_at hl 1 rfl) ?_
  replace hF := bnd_some hF
  obtain ⟨z1, hz_1, hF⟩ := hF
  refine krI (kV (As := [.int a1]) ⟨hx, hb, hml, hown, hts⟩ (kX3_has l D cy sa (fun i => h (i + 12)) m_nT m_skill m_vat m_pair a1 z1 hz_1 _) (cwV 1 hts gX5_told_X3_has rfl rfl rfl (by decide +kernel) ⟨Nat.le_of_ble_eq_true rfl, Nat.le_of_ble_eq_true rfl⟩) hK hP hD hS hA hG [12, 13, 14, 15] hcX5_X3_12 ndX3_12 gtX3_0 rfl rfl rfl hl.1 [] rfl (Nat.le_of_ble_eq_true rfl) dX5_told_8 ⟨(Nat.le_of_ble_eq_true rfl), (Nat.le_of_ble_eq_true rfl)⟩) hP hD hS hA [12, 13, 14, 15] hcX5_X3_12 (fun H locs hP hS => ?_)
  refine lv_if_eq (tgt := 22) hx hb dX5_told_11 (by decide) (fun c_2 => ?_) (fun c_2 => ?_)
  · replace hF := if_t hF c_2
    cases hF
  · replace hF := if_f hF c_2
    refine lv_iload_n hx hb dX5_told_14 rfl (lv_at hl 2 rfl) ?_
    refine lv_iconst (v := 4) hx hb dX5_told_15 (by decide) ?_
    replace hF := bnd_some hF
    obtain ⟨z3, hz_3, hF⟩ := hF
    refine krI (kS (As := [.int a2, .int 4]) ⟨hx, hb, hml, hown, hts⟩ (kX5_isBelow l D cy sa a2 4 z3 hz_3 _) (cwS 2 hts gX5_told_X5_isBelow rfl rfl rfl (by decide +kernel) ⟨Nat.le_of_ble_eq_true rfl, Nat.le_of_ble_eq_true rfl⟩) hK hP hD hS hA hG [] rfl rfl rfl hl.1 [] rfl (Nat.le_of_ble_eq_true rfl) dX5_told_16 ⟨(Nat.le_of_ble_eq_true rfl), (Nat.le_of_ble_eq_true rfl)⟩) hP hD hS hA [] rfl (fun H locs hP hS => ?_)
    refine lv_if_ne (tgt := 32) hx hb dX5_told_19 (by decide) (fun c_4 => ?_) (fun c_4 => ?_)
    · replace hF := if_f hF c_4
      refine lv_aload_n hx hb dX5_told_32 rfl (lv_at hl 0 rfl) ?_
      refine va_get (D := D) (C := RX5) (T := TX5) (N := 2) hx hb hts hiX5 hown hK hP 0 gtX5_0 rfl 0 (by decide) hf10 (fun _ h9 => h9) rfl dX5_told_33 ?_
      refine lv_iload_n hx hb dX5_told_36 rfl (lv_at hl 1 rfl) ?_
      refine lv_iload_n hx hb dX5_told_37 rfl (lv_at hl 2 rfl) ?_
      replace hF := bnd_some hF
      obtain ⟨z5, hz_5, hF⟩ := hF
      refine krI (kV (As := [.int a1, .int a2]) ⟨hx, hb, hml, hown, hts⟩ (kX0_tellTeam l D cy sa (fun i => h (i + 1)) m_day m_coins m_felts m_made m_worth m_rags m_water m_pulp m_beat m_sort m_nM m_mark m_size m_worn m_nT m_skill m_vat m_pair m_nQ m_allS m_pmark m_pgrade m_psheets m_loft a1 a2 z5 hz_5 _) (cwV 2 hts gX5_told_X0_tellTeam rfl rfl rfl (by decide +kernel) ⟨Nat.le_of_ble_eq_true rfl, Nat.le_of_ble_eq_true rfl⟩) hK hP hD hS hA hG [1, 2, 3, 4, 5, 6, 7, 8, 9, 10, 11, 12, 13, 14, 15, 16, 17, 18, 19, 20] hcX5_X0_1 ndX0_1 gtX0_0 rfl rfl rfl hl.1 [] rfl (Nat.le_of_ble_eq_true rfl) dX5_told_38 ⟨(Nat.le_of_ble_eq_true rfl), (Nat.le_of_ble_eq_true rfl)⟩) hP hD hS hA [1, 2, 3, 4, 5, 6, 7, 8, 9, 10, 11, 12, 13, 14, 15, 16, 17, 18, 19, 20] hcX5_X0_1 (fun H locs hP hS => ?_)
      cases hF
      exact hQ _ _ _ _ _ _ (fun _ => 0) dX5_told_41 hP hD hS (Nat.le_of_ble_eq_true rfl) (Nat.le_of_ble_eq_true rfl)
    · replace hF := if_t hF c_4
      cases hF
abbrev rX5_toldx : Room := { frames := 6, cells := 1, slots := 6, locals := 98 }
set_option maxHeartbeats 4000000 in
set_option maxRecDepth 100000 in
theorem kX5_toldx (l : Launch) (D : va_G) (cy : Nat → ClassId) (sa : SAT) (h : Nat → Nat) (m_day : Int32) (m_coins : Int32) (m_felts : Int32) (m_made : Int32) (m_worth : Int32) (m_rags : FN) (m_water : FN) (m_pulp : FN) (m_beat : FN) (m_sort : FN) (m_nM : Int32) (m_mark : FN) (m_size : FN) (m_worn : FN) (m_nT : Int32) (m_skill : FN) (m_vat : FN) (m_pair : FN) (m_nQ : Int32) (m_allS : Int32) (m_pmark : FN) (m_pgrade : FN) (m_psheets : FN) (m_loft : FN) (t_day : Int32) (t_coins : Int32) (t_felts : Int32) (t_made : Int32) (t_worth : Int32) (t_rags : FN) (t_water : FN) (t_pulp : FN) (t_beat : FN) (t_sort : FN) (t_nM : Int32) (t_mark : FN) (t_size : FN) (t_worn : FN) (t_nT : Int32) (t_skill : FN) (t_vat : FN) (t_pair : FN) (t_nQ : Int32) (t_allS : Int32) (t_pmark : FN) (t_pgrade : FN) (t_psheets : FN) (t_loft : FN) (a1 : Int32) (a2 : Int32) (hst : l.stackTraces = false) (kx : Nat) (hF : fX5_told m_felts m_pulp m_beat m_nM m_size m_nT m_skill m_vat m_pair m_allS a1 a2 = some (.inr kx)) : KX l D (tyW cy) sa yX5_told wsX5_told rX5_toldx [.ref (h 0), .int a1, .int a2] (wX5 cy h m_day m_coins m_felts m_made m_worth m_rags m_water m_pulp m_beat m_sort m_nM m_mark m_size m_worn m_nT m_skill m_vat m_pair m_nQ m_allS m_pmark m_pgrade m_psheets m_loft t_day t_coins t_felts t_made t_worth t_rags t_water t_pulp t_beat t_sort t_nM t_mark t_size t_worn t_nT t_skill t_vat t_pair t_nQ t_allS t_pmark t_pgrade t_psheets t_loft) (exN kx) 1 6 := by
  refine KX.of (cc := cX5_told) (maxL := 3) (ret := (some .int)) hst (by decide) rfl (Nat.le_of_ble_eq_true rfl) (Nat.le_of_ble_eq_true rfl) (Nat.le_of_ble_eq_true rfl) (Nat.le_refl _) (Nat.le_refl _) ?_
  intro p e s m args below meth c A ls Q hE hQ
  obtain ⟨hx, hb, hml, hown, hts, hA, hP, hK, hD, hG, hl, hnm⟩ := hE
  replace hown : s.vm.findClass RX5 = some m.cls := hown
  have hiX0 : ∀ w ∈ u_ws RX0 TX0 12, w ∈ wsX5_told := by decide +kernel
  have hiX5 : ∀ w ∈ u_ws RX5 TX5 2, w ∈ wsX5_told := by decide +kernel
  have hf10 : (Cond.fieldLink RX5 10 "RagVats" "mill" "LRagVats$Mill;").before args s = true := hts _ (by decide +kernel)
  have hn143 : (Cond.fieldLinkNest RX5 143 "RagVats$Mill" "teams" "LRagVats$Teams;" "RagVats").before args s = true := va_Nw.use rfl (hG.1.1 _ (by decide +kernel))
  have hat27 : ∀ w ∈ vx_atS RX5 27 "java/lang/IndexOutOfBoundsException" exNames, w.before args s = true := vx_hat (B := [.castable "java/lang/IndexOutOfBoundsException" "java/lang/IndexOutOfBoundsException", .declares (Bundle.initS "java/lang/RuntimeException"), .declares (Bundle.initS "java/lang/Exception"), .declares (Bundle.initS "java/lang/Throwable")]) (fun w h => hts w ((by decide +kernel : ∀ w ∈ (vx_atS RX5 27 "java/lang/IndexOutOfBoundsException" exNames).filter goodWord, w ∈ wsX5_told) w h)) (by decide +kernel) (vx_c (va_Nw.use rfl (hG.1.1 _ (by decide +kernel))) (vx_c (va_Nw.use rfl (hG.1.1 _ (by decide +kernel))) (vx_c (va_Nw.use rfl (hG.1.1 _ (by decide +kernel))) (vx_c (va_Nw.use rfl (hG.1.1 _ (by decide +kernel))) vx_n))))
  replace hl : lv_has ls 3 [(0, .ref (h 0)), (1, .int a1), (2, .int a2)] := hl
  have hS : va_S A s.heap s.heap [] := va_S.rf
  unfold fX5_told at hF
  refine lv_aload_n hx hb dX5_told_0 rfl (lv_at hl 0 rfl) ?_
  refine va_get (D := D) (C := RX5) (T := TX5) (N := 2) hx hb hts hiX5 hown hK hP 0 gtX5_0 rfl 0 (by decide) hf10 (fun _ h9 => h9) rfl dX5_told_1 ?_
  refine va_getN (host := "RagVats") (D := D) (C := RX0) (T := TX0) (N := 12) hx hb hts hiX0 hown hK hP 1 gtX5_1 rfl 9 (by decide) hn143 (fun _ h9 => h9) rfl dX5_told_4 ?_
  refine lv_iload_n hx hb dX5_told_7 rfl (lv_at hl 1 rfl) ?_
  replace hF := bnd_some hF
  obtain ⟨z1, hz_1, hF⟩ := hF
  refine krI (kV (As := [.int a1]) ⟨hx, hb, hml, hown, hts⟩ (kX3_has l D cy sa (fun i => h (i + 12)) m_nT m_skill m_vat m_pair a1 z1 hz_1 _) (cwV 1 hts gX5_told_X3_has rfl rfl rfl (by decide +kernel) ⟨Nat.le_of_ble_eq_true rfl, Nat.le_of_ble_eq_true rfl⟩) hK hP hD hS hA hG [12, 13, 14, 15] hcX5_X3_12 ndX3_12 gtX3_0 rfl rfl rfl hl.1 [] rfl (Nat.le_of_ble_eq_true rfl) dX5_told_8 ⟨(Nat.le_of_ble_eq_true rfl), (Nat.le_of_ble_eq_true rfl)⟩) hP hD hS hA [12, 13, 14, 15] hcX5_X3_12 (fun H locs hP hS => ?_)
  refine lv_if_eq (tgt := 22) hx hb dX5_told_11 (by decide) (fun c_2 => ?_) (fun c_2 => ?_)
  · replace hF := if_t hF c_2
    cases hF
    exact hQ _ _ _ _ _ 23 185 27 _ _ "no such team, or what is not 0 to 3" dX5_told_22 dX5_told_25 dX5_told_26 dX5_told_28 dX5_told_31 (hts _ (by decide +kernel)) (hts _ (by decide +kernel)) (by decide +kernel) hat27 ⟨by decide +kernel, by decide +kernel⟩ hP hD hS hl.1 (Nat.le_of_ble_eq_true rfl) (Nat.le_of_ble_eq_true rfl) (Nat.le_of_ble_eq_true rfl)
  · replace hF := if_f hF c_2
    refine lv_iload_n hx hb dX5_told_14 rfl (lv_at hl 2 rfl) ?_
    refine lv_iconst (v := 4) hx hb dX5_told_15 (by decide) ?_
    replace hF := bnd_some hF
    obtain ⟨z3, hz_3, hF⟩ := hF
    refine krI (kS (As := [.int a2, .int 4]) ⟨hx, hb, hml, hown, hts⟩ (kX5_isBelow l D cy sa a2 4 z3 hz_3 _) (cwS 2 hts gX5_told_X5_isBelow rfl rfl rfl (by decide +kernel) ⟨Nat.le_of_ble_eq_true rfl, Nat.le_of_ble_eq_true rfl⟩) hK hP hD hS hA hG [] rfl rfl rfl hl.1 [] rfl (Nat.le_of_ble_eq_true rfl) dX5_told_16 ⟨(Nat.le_of_ble_eq_true rfl), (Nat.le_of_ble_eq_true rfl)⟩) hP hD hS hA [] rfl (fun H locs hP hS => ?_)
    refine lv_if_ne (tgt := 32) hx hb dX5_told_19 (by decide) (fun c_4 => ?_) (fun c_4 => ?_)
    · replace hF := if_f hF c_4
      refine lv_aload_n hx hb dX5_told_32 rfl (lv_at hl 0 rfl) ?_
      refine va_get (D := D) (C := RX5) (T := TX5) (N := 2) hx hb hts hiX5 hown hK hP 0 gtX5_0 rfl 0 (by decide) hf10 (fun _ h9 => h9) rfl dX5_told_33 ?_
      refine lv_iload_n hx hb dX5_told_36 rfl (lv_at hl 1 rfl) ?_
      refine lv_iload_n hx hb dX5_told_37 rfl (lv_at hl 2 rfl) ?_
      replace hF := bnd_some hF
      obtain ⟨z5, hz_5, hF⟩ := hF
      refine krI (kV (As := [.int a1, .int a2]) ⟨hx, hb, hml, hown, hts⟩ (kX0_tellTeam l D cy sa (fun i => h (i + 1)) m_day m_coins m_felts m_made m_worth m_rags m_water m_pulp m_beat m_sort m_nM m_mark m_size m_worn m_nT m_skill m_vat m_pair m_nQ m_allS m_pmark m_pgrade m_psheets m_loft a1 a2 z5 hz_5 _) (cwV 2 hts gX5_told_X0_tellTeam rfl rfl rfl (by decide +kernel) ⟨Nat.le_of_ble_eq_true rfl, Nat.le_of_ble_eq_true rfl⟩) hK hP hD hS hA hG [1, 2, 3, 4, 5, 6, 7, 8, 9, 10, 11, 12, 13, 14, 15, 16, 17, 18, 19, 20] hcX5_X0_1 ndX0_1 gtX0_0 rfl rfl rfl hl.1 [] rfl (Nat.le_of_ble_eq_true rfl) dX5_told_38 ⟨(Nat.le_of_ble_eq_true rfl), (Nat.le_of_ble_eq_true rfl)⟩) hP hD hS hA [1, 2, 3, 4, 5, 6, 7, 8, 9, 10, 11, 12, 13, 14, 15, 16, 17, 18, 19, 20] hcX5_X0_1 (fun H locs hP hS => ?_)
      cases hF
    · replace hF := if_t hF c_4
      cases hF
      exact hQ _ _ _ _ _ 23 185 27 _ _ "no such team, or what is not 0 to 3" dX5_told_22 dX5_told_25 dX5_told_26 dX5_told_28 dX5_told_31 (hts _ (by decide +kernel)) (hts _ (by decide +kernel)) (by decide +kernel) hat27 ⟨by decide +kernel, by decide +kernel⟩ hP hD hS hl.1 (Nat.le_of_ble_eq_true rfl) (Nat.le_of_ble_eq_true rfl) (Nat.le_of_ble_eq_true rfl)

def fX5_post (m_nQ : Int32) (m_pmark : FN) (m_pgrade : FN) (m_psheets : FN) (a1 : Int32) (a2 : Int32) : Option ((Int32) ⊕ Nat) := (fX2_has m_nQ a1).bind fun z1 => if z1 = 0 then some (.inr 0) else (fX5_isBelow a2 3).bind fun z3 => if z3 = 0 then some (.inr 0) else (fX2_tell m_nQ m_pmark m_pgrade m_psheets a1 a2).bind fun z5 => some (.inl z5)
abbrev rX5_post : Room := { frames := 3, cells := 0, slots := 0, locals := 64 }
set_option maxHeartbeats 4000000 in
set_option maxRecDepth 100000 in
theorem kX5_post (l : Launch) (D : va_G) (cy : Nat → ClassId) (sa : SAT) (h : Nat → Nat) (m_day : Int32) (m_coins : Int32) (m_felts : Int32) (m_made : Int32) (m_worth : Int32) (m_rags : FN) (m_water : FN) (m_pulp : FN) (m_beat : FN) (m_sort : FN) (m_nM : Int32) (m_mark : FN) (m_size : FN) (m_worn : FN) (m_nT : Int32) (m_skill : FN) (m_vat : FN) (m_pair : FN) (m_nQ : Int32) (m_allS : Int32) (m_pmark : FN) (m_pgrade : FN) (m_psheets : FN) (m_loft : FN) (t_day : Int32) (t_coins : Int32) (t_felts : Int32) (t_made : Int32) (t_worth : Int32) (t_rags : FN) (t_water : FN) (t_pulp : FN) (t_beat : FN) (t_sort : FN) (t_nM : Int32) (t_mark : FN) (t_size : FN) (t_worn : FN) (t_nT : Int32) (t_skill : FN) (t_vat : FN) (t_pair : FN) (t_nQ : Int32) (t_allS : Int32) (t_pmark : FN) (t_pgrade : FN) (t_psheets : FN) (t_loft : FN) (a1 : Int32) (a2 : Int32) (z : Int32) (hF : fX5_post m_nQ m_pmark m_pgrade m_psheets a1 a2 = some (.inl z)) : KI l D (tyW cy) sa yX5_post wsX5_post rX5_post [.ref (h 0), .int a1, .int a2] (wX5 cy h m_day m_coins m_felts m_made m_worth m_rags m_water m_pulp m_beat m_sort m_nM m_mark m_size m_worn m_nT m_skill m_vat m_pair m_nQ m_allS m_pmark m_pgrade m_psheets m_loft t_day t_coins t_felts t_made t_worth t_rags t_water t_pulp t_beat t_sort t_nM t_mark t_size t_worn t_nT t_skill t_vat t_pair t_nQ t_allS t_pmark t_pgrade t_psheets t_loft) z (fun _ => wX5 cy h m_day m_coins m_felts m_made m_worth m_rags m_water m_pulp m_beat m_sort m_nM m_mark m_size m_worn m_nT m_skill m_vat m_pair m_nQ m_allS m_pmark m_pgrade m_psheets m_loft t_day t_coins t_felts t_made t_worth t_rags t_water t_pulp t_beat t_sort t_nM t_mark t_size t_worn t_nT t_skill t_vat t_pair t_nQ t_allS t_pmark t_pgrade t_psheets t_loft) 0 0 := by
  refine KI.of (cc := cX5_post) (maxL := 3) (by decide +kernel) rfl (Nat.le_of_ble_eq_true rfl) ?_
  intro p e s m args below meth c A ls Q hE hQ
  obtain ⟨hx, hb, hml, hown, hts, hA, hP, hK, hD, hG, hl, hnm⟩ := hE
  replace hown : s.vm.findClass RX5 = some m.cls := hown
  have hiX0 : ∀ w ∈ u_ws RX0 TX0 12, w ∈ wsX5_post := by decide +kernel
  have hiX5 : ∀ w ∈ u_ws RX5 TX5 2, w ∈ wsX5_post := by decide +kernel
  have hf10 : (Cond.fieldLink RX5 10 "RagVats" "mill" "LRagVats$Mill;").before args s = true := hts _ (by decide +kernel)
  have hn190 : (Cond.fieldLinkNest RX5 190 "RagVats$Mill" "posts" "LRagVats$Posts;" "RagVats").before args s = true := va_Nw.use rfl (hG.1.1 _ (by decide +kernel))
  replace hl : lv_has ls 3 [(0, .ref (h 0)), (1, .int a1), (2, .int a2)] := hl
  have hS : va_S A s.heap s.heap [] := va_S.rf
  unfold fX5_post at hF
  refine lv_aload_n hx hb dX5_post_0 rfl (lv_at hl 0 rfl) ?_
  refine va_get (D := D) (C := RX5) (T := TX5) (N := 2) hx hb hts hiX5 hown hK hP 0 gtX5_0 rfl 0 (by decide) hf10 (fun _ h9 => h9) rfl dX5_post_1 ?_
  refine va_getN (host := "RagVats") (D := D) (C := RX0) (T := TX0) (N := 12) hx hb hts hiX0 hown hK hP 1 gtX5_1 rfl 10 (by decide) hn190 (fun _ h9 => h9) rfl dX5_post_4 ?_
  refine lv_iload_n hx hb dX5_post_7 rfl (lv_at hl 1 rfl) ?_
  replace hF := bnd_some hF
  obtain ⟨z1, hz_1, hF⟩ := hF
  refine krI (kV (As := [.int a1]) ⟨hx, hb, hml, hown, hts⟩ (kX2_has l D cy sa (fun i => h (i + 16)) m_nQ m_allS m_pmark m_pgrade m_psheets a1 z1 hz_1 _) (cwV 1 hts gX5_post_X2_has rfl rfl rfl (by decide +kernel) ⟨Nat.le_of_ble_eq_true rfl, Nat.le_of_ble_eq_true rfl⟩) hK hP hD hS hA hG [16, 17, 18, 19] hcX5_X2_16 ndX2_16 gtX2_0 rfl rfl rfl hl.1 [] rfl (Nat.le_of_ble_eq_true rfl) dX5_post_8 ⟨(Nat.le_of_ble_eq_true rfl), (Nat.le_of_ble_eq_true rfl)⟩) hP hD hS hA [16, 17, 18, 19] hcX5_X2_16 (fun H locs hP hS => ?_)
  refine lv_if_eq (tgt := 22) hx hb dX5_post_11 (by decide) (fun c_2 => ?_) (fun c_2 => ?_)
  · replace hF := if_t hF c_2
    cases hF
  · replace hF := if_f hF c_2
    refine lv_iload_n hx hb dX5_post_14 rfl (lv_at hl 2 rfl) ?_
    refine lv_iconst (v := 3) hx hb dX5_post_15 (by decide) ?_
    replace hF := bnd_some hF
    obtain ⟨z3, hz_3, hF⟩ := hF
    refine krI (kS (As := [.int a2, .int 3]) ⟨hx, hb, hml, hown, hts⟩ (kX5_isBelow l D cy sa a2 3 z3 hz_3 _) (cwS 2 hts gX5_post_X5_isBelow rfl rfl rfl (by decide +kernel) ⟨Nat.le_of_ble_eq_true rfl, Nat.le_of_ble_eq_true rfl⟩) hK hP hD hS hA hG [] rfl rfl rfl hl.1 [] rfl (Nat.le_of_ble_eq_true rfl) dX5_post_16 ⟨(Nat.le_of_ble_eq_true rfl), (Nat.le_of_ble_eq_true rfl)⟩) hP hD hS hA [] rfl (fun H locs hP hS => ?_)
    refine lv_if_ne (tgt := 32) hx hb dX5_post_19 (by decide) (fun c_4 => ?_) (fun c_4 => ?_)
    · replace hF := if_f hF c_4
      refine lv_aload_n hx hb dX5_post_32 rfl (lv_at hl 0 rfl) ?_
      refine va_get (D := D) (C := RX5) (T := TX5) (N := 2) hx hb hts hiX5 hown hK hP 0 gtX5_0 rfl 0 (by decide) hf10 (fun _ h9 => h9) rfl dX5_post_33 ?_
      refine va_getN (host := "RagVats") (D := D) (C := RX0) (T := TX0) (N := 12) hx hb hts hiX0 hown hK hP 1 gtX5_1 rfl 10 (by decide) hn190 (fun _ h9 => h9) rfl dX5_post_36 ?_
      refine lv_iload_n hx hb dX5_post_39 rfl (lv_at hl 1 rfl) ?_
      refine lv_iload_n hx hb dX5_post_40 rfl (lv_at hl 2 rfl) ?_
      replace hF := bnd_some hF
      obtain ⟨z5, hz_5, hF⟩ := hF
      refine krI (kV (As := [.int a1, .int a2]) ⟨hx, hb, hml, hown, hts⟩ (kX2_tell l D cy sa (fun i => h (i + 16)) m_nQ m_allS m_pmark m_pgrade m_psheets a1 a2 z5 hz_5 _) (cwV 2 hts gX5_post_X2_tell rfl rfl rfl (by decide +kernel) ⟨Nat.le_of_ble_eq_true rfl, Nat.le_of_ble_eq_true rfl⟩) hK hP hD hS hA hG [16, 17, 18, 19] hcX5_X2_16 ndX2_16 gtX2_0 rfl rfl rfl hl.1 [] rfl (Nat.le_of_ble_eq_true rfl) dX5_post_41 ⟨(Nat.le_of_ble_eq_true rfl), (Nat.le_of_ble_eq_true rfl)⟩) hP hD hS hA [16, 17, 18, 19] hcX5_X2_16 (fun H locs hP hS => ?_)
      cases hF
      exact hQ _ _ _ _ _ _ (fun _ => 0) dX5_post_44 hP hD hS (Nat.le_of_ble_eq_true rfl) (Nat.le_of_ble_eq_true rfl)
    · replace hF := if_t hF c_4
      cases hF
abbrev rX5_postx : Room := { frames := 6, cells := 1, slots := 6, locals := 98 }
set_option maxHeartbeats 4000000 in
set_option maxRecDepth 100000 in
theorem kX5_postx (l : Launch) (D : va_G) (cy : Nat → ClassId) (sa : SAT) (h : Nat → Nat) (m_day : Int32) (m_coins : Int32) (m_felts : Int32) (m_made : Int32) (m_worth : Int32) (m_rags : FN) (m_water : FN) (m_pulp : FN) (m_beat : FN) (m_sort : FN) (m_nM : Int32) (m_mark : FN) (m_size : FN) (m_worn : FN) (m_nT : Int32) (m_skill : FN) (m_vat : FN) (m_pair : FN) (m_nQ : Int32) (m_allS : Int32) (m_pmark : FN) (m_pgrade : FN) (m_psheets : FN) (m_loft : FN) (t_day : Int32) (t_coins : Int32) (t_felts : Int32) (t_made : Int32) (t_worth : Int32) (t_rags : FN) (t_water : FN) (t_pulp : FN) (t_beat : FN) (t_sort : FN) (t_nM : Int32) (t_mark : FN) (t_size : FN) (t_worn : FN) (t_nT : Int32) (t_skill : FN) (t_vat : FN) (t_pair : FN) (t_nQ : Int32) (t_allS : Int32) (t_pmark : FN) (t_pgrade : FN) (t_psheets : FN) (t_loft : FN) (a1 : Int32) (a2 : Int32) (hst : l.stackTraces = false) (kx : Nat) (hF : fX5_post m_nQ m_pmark m_pgrade m_psheets a1 a2 = some (.inr kx)) : KX l D (tyW cy) sa yX5_post wsX5_post rX5_postx [.ref (h 0), .int a1, .int a2] (wX5 cy h m_day m_coins m_felts m_made m_worth m_rags m_water m_pulp m_beat m_sort m_nM m_mark m_size m_worn m_nT m_skill m_vat m_pair m_nQ m_allS m_pmark m_pgrade m_psheets m_loft t_day t_coins t_felts t_made t_worth t_rags t_water t_pulp t_beat t_sort t_nM t_mark t_size t_worn t_nT t_skill t_vat t_pair t_nQ t_allS t_pmark t_pgrade t_psheets t_loft) (exN kx) 1 6 := by
  refine KX.of (cc := cX5_post) (maxL := 3) (ret := (some .int)) hst (by decide) rfl (Nat.le_of_ble_eq_true rfl) (Nat.le_of_ble_eq_true rfl) (Nat.le_of_ble_eq_true rfl) (Nat.le_refl _) (Nat.le_refl _) ?_
  intro p e s m args below meth c A ls Q hE hQ
  obtain ⟨hx, hb, hml, hown, hts, hA, hP, hK, hD, hG, hl, hnm⟩ := hE
  replace hown : s.vm.findClass RX5 = some m.cls := hown
  have hiX0 : ∀ w ∈ u_ws RX0 TX0 12, w ∈ wsX5_post := by decide +kernel
  have hiX5 : ∀ w ∈ u_ws RX5 TX5 2, w ∈ wsX5_post := by decide +kernel
  have hf10 : (Cond.fieldLink RX5 10 "RagVats" "mill" "LRagVats$Mill;").before args s = true := hts _ (by decide +kernel)
  have hn190 : (Cond.fieldLinkNest RX5 190 "RagVats$Mill" "posts" "LRagVats$Posts;" "RagVats").before args s = true := va_Nw.use rfl (hG.1.1 _ (by decide +kernel))
  have hat27 : ∀ w ∈ vx_atS RX5 27 "java/lang/IndexOutOfBoundsException" exNames, w.before args s = true := vx_hat (B := [.castable "java/lang/IndexOutOfBoundsException" "java/lang/IndexOutOfBoundsException", .declares (Bundle.initS "java/lang/RuntimeException"), .declares (Bundle.initS "java/lang/Exception"), .declares (Bundle.initS "java/lang/Throwable")]) (fun w h => hts w ((by decide +kernel : ∀ w ∈ (vx_atS RX5 27 "java/lang/IndexOutOfBoundsException" exNames).filter goodWord, w ∈ wsX5_post) w h)) (by decide +kernel) (vx_c (va_Nw.use rfl (hG.1.1 _ (by decide +kernel))) (vx_c (va_Nw.use rfl (hG.1.1 _ (by decide +kernel))) (vx_c (va_Nw.use rfl (hG.1.1 _ (by decide +kernel))) (vx_c (va_Nw.use rfl (hG.1.1 _ (by decide +kernel))) vx_n))))
  replace hl : lv_has ls 3 [(0, .ref (h 0)), (1, .int a1), (2, .int a2)] := hl
  have hS : va_S A s.heap s.heap [] := va_S.rf
  unfold fX5_post at hF
  refine lv_aload_n hx hb dX5_post_0 rfl (lv_at hl 0 rfl) ?_
  refine va_get (D := D) (C := RX5) (T := TX5) (N := 2) hx hb hts hiX5 hown hK hP 0 gtX5_0 rfl 0 (by decide) hf10 (fun _ h9 => h9) rfl dX5_post_1 ?_
  refine va_getN (host := "RagVats") (D := D) (C := RX0) (T := TX0) (N := 12) hx hb hts hiX0 hown hK hP 1 gtX5_1 rfl 10 (by decide) hn190 (fun _ h9 => h9) rfl dX5_post_4 ?_
  refine lv_iload_n hx hb dX5_post_7 rfl (lv_at hl 1 rfl) ?_
  replace hF := bnd_some hF
  obtain ⟨z1, hz_1, hF⟩ := hF
  refine krI (kV (As := [.int a1]) ⟨hx, hb, hml, hown, hts⟩ (kX2_has l D cy sa (fun i => h (i + 16)) m_nQ m_allS m_pmark m_pgrade m_psheets a1 z1 hz_1 _) (cwV 1 hts gX5_post_X2_has rfl rfl rfl (by decide +kernel) ⟨Nat.le_of_ble_eq_true rfl, Nat.le_of_ble_eq_true rfl⟩) hK hP hD hS hA hG [16, 17, 18, 19] hcX5_X2_16 ndX2_16 gtX2_0 rfl rfl rfl hl.1 [] rfl (Nat.le_of_ble_eq_true rfl) dX5_post_8 ⟨(Nat.le_of_ble_eq_true rfl), (Nat.le_of_ble_eq_true rfl)⟩) hP hD hS hA [16, 17, 18, 19] hcX5_X2_16 (fun H locs hP hS => ?_)
  refine lv_if_eq (tgt := 22) hx hb dX5_post_11 (by decide) (fun c_2 => ?_) (fun c_2 => ?_)
  · replace hF := if_t hF c_2
    cases hF
    exact hQ _ _ _ _ _ 23 197 27 _ _ "no such post, or what is not 0 to 2" dX5_post_22 dX5_post_25 dX5_post_26 dX5_post_28 dX5_post_31 (hts _ (by decide +kernel)) (hts _ (by decide +kernel)) (by decide +kernel) hat27 ⟨by decide +kernel, by decide +kernel⟩ hP hD hS hl.1 (Nat.le_of_ble_eq_true rfl) (Nat.le_of_ble_eq_true rfl) (Nat.le_of_ble_eq_true rfl)
  · replace hF := if_f hF c_2
    refine lv_iload_n hx hb dX5_post_14 rfl (lv_at hl 2 rfl) ?_
    refine lv_iconst (v := 3) hx hb dX5_post_15 (by decide) ?_
    replace hF := bnd_some hF
    obtain ⟨z3, hz_3, hF⟩ := hF
    refine krI (kS (As := [.int a2, .int 3]) ⟨hx, hb, hml, hown, hts⟩ (kX5_isBelow l D cy sa a2 3 z3 hz_3 _) (cwS 2 hts gX5_post_X5_isBelow rfl rfl rfl (by decide +kernel) ⟨Nat.le_of_ble_eq_true rfl, Nat.le_of_ble_eq_true rfl⟩) hK hP hD hS hA hG [] rfl rfl rfl hl.1 [] rfl (Nat.le_of_ble_eq_true rfl) dX5_post_16 ⟨(Nat.le_of_ble_eq_true rfl), (Nat.le_of_ble_eq_true rfl)⟩) hP hD hS hA [] rfl (fun H locs hP hS => ?_)
    refine lv_if_ne (tgt := 32) hx hb dX5_post_19 (by decide) (fun c_4 => ?_) (fun c_4 => ?_)
    · replace hF := if_f hF c_4
      refine lv_aload_n hx hb dX5_post_32 rfl (lv_at hl 0 rfl) ?_
      refine va_get (D := D) (C := RX5) (T := TX5) (N := 2) hx hb hts hiX5 hown hK hP 0 gtX5_0 rfl 0 (by decide) hf10 (fun _ h9 => h9) rfl dX5_post_33 ?_
      refine va_getN (host := "RagVats") (D := D) (C := RX0) (T := TX0) (N := 12) hx hb hts hiX0 hown hK hP 1 gtX5_1 rfl 10 (by decide) hn190 (fun _ h9 => h9) rfl dX5_post_36 ?_
      refine lv_iload_n hx hb dX5_post_39 rfl (lv_at hl 1 rfl) ?_
      refine lv_iload_n hx hb dX5_post_40 rfl (lv_at hl 2 rfl) ?_
      replace hF := bnd_some hF
      obtain ⟨z5, hz_5, hF⟩ := hF
      refine krI (kV (As := [.int a1, .int a2]) ⟨hx, hb, hml, hown, hts⟩ (kX2_tell l D cy sa (fun i => h (i + 16)) m_nQ m_allS m_pmark m_pgrade m_psheets a1 a2 z5 hz_5 _) (cwV 2 hts gX5_post_X2_tell rfl rfl rfl (by decide +kernel) ⟨Nat.le_of_ble_eq_true rfl, Nat.le_of_ble_eq_true rfl⟩) hK hP hD hS hA hG [16, 17, 18, 19] hcX5_X2_16 ndX2_16 gtX2_0 rfl rfl rfl hl.1 [] rfl (Nat.le_of_ble_eq_true rfl) dX5_post_41 ⟨(Nat.le_of_ble_eq_true rfl), (Nat.le_of_ble_eq_true rfl)⟩) hP hD hS hA [16, 17, 18, 19] hcX5_X2_16 (fun H locs hP hS => ?_)
      cases hF
    · replace hF := if_t hF c_4
      cases hF
      exact hQ _ _ _ _ _ 23 197 27 _ _ "no such post, or what is not 0 to 2" dX5_post_22 dX5_post_25 dX5_post_26 dX5_post_28 dX5_post_31 (hts _ (by decide +kernel)) (hts _ (by decide +kernel)) (by decide +kernel) hat27 ⟨by decide +kernel, by decide +kernel⟩ hP hD hS hl.1 (Nat.le_of_ble_eq_true rfl) (Nat.le_of_ble_eq_true rfl) (Nat.le_of_ble_eq_true rfl)

def fX5_loft (m_loft : FN) (a1 : Int32) (a2 : Int32) : Option ((Int32) ⊕ Nat) := (fX5_isBelow a1 10).bind fun z1 => if z1 = 0 then some (.inr 0) else (fX5_isBelow a2 3).bind fun z3 => if z3 = 0 then some (.inr 0) else (fX0_hanging m_loft a1 a2).bind fun z5 => some (.inl z5)
abbrev rX5_loft : Room := { frames := 2, cells := 0, slots := 0, locals := 43 }
set_option maxHeartbeats 4000000 in
set_option maxRecDepth 100000 in
theorem kX5_loft (l : Launch) (D : va_G) (cy : Nat → ClassId) (sa : SAT) (h : Nat → Nat) (m_day : Int32) (m_coins : Int32) (m_felts : Int32) (m_made : Int32) (m_worth : Int32) (m_rags : FN) (m_water : FN) (m_pulp : FN) (m_beat : FN) (m_sort : FN) (m_nM : Int32) (m_mark : FN) (m_size : FN) (m_worn : FN) (m_nT : Int32) (m_skill : FN) (m_vat : FN) (m_pair : FN) (m_nQ : Int32) (m_allS : Int32) (m_pmark : FN) (m_pgrade : FN) (m_psheets : FN) (m_loft : FN) (t_day : Int32) (t_coins : Int32) (t_felts : Int32) (t_made : Int32) (t_worth : Int32) (t_rags : FN) (t_water : FN) (t_pulp : FN) (t_beat : FN) (t_sort : FN) (t_nM : Int32) (t_mark : FN) (t_size : FN) (t_worn : FN) (t_nT : Int32) (t_skill : FN) (t_vat : FN) (t_pair : FN) (t_nQ : Int32) (t_allS : Int32) (t_pmark : FN) (t_pgrade : FN) (t_psheets : FN) (t_loft : FN) (a1 : Int32) (a2 : Int32) (z : Int32) (hF : fX5_loft m_loft a1 a2 = some (.inl z)) : KI l D (tyW cy) sa yX5_loft wsX5_loft rX5_loft [.ref (h 0), .int a1, .int a2] (wX5 cy h m_day m_coins m_felts m_made m_worth m_rags m_water m_pulp m_beat m_sort m_nM m_mark m_size m_worn m_nT m_skill m_vat m_pair m_nQ m_allS m_pmark m_pgrade m_psheets m_loft t_day t_coins t_felts t_made t_worth t_rags t_water t_pulp t_beat t_sort t_nM t_mark t_size t_worn t_nT t_skill t_vat t_pair t_nQ t_allS t_pmark t_pgrade t_psheets t_loft) z (fun _ => wX5 cy h m_day m_coins m_felts m_made m_worth m_rags m_water m_pulp m_beat m_sort m_nM m_mark m_size m_worn m_nT m_skill m_vat m_pair m_nQ m_allS m_pmark m_pgrade m_psheets m_loft t_day t_coins t_felts t_made t_worth t_rags t_water t_pulp t_beat t_sort t_nM t_mark t_size t_worn t_nT t_skill t_vat t_pair t_nQ t_allS t_pmark t_pgrade t_psheets t_loft) 0 0 := by
  refine KI.of (cc := cX5_loft) (maxL := 3) (by decide +kernel) rfl (Nat.le_of_ble_eq_true rfl) ?_
  intro p e s m args below meth c A ls Q hE hQ
  obtain ⟨hx, hb, hml, hown, hts, hA, hP, hK, hD, hG, hl, hnm⟩ := hE
  replace hown : s.vm.findClass RX5 = some m.cls := hown
  have hiX5 : ∀ w ∈ u_ws RX5 TX5 2, w ∈ wsX5_loft := by decide +kernel
  have hf10 : (Cond.fieldLink RX5 10 "RagVats" "mill" "LRagVats$Mill;").before args s = true := hts _ (by decide +kernel)
  replace hl : lv_has ls 3 [(0, .ref (h 0)), (1, .int a1), (2, .int a2)] := hl
  have hS : va_S A s.heap s.heap [] := va_S.rf
  unfold fX5_loft at hF
  refine lv_iload_n hx hb dX5_loft_0 rfl (lv_at hl 1 rfl) ?_
  refine lv_bipush (v := 10) hx hb dX5_loft_1 (by decide) ?_
  replace hF := bnd_some hF
  obtain ⟨z1, hz_1, hF⟩ := hF
  refine krI (kS (As := [.int a1, .int 10]) ⟨hx, hb, hml, hown, hts⟩ (kX5_isBelow l D cy sa a1 10 z1 hz_1 _) (cwS 2 hts gX5_loft_X5_isBelow rfl rfl rfl (by decide +kernel) ⟨Nat.le_of_ble_eq_true rfl, Nat.le_of_ble_eq_true rfl⟩) hK hP hD hS hA hG [] rfl rfl rfl hl.1 [] rfl (Nat.le_of_ble_eq_true rfl) dX5_loft_3 ⟨(Nat.le_of_ble_eq_true rfl), (Nat.le_of_ble_eq_true rfl)⟩) hP hD hS hA [] rfl (fun H locs hP hS => ?_)
  refine lv_if_eq (tgt := 17) hx hb dX5_loft_6 (by decide) (fun c_2 => ?_) (fun c_2 => ?_)
  · replace hF := if_t hF c_2
    cases hF
  · replace hF := if_f hF c_2
    refine lv_iload_n hx hb dX5_loft_9 rfl (lv_at hl 2 rfl) ?_
    refine lv_iconst (v := 3) hx hb dX5_loft_10 (by decide) ?_
    replace hF := bnd_some hF
    obtain ⟨z3, hz_3, hF⟩ := hF
    refine krI (kS (As := [.int a2, .int 3]) ⟨hx, hb, hml, hown, hts⟩ (kX5_isBelow l D cy sa a2 3 z3 hz_3 _) (cwS 2 hts gX5_loft_X5_isBelow rfl rfl rfl (by decide +kernel) ⟨Nat.le_of_ble_eq_true rfl, Nat.le_of_ble_eq_true rfl⟩) hK hP hD hS hA hG [] rfl rfl rfl hl.1 [] rfl (Nat.le_of_ble_eq_true rfl) dX5_loft_11 ⟨(Nat.le_of_ble_eq_true rfl), (Nat.le_of_ble_eq_true rfl)⟩) hP hD hS hA [] rfl (fun H locs hP hS => ?_)
    refine lv_if_ne (tgt := 27) hx hb dX5_loft_14 (by decide) (fun c_4 => ?_) (fun c_4 => ?_)
    · replace hF := if_f hF c_4
      refine lv_aload_n hx hb dX5_loft_27 rfl (lv_at hl 0 rfl) ?_
      refine va_get (D := D) (C := RX5) (T := TX5) (N := 2) hx hb hts hiX5 hown hK hP 0 gtX5_0 rfl 0 (by decide) hf10 (fun _ h9 => h9) rfl dX5_loft_28 ?_
      refine lv_iload_n hx hb dX5_loft_31 rfl (lv_at hl 1 rfl) ?_
      refine lv_iload_n hx hb dX5_loft_32 rfl (lv_at hl 2 rfl) ?_
      replace hF := bnd_some hF
      obtain ⟨z5, hz_5, hF⟩ := hF
      refine krI (kV (As := [.int a1, .int a2]) ⟨hx, hb, hml, hown, hts⟩ (kX0_hanging l D cy sa (fun i => h (i + 1)) m_day m_coins m_felts m_made m_worth m_rags m_water m_pulp m_beat m_sort m_nM m_mark m_size m_worn m_nT m_skill m_vat m_pair m_nQ m_allS m_pmark m_pgrade m_psheets m_loft a1 a2 z5 hz_5 _) (cwV 2 hts gX5_loft_X0_hanging rfl rfl rfl (by decide +kernel) ⟨Nat.le_of_ble_eq_true rfl, Nat.le_of_ble_eq_true rfl⟩) hK hP hD hS hA hG [1, 2, 3, 4, 5, 6, 7, 8, 9, 10, 11, 12, 13, 14, 15, 16, 17, 18, 19, 20] hcX5_X0_1 ndX0_1 gtX0_0 rfl rfl rfl hl.1 [] rfl (Nat.le_of_ble_eq_true rfl) dX5_loft_33 ⟨(Nat.le_of_ble_eq_true rfl), (Nat.le_of_ble_eq_true rfl)⟩) hP hD hS hA [1, 2, 3, 4, 5, 6, 7, 8, 9, 10, 11, 12, 13, 14, 15, 16, 17, 18, 19, 20] hcX5_X0_1 (fun H locs hP hS => ?_)
      cases hF
      exact hQ _ _ _ _ _ _ (fun _ => 0) dX5_loft_36 hP hD hS (Nat.le_of_ble_eq_true rfl) (Nat.le_of_ble_eq_true rfl)
    · replace hF := if_t hF c_4
      cases hF
abbrev rX5_loftx : Room := { frames := 6, cells := 1, slots := 6, locals := 98 }
set_option maxHeartbeats 4000000 in
set_option maxRecDepth 100000 in
theorem kX5_loftx (l : Launch) (D : va_G) (cy : Nat → ClassId) (sa : SAT) (h : Nat → Nat) (m_day : Int32) (m_coins : Int32) (m_felts : Int32) (m_made : Int32) (m_worth : Int32) (m_rags : FN) (m_water : FN) (m_pulp : FN) (m_beat : FN) (m_sort : FN) (m_nM : Int32) (m_mark : FN) (m_size : FN) (m_worn : FN) (m_nT : Int32) (m_skill : FN) (m_vat : FN) (m_pair : FN) (m_nQ : Int32) (m_allS : Int32) (m_pmark : FN) (m_pgrade : FN) (m_psheets : FN) (m_loft : FN) (t_day : Int32) (t_coins : Int32) (t_felts : Int32) (t_made : Int32) (t_worth : Int32) (t_rags : FN) (t_water : FN) (t_pulp : FN) (t_beat : FN) (t_sort : FN) (t_nM : Int32) (t_mark : FN) (t_size : FN) (t_worn : FN) (t_nT : Int32) (t_skill : FN) (t_vat : FN) (t_pair : FN) (t_nQ : Int32) (t_allS : Int32) (t_pmark : FN) (t_pgrade : FN) (t_psheets : FN) (t_loft : FN) (a1 : Int32) (a2 : Int32) (hst : l.stackTraces = false) (kx : Nat) (hF : fX5_loft m_loft a1 a2 = some (.inr kx)) : KX l D (tyW cy) sa yX5_loft wsX5_loft rX5_loftx [.ref (h 0), .int a1, .int a2] (wX5 cy h m_day m_coins m_felts m_made m_worth m_rags m_water m_pulp m_beat m_sort m_nM m_mark m_size m_worn m_nT m_skill m_vat m_pair m_nQ m_allS m_pmark m_pgrade m_psheets m_loft t_day t_coins t_felts t_made t_worth t_rags t_water t_pulp t_beat t_sort t_nM t_mark t_size t_worn t_nT t_skill t_vat t_pair t_nQ t_allS t_pmark t_pgrade t_psheets t_loft) (exN kx) 1 6 := by
  refine KX.of (cc := cX5_loft) (maxL := 3) (ret := (some .int)) hst (by decide) rfl (Nat.le_of_ble_eq_true rfl) (Nat.le_of_ble_eq_true rfl) (Nat.le_of_ble_eq_true rfl) (Nat.le_refl _) (Nat.le_refl _) ?_
  intro p e s m args below meth c A ls Q hE hQ
  obtain ⟨hx, hb, hml, hown, hts, hA, hP, hK, hD, hG, hl, hnm⟩ := hE
  replace hown : s.vm.findClass RX5 = some m.cls := hown
  have hiX5 : ∀ w ∈ u_ws RX5 TX5 2, w ∈ wsX5_loft := by decide +kernel
  have hf10 : (Cond.fieldLink RX5 10 "RagVats" "mill" "LRagVats$Mill;").before args s = true := hts _ (by decide +kernel)
  have hat27 : ∀ w ∈ vx_atS RX5 27 "java/lang/IndexOutOfBoundsException" exNames, w.before args s = true := vx_hat (B := [.castable "java/lang/IndexOutOfBoundsException" "java/lang/IndexOutOfBoundsException", .declares (Bundle.initS "java/lang/RuntimeException"), .declares (Bundle.initS "java/lang/Exception"), .declares (Bundle.initS "java/lang/Throwable")]) (fun w h => hts w ((by decide +kernel : ∀ w ∈ (vx_atS RX5 27 "java/lang/IndexOutOfBoundsException" exNames).filter goodWord, w ∈ wsX5_loft) w h)) (by decide +kernel) (vx_c (va_Nw.use rfl (hG.1.1 _ (by decide +kernel))) (vx_c (va_Nw.use rfl (hG.1.1 _ (by decide +kernel))) (vx_c (va_Nw.use rfl (hG.1.1 _ (by decide +kernel))) (vx_c (va_Nw.use rfl (hG.1.1 _ (by decide +kernel))) vx_n))))
  replace hl : lv_has ls 3 [(0, .ref (h 0)), (1, .int a1), (2, .int a2)] := hl
  have hS : va_S A s.heap s.heap [] := va_S.rf
  unfold fX5_loft at hF
  refine lv_iload_n hx hb dX5_loft_0 rfl (lv_at hl 1 rfl) ?_
  refine lv_bipush (v := 10) hx hb dX5_loft_1 (by decide) ?_
  replace hF := bnd_some hF
  obtain ⟨z1, hz_1, hF⟩ := hF
  refine krI (kS (As := [.int a1, .int 10]) ⟨hx, hb, hml, hown, hts⟩ (kX5_isBelow l D cy sa a1 10 z1 hz_1 _) (cwS 2 hts gX5_loft_X5_isBelow rfl rfl rfl (by decide +kernel) ⟨Nat.le_of_ble_eq_true rfl, Nat.le_of_ble_eq_true rfl⟩) hK hP hD hS hA hG [] rfl rfl rfl hl.1 [] rfl (Nat.le_of_ble_eq_true rfl) dX5_loft_3 ⟨(Nat.le_of_ble_eq_true rfl), (Nat.le_of_ble_eq_true rfl)⟩) hP hD hS hA [] rfl (fun H locs hP hS => ?_)
  refine lv_if_eq (tgt := 17) hx hb dX5_loft_6 (by decide) (fun c_2 => ?_) (fun c_2 => ?_)
  · replace hF := if_t hF c_2
    cases hF
    exact hQ _ _ _ _ _ 23 60 27 _ _ "no such mark or grade" dX5_loft_17 dX5_loft_20 dX5_loft_21 dX5_loft_23 dX5_loft_26 (hts _ (by decide +kernel)) (hts _ (by decide +kernel)) (by decide +kernel) hat27 ⟨by decide +kernel, by decide +kernel⟩ hP hD hS hl.1 (Nat.le_of_ble_eq_true rfl) (Nat.le_of_ble_eq_true rfl) (Nat.le_of_ble_eq_true rfl)
  · replace hF := if_f hF c_2
    refine lv_iload_n hx hb dX5_loft_9 rfl (lv_at hl 2 rfl) ?_
    refine lv_iconst (v := 3) hx hb dX5_loft_10 (by decide) ?_
    replace hF := bnd_some hF
    obtain ⟨z3, hz_3, hF⟩ := hF
    refine krI (kS (As := [.int a2, .int 3]) ⟨hx, hb, hml, hown, hts⟩ (kX5_isBelow l D cy sa a2 3 z3 hz_3 _) (cwS 2 hts gX5_loft_X5_isBelow rfl rfl rfl (by decide +kernel) ⟨Nat.le_of_ble_eq_true rfl, Nat.le_of_ble_eq_true rfl⟩) hK hP hD hS hA hG [] rfl rfl rfl hl.1 [] rfl (Nat.le_of_ble_eq_true rfl) dX5_loft_11 ⟨(Nat.le_of_ble_eq_true rfl), (Nat.le_of_ble_eq_true rfl)⟩) hP hD hS hA [] rfl (fun H locs hP hS => ?_)
    refine lv_if_ne (tgt := 27) hx hb dX5_loft_14 (by decide) (fun c_4 => ?_) (fun c_4 => ?_)
    · replace hF := if_f hF c_4
      refine lv_aload_n hx hb dX5_loft_27 rfl (lv_at hl 0 rfl) ?_
      refine va_get (D := D) (C := RX5) (T := TX5) (N := 2) hx hb hts hiX5 hown hK hP 0 gtX5_0 rfl 0 (by decide) hf10 (fun _ h9 => h9) rfl dX5_loft_28 ?_
      refine lv_iload_n hx hb dX5_loft_31 rfl (lv_at hl 1 rfl) ?_
      refine lv_iload_n hx hb dX5_loft_32 rfl (lv_at hl 2 rfl) ?_
      replace hF := bnd_some hF
      obtain ⟨z5, hz_5, hF⟩ := hF
      refine krI (kV (As := [.int a1, .int a2]) ⟨hx, hb, hml, hown, hts⟩ (kX0_hanging l D cy sa (fun i => h (i + 1)) m_day m_coins m_felts m_made m_worth m_rags m_water m_pulp m_beat m_sort m_nM m_mark m_size m_worn m_nT m_skill m_vat m_pair m_nQ m_allS m_pmark m_pgrade m_psheets m_loft a1 a2 z5 hz_5 _) (cwV 2 hts gX5_loft_X0_hanging rfl rfl rfl (by decide +kernel) ⟨Nat.le_of_ble_eq_true rfl, Nat.le_of_ble_eq_true rfl⟩) hK hP hD hS hA hG [1, 2, 3, 4, 5, 6, 7, 8, 9, 10, 11, 12, 13, 14, 15, 16, 17, 18, 19, 20] hcX5_X0_1 ndX0_1 gtX0_0 rfl rfl rfl hl.1 [] rfl (Nat.le_of_ble_eq_true rfl) dX5_loft_33 ⟨(Nat.le_of_ble_eq_true rfl), (Nat.le_of_ble_eq_true rfl)⟩) hP hD hS hA [1, 2, 3, 4, 5, 6, 7, 8, 9, 10, 11, 12, 13, 14, 15, 16, 17, 18, 19, 20] hcX5_X0_1 (fun H locs hP hS => ?_)
      cases hF
    · replace hF := if_t hF c_4
      cases hF
      exact hQ _ _ _ _ _ 23 60 27 _ _ "no such mark or grade" dX5_loft_17 dX5_loft_20 dX5_loft_21 dX5_loft_23 dX5_loft_26 (hts _ (by decide +kernel)) (hts _ (by decide +kernel)) (by decide +kernel) hat27 ⟨by decide +kernel, by decide +kernel⟩ hP hD hS hl.1 (Nat.le_of_ble_eq_true rfl) (Nat.le_of_ble_eq_true rfl) (Nat.le_of_ble_eq_true rfl)

def fX5_count (m_day : Int32) (m_coins : Int32) (m_felts : Int32) (m_made : Int32) (m_worth : Int32) (m_rags : FN) (m_pulp : FN) (m_nQ : Int32) (m_allS : Int32) (m_loft : FN) (a1 : Int32) : Option ((Int32) ⊕ Nat) := (fX5_isBelow a1 12).bind fun z1 => if z1 = 0 then some (.inr 0) else (fX0_tell m_day m_coins m_felts m_made m_worth m_rags m_pulp m_nQ m_allS m_loft a1).bind fun z3 => some (.inl z3)
abbrev rX5_count : Room := { frames := 3, cells := 0, slots := 0, locals := 63 }
set_option maxHeartbeats 4000000 in
set_option maxRecDepth 100000 in
theorem kX5_count (l : Launch) (D : va_G) (cy : Nat → ClassId) (sa : SAT) (h : Nat → Nat) (m_day : Int32) (m_coins : Int32) (m_felts : Int32) (m_made : Int32) (m_worth : Int32) (m_rags : FN) (m_water : FN) (m_pulp : FN) (m_beat : FN) (m_sort : FN) (m_nM : Int32) (m_mark : FN) (m_size : FN) (m_worn : FN) (m_nT : Int32) (m_skill : FN) (m_vat : FN) (m_pair : FN) (m_nQ : Int32) (m_allS : Int32) (m_pmark : FN) (m_pgrade : FN) (m_psheets : FN) (m_loft : FN) (t_day : Int32) (t_coins : Int32) (t_felts : Int32) (t_made : Int32) (t_worth : Int32) (t_rags : FN) (t_water : FN) (t_pulp : FN) (t_beat : FN) (t_sort : FN) (t_nM : Int32) (t_mark : FN) (t_size : FN) (t_worn : FN) (t_nT : Int32) (t_skill : FN) (t_vat : FN) (t_pair : FN) (t_nQ : Int32) (t_allS : Int32) (t_pmark : FN) (t_pgrade : FN) (t_psheets : FN) (t_loft : FN) (a1 : Int32) (z : Int32) (hF : fX5_count m_day m_coins m_felts m_made m_worth m_rags m_pulp m_nQ m_allS m_loft a1 = some (.inl z)) : KI l D (tyW cy) sa yX5_count wsX5_count rX5_count [.ref (h 0), .int a1] (wX5 cy h m_day m_coins m_felts m_made m_worth m_rags m_water m_pulp m_beat m_sort m_nM m_mark m_size m_worn m_nT m_skill m_vat m_pair m_nQ m_allS m_pmark m_pgrade m_psheets m_loft t_day t_coins t_felts t_made t_worth t_rags t_water t_pulp t_beat t_sort t_nM t_mark t_size t_worn t_nT t_skill t_vat t_pair t_nQ t_allS t_pmark t_pgrade t_psheets t_loft) z (fun _ => wX5 cy h m_day m_coins m_felts m_made m_worth m_rags m_water m_pulp m_beat m_sort m_nM m_mark m_size m_worn m_nT m_skill m_vat m_pair m_nQ m_allS m_pmark m_pgrade m_psheets m_loft t_day t_coins t_felts t_made t_worth t_rags t_water t_pulp t_beat t_sort t_nM t_mark t_size t_worn t_nT t_skill t_vat t_pair t_nQ t_allS t_pmark t_pgrade t_psheets t_loft) 0 0 := by
  refine KI.of (cc := cX5_count) (maxL := 2) (by decide +kernel) rfl (Nat.le_of_ble_eq_true rfl) ?_
  intro p e s m args below meth c A ls Q hE hQ
  obtain ⟨hx, hb, hml, hown, hts, hA, hP, hK, hD, hG, hl, hnm⟩ := hE
  replace hown : s.vm.findClass RX5 = some m.cls := hown
  have hiX5 : ∀ w ∈ u_ws RX5 TX5 2, w ∈ wsX5_count := by decide +kernel
  have hf10 : (Cond.fieldLink RX5 10 "RagVats" "mill" "LRagVats$Mill;").before args s = true := hts _ (by decide +kernel)
  replace hl : lv_has ls 2 [(0, .ref (h 0)), (1, .int a1)] := hl
  have hS : va_S A s.heap s.heap [] := va_S.rf
  unfold fX5_count at hF
  refine lv_iload_n hx hb dX5_count_0 rfl (lv_at hl 1 rfl) ?_
  refine lv_bipush (v := 12) hx hb dX5_count_1 (by decide) ?_
  replace hF := bnd_some hF
  obtain ⟨z1, hz_1, hF⟩ := hF
  refine krI (kS (As := [.int a1, .int 12]) ⟨hx, hb, hml, hown, hts⟩ (kX5_isBelow l D cy sa a1 12 z1 hz_1 _) (cwS 2 hts gX5_count_X5_isBelow rfl rfl rfl (by decide +kernel) ⟨Nat.le_of_ble_eq_true rfl, Nat.le_of_ble_eq_true rfl⟩) hK hP hD hS hA hG [] rfl rfl rfl hl.1 [] rfl (Nat.le_of_ble_eq_true rfl) dX5_count_3 ⟨(Nat.le_of_ble_eq_true rfl), (Nat.le_of_ble_eq_true rfl)⟩) hP hD hS hA [] rfl (fun H locs hP hS => ?_)
  refine lv_if_ne (tgt := 19) hx hb dX5_count_6 (by decide) (fun c_2 => ?_) (fun c_2 => ?_)
  · replace hF := if_f hF c_2
    refine lv_aload_n hx hb dX5_count_19 rfl (lv_at hl 0 rfl) ?_
    refine va_get (D := D) (C := RX5) (T := TX5) (N := 2) hx hb hts hiX5 hown hK hP 0 gtX5_0 rfl 0 (by decide) hf10 (fun _ h9 => h9) rfl dX5_count_20 ?_
    refine lv_iload_n hx hb dX5_count_23 rfl (lv_at hl 1 rfl) ?_
    replace hF := bnd_some hF
    obtain ⟨z3, hz_3, hF⟩ := hF
    refine krI (kV (As := [.int a1]) ⟨hx, hb, hml, hown, hts⟩ (kX0_tell l D cy sa (fun i => h (i + 1)) m_day m_coins m_felts m_made m_worth m_rags m_water m_pulp m_beat m_sort m_nM m_mark m_size m_worn m_nT m_skill m_vat m_pair m_nQ m_allS m_pmark m_pgrade m_psheets m_loft a1 z3 hz_3 _) (cwV 1 hts gX5_count_X0_tell rfl rfl rfl (by decide +kernel) ⟨Nat.le_of_ble_eq_true rfl, Nat.le_of_ble_eq_true rfl⟩) hK hP hD hS hA hG [1, 2, 3, 4, 5, 6, 7, 8, 9, 10, 11, 12, 13, 14, 15, 16, 17, 18, 19, 20] hcX5_X0_1 ndX0_1 gtX0_0 rfl rfl rfl hl.1 [] rfl (Nat.le_of_ble_eq_true rfl) dX5_count_24 ⟨(Nat.le_of_ble_eq_true rfl), (Nat.le_of_ble_eq_true rfl)⟩) hP hD hS hA [1, 2, 3, 4, 5, 6, 7, 8, 9, 10, 11, 12, 13, 14, 15, 16, 17, 18, 19, 20] hcX5_X0_1 (fun H locs hP hS => ?_)
    cases hF
    exact hQ _ _ _ _ _ _ (fun _ => 0) dX5_count_27 hP hD hS (Nat.le_of_ble_eq_true rfl) (Nat.le_of_ble_eq_true rfl)
  · replace hF := if_t hF c_2
    cases hF
abbrev rX5_countx : Room := { frames := 6, cells := 1, slots := 6, locals := 98 }
set_option maxHeartbeats 4000000 in
set_option maxRecDepth 100000 in
theorem kX5_countx (l : Launch) (D : va_G) (cy : Nat → ClassId) (sa : SAT) (h : Nat → Nat) (m_day : Int32) (m_coins : Int32) (m_felts : Int32) (m_made : Int32) (m_worth : Int32) (m_rags : FN) (m_water : FN) (m_pulp : FN) (m_beat : FN) (m_sort : FN) (m_nM : Int32) (m_mark : FN) (m_size : FN) (m_worn : FN) (m_nT : Int32) (m_skill : FN) (m_vat : FN) (m_pair : FN) (m_nQ : Int32) (m_allS : Int32) (m_pmark : FN) (m_pgrade : FN) (m_psheets : FN) (m_loft : FN) (t_day : Int32) (t_coins : Int32) (t_felts : Int32) (t_made : Int32) (t_worth : Int32) (t_rags : FN) (t_water : FN) (t_pulp : FN) (t_beat : FN) (t_sort : FN) (t_nM : Int32) (t_mark : FN) (t_size : FN) (t_worn : FN) (t_nT : Int32) (t_skill : FN) (t_vat : FN) (t_pair : FN) (t_nQ : Int32) (t_allS : Int32) (t_pmark : FN) (t_pgrade : FN) (t_psheets : FN) (t_loft : FN) (a1 : Int32) (hst : l.stackTraces = false) (kx : Nat) (hF : fX5_count m_day m_coins m_felts m_made m_worth m_rags m_pulp m_nQ m_allS m_loft a1 = some (.inr kx)) : KX l D (tyW cy) sa yX5_count wsX5_count rX5_countx [.ref (h 0), .int a1] (wX5 cy h m_day m_coins m_felts m_made m_worth m_rags m_water m_pulp m_beat m_sort m_nM m_mark m_size m_worn m_nT m_skill m_vat m_pair m_nQ m_allS m_pmark m_pgrade m_psheets m_loft t_day t_coins t_felts t_made t_worth t_rags t_water t_pulp t_beat t_sort t_nM t_mark t_size t_worn t_nT t_skill t_vat t_pair t_nQ t_allS t_pmark t_pgrade t_psheets t_loft) (exN kx) 1 6 := by
  refine KX.of (cc := cX5_count) (maxL := 2) (ret := (some .int)) hst (by decide) rfl (Nat.le_of_ble_eq_true rfl) (Nat.le_of_ble_eq_true rfl) (Nat.le_of_ble_eq_true rfl) (Nat.le_refl _) (Nat.le_refl _) ?_
  intro p e s m args below meth c A ls Q hE hQ
  obtain ⟨hx, hb, hml, hown, hts, hA, hP, hK, hD, hG, hl, hnm⟩ := hE
  replace hown : s.vm.findClass RX5 = some m.cls := hown
  have hiX5 : ∀ w ∈ u_ws RX5 TX5 2, w ∈ wsX5_count := by decide +kernel
  have hf10 : (Cond.fieldLink RX5 10 "RagVats" "mill" "LRagVats$Mill;").before args s = true := hts _ (by decide +kernel)
  have hat27 : ∀ w ∈ vx_atS RX5 27 "java/lang/IndexOutOfBoundsException" exNames, w.before args s = true := vx_hat (B := [.castable "java/lang/IndexOutOfBoundsException" "java/lang/IndexOutOfBoundsException", .declares (Bundle.initS "java/lang/RuntimeException"), .declares (Bundle.initS "java/lang/Exception"), .declares (Bundle.initS "java/lang/Throwable")]) (fun w h => hts w ((by decide +kernel : ∀ w ∈ (vx_atS RX5 27 "java/lang/IndexOutOfBoundsException" exNames).filter goodWord, w ∈ wsX5_count) w h)) (by decide +kernel) (vx_c (va_Nw.use rfl (hG.1.1 _ (by decide +kernel))) (vx_c (va_Nw.use rfl (hG.1.1 _ (by decide +kernel))) (vx_c (va_Nw.use rfl (hG.1.1 _ (by decide +kernel))) (vx_c (va_Nw.use rfl (hG.1.1 _ (by decide +kernel))) vx_n))))
  replace hl : lv_has ls 2 [(0, .ref (h 0)), (1, .int a1)] := hl
  have hS : va_S A s.heap s.heap [] := va_S.rf
  unfold fX5_count at hF
  refine lv_iload_n hx hb dX5_count_0 rfl (lv_at hl 1 rfl) ?_
  refine lv_bipush (v := 12) hx hb dX5_count_1 (by decide) ?_
  replace hF := bnd_some hF
  obtain ⟨z1, hz_1, hF⟩ := hF
  refine krI (kS (As := [.int a1, .int 12]) ⟨hx, hb, hml, hown, hts⟩ (kX5_isBelow l D cy sa a1 12 z1 hz_1 _) (cwS 2 hts gX5_count_X5_isBelow rfl rfl rfl (by decide +kernel) ⟨Nat.le_of_ble_eq_true rfl, Nat.le_of_ble_eq_true rfl⟩) hK hP hD hS hA hG [] rfl rfl rfl hl.1 [] rfl (Nat.le_of_ble_eq_true rfl) dX5_count_3 ⟨(Nat.le_of_ble_eq_true rfl), (Nat.le_of_ble_eq_true rfl)⟩) hP hD hS hA [] rfl (fun H locs hP hS => ?_)
  refine lv_if_ne (tgt := 19) hx hb dX5_count_6 (by decide) (fun c_2 => ?_) (fun c_2 => ?_)
  · replace hF := if_f hF c_2
    refine lv_aload_n hx hb dX5_count_19 rfl (lv_at hl 0 rfl) ?_
    refine va_get (D := D) (C := RX5) (T := TX5) (N := 2) hx hb hts hiX5 hown hK hP 0 gtX5_0 rfl 0 (by decide) hf10 (fun _ h9 => h9) rfl dX5_count_20 ?_
    refine lv_iload_n hx hb dX5_count_23 rfl (lv_at hl 1 rfl) ?_
    replace hF := bnd_some hF
    obtain ⟨z3, hz_3, hF⟩ := hF
    refine krI (kV (As := [.int a1]) ⟨hx, hb, hml, hown, hts⟩ (kX0_tell l D cy sa (fun i => h (i + 1)) m_day m_coins m_felts m_made m_worth m_rags m_water m_pulp m_beat m_sort m_nM m_mark m_size m_worn m_nT m_skill m_vat m_pair m_nQ m_allS m_pmark m_pgrade m_psheets m_loft a1 z3 hz_3 _) (cwV 1 hts gX5_count_X0_tell rfl rfl rfl (by decide +kernel) ⟨Nat.le_of_ble_eq_true rfl, Nat.le_of_ble_eq_true rfl⟩) hK hP hD hS hA hG [1, 2, 3, 4, 5, 6, 7, 8, 9, 10, 11, 12, 13, 14, 15, 16, 17, 18, 19, 20] hcX5_X0_1 ndX0_1 gtX0_0 rfl rfl rfl hl.1 [] rfl (Nat.le_of_ble_eq_true rfl) dX5_count_24 ⟨(Nat.le_of_ble_eq_true rfl), (Nat.le_of_ble_eq_true rfl)⟩) hP hD hS hA [1, 2, 3, 4, 5, 6, 7, 8, 9, 10, 11, 12, 13, 14, 15, 16, 17, 18, 19, 20] hcX5_X0_1 (fun H locs hP hS => ?_)
    cases hF
  · replace hF := if_t hF c_2
    cases hF
    exact hQ _ _ _ _ _ 23 200 27 _ _ "what is not 0 to 11" dX5_count_9 dX5_count_12 dX5_count_13 dX5_count_15 dX5_count_18 (hts _ (by decide +kernel)) (hts _ (by decide +kernel)) (by decide +kernel) hat27 ⟨by decide +kernel, by decide +kernel⟩ hP hD hS hl.1 (Nat.le_of_ble_eq_true rfl) (Nat.le_of_ble_eq_true rfl) (Nat.le_of_ble_eq_true rfl)

def fX5_pass (m_day : Int32) (m_felts : Int32) (m_made : Int32) (m_worth : Int32) (m_water : FN) (m_pulp : FN) (m_beat : FN) (m_sort : FN) (m_nM : Int32) (m_mark : FN) (m_size : FN) (m_worn : FN) (m_nT : Int32) (m_skill : FN) (m_vat : FN) (m_pair : FN) (m_nQ : Int32) (m_allS : Int32) (m_pmark : FN) (m_pgrade : FN) (m_psheets : FN) (m_loft : FN) (a1 : Int32) : Option ((Int32 × Int32 × Int32 × Int32 × FN × FN × FN × FN × Int32 × Int32 × FN × FN × FN × FN) ⊕ Nat) := (fX5_isFrom1To a1 40).bind fun z1 => if z1 = 0 then some (.inr 1) else (fX0_liveDays m_day m_felts m_made m_worth m_water m_pulp m_beat m_sort m_nM m_mark m_size m_worn m_nT m_skill m_vat m_pair m_nQ m_allS m_pmark m_pgrade m_psheets m_loft a1).bind fun z3 => some (.inl (z3.2.1 - m_made, z3.1, z3.2.1, z3.2.2.1, z3.2.2.2.1, z3.2.2.2.2.1, z3.2.2.2.2.2.1, z3.2.2.2.2.2.2.1, z3.2.2.2.2.2.2.2.1, z3.2.2.2.2.2.2.2.2.1, z3.2.2.2.2.2.2.2.2.2.1, z3.2.2.2.2.2.2.2.2.2.2.1, z3.2.2.2.2.2.2.2.2.2.2.2.1, z3.2.2.2.2.2.2.2.2.2.2.2.2))
abbrev rX5_pass : Room := { frames := 6, cells := 0, slots := 0, locals := 135 }
set_option maxHeartbeats 4000000 in
set_option maxRecDepth 100000 in
theorem kX5_pass (l : Launch) (D : va_G) (cy : Nat → ClassId) (sa : SAT) (h : Nat → Nat) (m_day : Int32) (m_coins : Int32) (m_felts : Int32) (m_made : Int32) (m_worth : Int32) (m_rags : FN) (m_water : FN) (m_pulp : FN) (m_beat : FN) (m_sort : FN) (m_nM : Int32) (m_mark : FN) (m_size : FN) (m_worn : FN) (m_nT : Int32) (m_skill : FN) (m_vat : FN) (m_pair : FN) (m_nQ : Int32) (m_allS : Int32) (m_pmark : FN) (m_pgrade : FN) (m_psheets : FN) (m_loft : FN) (t_day : Int32) (t_coins : Int32) (t_felts : Int32) (t_made : Int32) (t_worth : Int32) (t_rags : FN) (t_water : FN) (t_pulp : FN) (t_beat : FN) (t_sort : FN) (t_nM : Int32) (t_mark : FN) (t_size : FN) (t_worn : FN) (t_nT : Int32) (t_skill : FN) (t_vat : FN) (t_pair : FN) (t_nQ : Int32) (t_allS : Int32) (t_pmark : FN) (t_pgrade : FN) (t_psheets : FN) (t_loft : FN) (a1 : Int32) (z : Int32 × Int32 × Int32 × Int32 × FN × FN × FN × FN × Int32 × Int32 × FN × FN × FN × FN) (hF : fX5_pass m_day m_felts m_made m_worth m_water m_pulp m_beat m_sort m_nM m_mark m_size m_worn m_nT m_skill m_vat m_pair m_nQ m_allS m_pmark m_pgrade m_psheets m_loft a1 = some (.inl z)) : KI l D (tyW cy) sa yX5_pass wsX5_pass rX5_pass [.ref (h 0), .int a1] (wX5 cy h m_day m_coins m_felts m_made m_worth m_rags m_water m_pulp m_beat m_sort m_nM m_mark m_size m_worn m_nT m_skill m_vat m_pair m_nQ m_allS m_pmark m_pgrade m_psheets m_loft t_day t_coins t_felts t_made t_worth t_rags t_water t_pulp t_beat t_sort t_nM t_mark t_size t_worn t_nT t_skill t_vat t_pair t_nQ t_allS t_pmark t_pgrade t_psheets t_loft) z.1 (fun _ => wX5 cy h z.2.1 m_coins m_felts z.2.2.1 z.2.2.2.1 m_rags m_water z.2.2.2.2.1 z.2.2.2.2.2.1 z.2.2.2.2.2.2.1 m_nM m_mark m_size z.2.2.2.2.2.2.2.1 m_nT m_skill m_vat m_pair z.2.2.2.2.2.2.2.2.1 z.2.2.2.2.2.2.2.2.2.1 z.2.2.2.2.2.2.2.2.2.2.1 z.2.2.2.2.2.2.2.2.2.2.2.1 z.2.2.2.2.2.2.2.2.2.2.2.2.1 z.2.2.2.2.2.2.2.2.2.2.2.2.2 t_day t_coins t_felts t_made t_worth t_rags t_water t_pulp t_beat t_sort t_nM t_mark t_size t_worn t_nT t_skill t_vat t_pair t_nQ t_allS t_pmark t_pgrade t_psheets t_loft) 0 0 := by
  refine KI.of (cc := cX5_pass) (maxL := 3) (by decide +kernel) rfl (Nat.le_of_ble_eq_true rfl) ?_
  intro p e s m args below meth c A ls Q hE hQ
  obtain ⟨hx, hb, hml, hown, hts, hA, hP, hK, hD, hG, hl, hnm⟩ := hE
  replace hown : s.vm.findClass RX5 = some m.cls := hown
  have hiX0 : ∀ w ∈ u_ws RX0 TX0 12, w ∈ wsX5_pass := by decide +kernel
  have hiX5 : ∀ w ∈ u_ws RX5 TX5 2, w ∈ wsX5_pass := by decide +kernel
  have hf10 : (Cond.fieldLink RX5 10 "RagVats" "mill" "LRagVats$Mill;").before args s = true := hts _ (by decide +kernel)
  have hn206 : (Cond.fieldLinkNest RX5 206 "RagVats$Mill" "made" "I" "RagVats").before args s = true := va_Nw.use rfl (hG.1.1 _ (by decide +kernel))
  replace hl : lv_has ls 3 [(0, .ref (h 0)), (1, .int a1)] := hl
  have hS : va_S A s.heap s.heap [] := va_S.rf
  unfold fX5_pass at hF
  refine lv_iload_n hx hb dX5_pass_0 rfl (lv_at hl 1 rfl) ?_
  refine lv_bipush (v := 40) hx hb dX5_pass_1 (by decide) ?_
  replace hF := bnd_some hF
  obtain ⟨z1, hz_1, hF⟩ := hF
  refine krI (kS (As := [.int a1, .int 40]) ⟨hx, hb, hml, hown, hts⟩ (kX5_isFrom1To l D cy sa a1 40 z1 hz_1 _) (cwS 2 hts gX5_pass_X5_isFrom1To rfl rfl rfl (by decide +kernel) ⟨Nat.le_of_ble_eq_true rfl, Nat.le_of_ble_eq_true rfl⟩) hK hP hD hS hA hG [] rfl rfl rfl hl.1 [] rfl (Nat.le_of_ble_eq_true rfl) dX5_pass_3 ⟨(Nat.le_of_ble_eq_true rfl), (Nat.le_of_ble_eq_true rfl)⟩) hP hD hS hA [] rfl (fun H locs hP hS => ?_)
  refine lv_if_ne (tgt := 19) hx hb dX5_pass_6 (by decide) (fun c_2 => ?_) (fun c_2 => ?_)
  · replace hF := if_f hF c_2
    refine lv_aload_n hx hb dX5_pass_19 rfl (lv_at hl 0 rfl) ?_
    refine va_get (D := D) (C := RX5) (T := TX5) (N := 2) hx hb hts hiX5 hown hK hP 0 gtX5_0 rfl 0 (by decide) hf10 (fun _ h9 => h9) rfl dX5_pass_20 ?_
    refine va_getN (host := "RagVats") (D := D) (C := RX0) (T := TX0) (N := 12) hx hb hts hiX0 hown hK hP 1 gtX5_1 rfl 3 (by decide) hn206 (fun _ h9 => h9) rfl dX5_pass_23 ?_
    refine lv_istore_n (lv' := [(2, .int m_made), (0, .ref (h 0)), (1, .int a1)]) hx hb dX5_pass_26 rfl hl (by decide) rfl (fun ls hl => ?_)
    refine lv_aload_n hx hb dX5_pass_27 rfl (lv_at hl 1 rfl) ?_
    refine va_get (D := D) (C := RX5) (T := TX5) (N := 2) hx hb hts hiX5 hown hK hP 0 gtX5_0 rfl 0 (by decide) hf10 (fun _ h9 => h9) rfl dX5_pass_28 ?_
    refine lv_iload_n hx hb dX5_pass_31 rfl (lv_at hl 2 rfl) ?_
    replace hF := bnd_some hF
    obtain ⟨z3, hz_3, hF⟩ := hF
    refine kwVE (kV (As := [.int a1]) ⟨hx, hb, hml, hown, hts⟩ (kX0_liveDays l D cy sa (fun i => h (i + 1)) m_day m_coins m_felts m_made m_worth m_rags m_water m_pulp m_beat m_sort m_nM m_mark m_size m_worn m_nT m_skill m_vat m_pair m_nQ m_allS m_pmark m_pgrade m_psheets m_loft a1 z3 hz_3 _) (cwV 1 hts gX5_pass_X0_liveDays rfl rfl rfl (by decide +kernel) ⟨Nat.le_of_ble_eq_true rfl, Nat.le_of_ble_eq_true rfl⟩) hK hP hD hS hA hG [1, 2, 3, 4, 5, 6, 7, 8, 9, 10, 11, 12, 13, 14, 15, 16, 17, 18, 19, 20] hcX5_X0_1 ndX0_1 gtX0_0 rfl rfl rfl hl.1 [] rfl (Nat.le_of_ble_eq_true rfl) dX5_pass_32 ⟨(Nat.le_of_ble_eq_true rfl), (Nat.le_of_ble_eq_true rfl)⟩) hP hD hS hA [1, 2, 3, 4, 5, 6, 7, 8, 9, 10, 11, 12, 13, 14, 15, 16, 17, 18, 19, 20] hcX5_X0_1 hmX0 kpX5_X0_1 (fun H locs hP hD hS => ?_)
    refine lv_aload_n hx hb dX5_pass_35 rfl (lv_at hl 1 rfl) ?_
    refine va_get (D := D) (C := RX5) (T := TX5) (N := 2) hx hb hts hiX5 hown hK hP 0 gtX5_0 rfl 0 (by decide) hf10 (fun _ h9 => h9) rfl dX5_pass_36 ?_
    refine va_getN (host := "RagVats") (D := D) (C := RX0) (T := TX0) (N := 12) hx hb hts hiX0 hown hK hP 1 gtX5_1 rfl 3 (by decide) hn206 (fun _ h9 => h9) rfl dX5_pass_39 ?_
    refine lv_iload_n hx hb dX5_pass_42 rfl (lv_at hl 0 rfl) ?_
    refine lv_isub hx hb dX5_pass_43 ?_
    cases hF
    exact hQ _ _ _ _ _ _ (fun _ => 0) dX5_pass_44 hP hD hS (Nat.le_of_ble_eq_true rfl) (Nat.le_of_ble_eq_true rfl)
  · replace hF := if_t hF c_2
    cases hF
abbrev rX5_passx : Room := { frames := 6, cells := 1, slots := 6, locals := 135 }
set_option maxHeartbeats 4000000 in
set_option maxRecDepth 100000 in
theorem kX5_passx (l : Launch) (D : va_G) (cy : Nat → ClassId) (sa : SAT) (h : Nat → Nat) (m_day : Int32) (m_coins : Int32) (m_felts : Int32) (m_made : Int32) (m_worth : Int32) (m_rags : FN) (m_water : FN) (m_pulp : FN) (m_beat : FN) (m_sort : FN) (m_nM : Int32) (m_mark : FN) (m_size : FN) (m_worn : FN) (m_nT : Int32) (m_skill : FN) (m_vat : FN) (m_pair : FN) (m_nQ : Int32) (m_allS : Int32) (m_pmark : FN) (m_pgrade : FN) (m_psheets : FN) (m_loft : FN) (t_day : Int32) (t_coins : Int32) (t_felts : Int32) (t_made : Int32) (t_worth : Int32) (t_rags : FN) (t_water : FN) (t_pulp : FN) (t_beat : FN) (t_sort : FN) (t_nM : Int32) (t_mark : FN) (t_size : FN) (t_worn : FN) (t_nT : Int32) (t_skill : FN) (t_vat : FN) (t_pair : FN) (t_nQ : Int32) (t_allS : Int32) (t_pmark : FN) (t_pgrade : FN) (t_psheets : FN) (t_loft : FN) (a1 : Int32) (hst : l.stackTraces = false) (kx : Nat) (hF : fX5_pass m_day m_felts m_made m_worth m_water m_pulp m_beat m_sort m_nM m_mark m_size m_worn m_nT m_skill m_vat m_pair m_nQ m_allS m_pmark m_pgrade m_psheets m_loft a1 = some (.inr kx)) : KX l D (tyW cy) sa yX5_pass wsX5_pass rX5_passx [.ref (h 0), .int a1] (wX5 cy h m_day m_coins m_felts m_made m_worth m_rags m_water m_pulp m_beat m_sort m_nM m_mark m_size m_worn m_nT m_skill m_vat m_pair m_nQ m_allS m_pmark m_pgrade m_psheets m_loft t_day t_coins t_felts t_made t_worth t_rags t_water t_pulp t_beat t_sort t_nM t_mark t_size t_worn t_nT t_skill t_vat t_pair t_nQ t_allS t_pmark t_pgrade t_psheets t_loft) (exN kx) 1 6 := by
  refine KX.of (cc := cX5_pass) (maxL := 3) (ret := (some .int)) hst (by decide) rfl (Nat.le_of_ble_eq_true rfl) (Nat.le_of_ble_eq_true rfl) (Nat.le_of_ble_eq_true rfl) (Nat.le_refl _) (Nat.le_refl _) ?_
  intro p e s m args below meth c A ls Q hE hQ
  obtain ⟨hx, hb, hml, hown, hts, hA, hP, hK, hD, hG, hl, hnm⟩ := hE
  replace hown : s.vm.findClass RX5 = some m.cls := hown
  have hiX0 : ∀ w ∈ u_ws RX0 TX0 12, w ∈ wsX5_pass := by decide +kernel
  have hiX5 : ∀ w ∈ u_ws RX5 TX5 2, w ∈ wsX5_pass := by decide +kernel
  have hf10 : (Cond.fieldLink RX5 10 "RagVats" "mill" "LRagVats$Mill;").before args s = true := hts _ (by decide +kernel)
  have hn206 : (Cond.fieldLinkNest RX5 206 "RagVats$Mill" "made" "I" "RagVats").before args s = true := va_Nw.use rfl (hG.1.1 _ (by decide +kernel))
  have hat37 : ∀ w ∈ vx_atS RX5 37 "java/lang/IllegalArgumentException" exNames, w.before args s = true := vx_hat (B := [.castable "java/lang/IllegalArgumentException" "java/lang/IllegalArgumentException", .declares (Bundle.initS "java/lang/RuntimeException"), .declares (Bundle.initS "java/lang/Exception"), .declares (Bundle.initS "java/lang/Throwable")]) (fun w h => hts w ((by decide +kernel : ∀ w ∈ (vx_atS RX5 37 "java/lang/IllegalArgumentException" exNames).filter goodWord, w ∈ wsX5_pass) w h)) (by decide +kernel) (vx_c (va_Nw.use rfl (hG.1.1 _ (by decide +kernel))) (vx_c (va_Nw.use rfl (hG.1.1 _ (by decide +kernel))) (vx_c (va_Nw.use rfl (hG.1.1 _ (by decide +kernel))) (vx_c (va_Nw.use rfl (hG.1.1 _ (by decide +kernel))) vx_n))))
  replace hl : lv_has ls 3 [(0, .ref (h 0)), (1, .int a1)] := hl
  have hS : va_S A s.heap s.heap [] := va_S.rf
  unfold fX5_pass at hF
  refine lv_iload_n hx hb dX5_pass_0 rfl (lv_at hl 1 rfl) ?_
  refine lv_bipush (v := 40) hx hb dX5_pass_1 (by decide) ?_
  replace hF := bnd_some hF
  obtain ⟨z1, hz_1, hF⟩ := hF
  refine krI (kS (As := [.int a1, .int 40]) ⟨hx, hb, hml, hown, hts⟩ (kX5_isFrom1To l D cy sa a1 40 z1 hz_1 _) (cwS 2 hts gX5_pass_X5_isFrom1To rfl rfl rfl (by decide +kernel) ⟨Nat.le_of_ble_eq_true rfl, Nat.le_of_ble_eq_true rfl⟩) hK hP hD hS hA hG [] rfl rfl rfl hl.1 [] rfl (Nat.le_of_ble_eq_true rfl) dX5_pass_3 ⟨(Nat.le_of_ble_eq_true rfl), (Nat.le_of_ble_eq_true rfl)⟩) hP hD hS hA [] rfl (fun H locs hP hS => ?_)
  refine lv_if_ne (tgt := 19) hx hb dX5_pass_6 (by decide) (fun c_2 => ?_) (fun c_2 => ?_)
  · replace hF := if_f hF c_2
    refine lv_aload_n hx hb dX5_pass_19 rfl (lv_at hl 0 rfl) ?_
    refine va_get (D := D) (C := RX5) (T := TX5) (N := 2) hx hb hts hiX5 hown hK hP 0 gtX5_0 rfl 0 (by decide) hf10 (fun _ h9 => h9) rfl dX5_pass_20 ?_
    refine va_getN (host := "RagVats") (D := D) (C := RX0) (T := TX0) (N := 12) hx hb hts hiX0 hown hK hP 1 gtX5_1 rfl 3 (by decide) hn206 (fun _ h9 => h9) rfl dX5_pass_23 ?_
    refine lv_istore_n (lv' := [(2, .int m_made), (0, .ref (h 0)), (1, .int a1)]) hx hb dX5_pass_26 rfl hl (by decide) rfl (fun ls hl => ?_)
    refine lv_aload_n hx hb dX5_pass_27 rfl (lv_at hl 1 rfl) ?_
    refine va_get (D := D) (C := RX5) (T := TX5) (N := 2) hx hb hts hiX5 hown hK hP 0 gtX5_0 rfl 0 (by decide) hf10 (fun _ h9 => h9) rfl dX5_pass_28 ?_
    refine lv_iload_n hx hb dX5_pass_31 rfl (lv_at hl 2 rfl) ?_
    replace hF := bnd_some hF
    obtain ⟨z3, hz_3, hF⟩ := hF
    refine kwVE (kV (As := [.int a1]) ⟨hx, hb, hml, hown, hts⟩ (kX0_liveDays l D cy sa (fun i => h (i + 1)) m_day m_coins m_felts m_made m_worth m_rags m_water m_pulp m_beat m_sort m_nM m_mark m_size m_worn m_nT m_skill m_vat m_pair m_nQ m_allS m_pmark m_pgrade m_psheets m_loft a1 z3 hz_3 _) (cwV 1 hts gX5_pass_X0_liveDays rfl rfl rfl (by decide +kernel) ⟨Nat.le_of_ble_eq_true rfl, Nat.le_of_ble_eq_true rfl⟩) hK hP hD hS hA hG [1, 2, 3, 4, 5, 6, 7, 8, 9, 10, 11, 12, 13, 14, 15, 16, 17, 18, 19, 20] hcX5_X0_1 ndX0_1 gtX0_0 rfl rfl rfl hl.1 [] rfl (Nat.le_of_ble_eq_true rfl) dX5_pass_32 ⟨(Nat.le_of_ble_eq_true rfl), (Nat.le_of_ble_eq_true rfl)⟩) hP hD hS hA [1, 2, 3, 4, 5, 6, 7, 8, 9, 10, 11, 12, 13, 14, 15, 16, 17, 18, 19, 20] hcX5_X0_1 hmX0 kpX5_X0_1 (fun H locs hP hD hS => ?_)
    refine lv_aload_n hx hb dX5_pass_35 rfl (lv_at hl 1 rfl) ?_
    refine va_get (D := D) (C := RX5) (T := TX5) (N := 2) hx hb hts hiX5 hown hK hP 0 gtX5_0 rfl 0 (by decide) hf10 (fun _ h9 => h9) rfl dX5_pass_36 ?_
    refine va_getN (host := "RagVats") (D := D) (C := RX0) (T := TX0) (N := 12) hx hb hts hiX0 hown hK hP 1 gtX5_1 rfl 3 (by decide) hn206 (fun _ h9 => h9) rfl dX5_pass_39 ?_
    refine lv_iload_n hx hb dX5_pass_42 rfl (lv_at hl 0 rfl) ?_
    refine lv_isub hx hb dX5_pass_43 ?_
    cases hF
  · replace hF := if_t hF c_2
    cases hF
    exact hQ _ _ _ _ _ 33 204 37 _ _ "days is not 1 to 40" dX5_pass_9 dX5_pass_12 dX5_pass_13 dX5_pass_15 dX5_pass_18 (hts _ (by decide +kernel)) (hts _ (by decide +kernel)) (by decide +kernel) hat37 ⟨by decide +kernel, by decide +kernel⟩ hP hD hS hl.1 (Nat.le_of_ble_eq_true rfl) (Nat.le_of_ble_eq_true rfl) (Nat.le_of_ble_eq_true rfl)

def fX5_ripe_L50 (a1 : Int32) (a2 : Int32) : Nat → Int32 → Int32 → Int32 → Int32 → Int32 → FN → FN → FN → FN → FN → Int32 → FN → FN → FN → Int32 → FN → FN → FN → Int32 → Int32 → FN → FN → FN → FN → Int32 → Option ((Int32 × Int32 × Int32 × Int32 × Int32 × Int32 × FN × FN × FN × FN × FN × Int32 × FN × FN × FN × Int32 × FN × FN × FN × Int32 × Int32 × FN × FN × FN × FN) ⊕ Nat)
  | 0, _, _, _, _, _, _, _, _, _, _, _, _, _, _, _, _, _, _, _, _, _, _, _, _, _ => none
  | k + 1, t_day_50, t_coins_50, t_felts_50, t_made_50, t_worth_50, t_rags_50, t_water_50, t_pulp_50, t_beat_50, t_sort_50, t_nM_50, t_mark_50, t_size_50, t_worn_50, t_nT_50, t_skill_50, t_vat_50, t_pair_50, t_nQ_50, t_allS_50, t_pmark_50, t_pgrade_50, t_psheets_50, t_loft_50, x3_50 => if 60 < x3_50 then some (.inl ((-1), t_day_50, t_coins_50, t_felts_50, t_made_50, t_worth_50, t_rags_50, t_water_50, t_pulp_50, t_beat_50, t_sort_50, t_nM_50, t_mark_50, t_size_50, t_worn_50, t_nT_50, t_skill_50, t_vat_50, t_pair_50, t_nQ_50, t_allS_50, t_pmark_50, t_pgrade_50, t_psheets_50, t_loft_50)) else (fX4_beatOf t_beat_50 a1).bind fun z7 => if z7 < a2 then (fX0_liveDay t_day_50 t_felts_50 t_made_50 t_worth_50 t_water_50 t_pulp_50 t_beat_50 t_sort_50 t_nM_50 t_mark_50 t_size_50 t_worn_50 t_nT_50 t_skill_50 t_vat_50 t_pair_50 t_nQ_50 t_allS_50 t_pmark_50 t_pgrade_50 t_psheets_50 t_loft_50).bind fun z9 => fX5_ripe_L50 a1 a2 k z9.1 t_coins_50 t_felts_50 z9.2.1 z9.2.2.1 t_rags_50 t_water_50 z9.2.2.2.1 z9.2.2.2.2.1 z9.2.2.2.2.2.1 t_nM_50 t_mark_50 t_size_50 z9.2.2.2.2.2.2.1 t_nT_50 t_skill_50 t_vat_50 t_pair_50 z9.2.2.2.2.2.2.2.1 z9.2.2.2.2.2.2.2.2.1 z9.2.2.2.2.2.2.2.2.2.1 z9.2.2.2.2.2.2.2.2.2.2.1 z9.2.2.2.2.2.2.2.2.2.2.2.1 z9.2.2.2.2.2.2.2.2.2.2.2.2 (x3_50 + 1) else some (.inl (x3_50, t_day_50, t_coins_50, t_felts_50, t_made_50, t_worth_50, t_rags_50, t_water_50, t_pulp_50, t_beat_50, t_sort_50, t_nM_50, t_mark_50, t_size_50, t_worn_50, t_nT_50, t_skill_50, t_vat_50, t_pair_50, t_nQ_50, t_allS_50, t_pmark_50, t_pgrade_50, t_psheets_50, t_loft_50))
def fX5_ripe (m_day : Int32) (m_coins : Int32) (m_felts : Int32) (m_made : Int32) (m_worth : Int32) (m_rags : FN) (m_water : FN) (m_pulp : FN) (m_beat : FN) (m_sort : FN) (m_nM : Int32) (m_mark : FN) (m_size : FN) (m_worn : FN) (m_nT : Int32) (m_skill : FN) (m_vat : FN) (m_pair : FN) (m_nQ : Int32) (m_allS : Int32) (m_pmark : FN) (m_pgrade : FN) (m_psheets : FN) (m_loft : FN) (a1 : Int32) (a2 : Int32) : Option ((Int32 × Int32 × Int32 × Int32 × Int32 × Int32 × FN × FN × FN × FN × FN × Int32 × FN × FN × FN × Int32 × FN × FN × FN × Int32 × Int32 × FN × FN × FN × FN) ⊕ Nat) := (fX5_isBelow a1 4).bind fun z1 => if z1 = 0 then some (.inr 0) else (fX5_isFrom1To a2 99).bind fun z3 => if z3 = 0 then some (.inr 1) else (fX0_becomeLike m_day m_coins m_felts m_made m_worth m_rags m_water m_pulp m_beat m_sort m_nM m_mark m_size m_worn m_nT m_skill m_vat m_pair m_nQ m_allS m_pmark m_pgrade m_psheets m_loft).bind fun z5 => fX5_ripe_L50 a1 a2 300 z5.1 z5.2.1 z5.2.2.1 z5.2.2.2.1 z5.2.2.2.2.1 z5.2.2.2.2.2.1 z5.2.2.2.2.2.2.1 z5.2.2.2.2.2.2.2.1 z5.2.2.2.2.2.2.2.2.1 z5.2.2.2.2.2.2.2.2.2.1 z5.2.2.2.2.2.2.2.2.2.2.1 z5.2.2.2.2.2.2.2.2.2.2.2.1 z5.2.2.2.2.2.2.2.2.2.2.2.2.1 z5.2.2.2.2.2.2.2.2.2.2.2.2.2.1 z5.2.2.2.2.2.2.2.2.2.2.2.2.2.2.1 z5.2.2.2.2.2.2.2.2.2.2.2.2.2.2.2.1 z5.2.2.2.2.2.2.2.2.2.2.2.2.2.2.2.2.1 z5.2.2.2.2.2.2.2.2.2.2.2.2.2.2.2.2.2.1 z5.2.2.2.2.2.2.2.2.2.2.2.2.2.2.2.2.2.2.1 z5.2.2.2.2.2.2.2.2.2.2.2.2.2.2.2.2.2.2.2.1 z5.2.2.2.2.2.2.2.2.2.2.2.2.2.2.2.2.2.2.2.2.1 z5.2.2.2.2.2.2.2.2.2.2.2.2.2.2.2.2.2.2.2.2.2.1 z5.2.2.2.2.2.2.2.2.2.2.2.2.2.2.2.2.2.2.2.2.2.2.1 z5.2.2.2.2.2.2.2.2.2.2.2.2.2.2.2.2.2.2.2.2.2.2.2 0
abbrev rX5_ripe : Room := { frames := 5, cells := 0, slots := 0, locals := 113 }
set_option maxHeartbeats 4000000 in
set_option maxRecDepth 100000 in
theorem kX5_ripe (l : Launch) (D : va_G) (cy : Nat → ClassId) (sa : SAT) (h : Nat → Nat) (m_day : Int32) (m_coins : Int32) (m_felts : Int32) (m_made : Int32) (m_worth : Int32) (m_rags : FN) (m_water : FN) (m_pulp : FN) (m_beat : FN) (m_sort : FN) (m_nM : Int32) (m_mark : FN) (m_size : FN) (m_worn : FN) (m_nT : Int32) (m_skill : FN) (m_vat : FN) (m_pair : FN) (m_nQ : Int32) (m_allS : Int32) (m_pmark : FN) (m_pgrade : FN) (m_psheets : FN) (m_loft : FN) (t_day : Int32) (t_coins : Int32) (t_felts : Int32) (t_made : Int32) (t_worth : Int32) (t_rags : FN) (t_water : FN) (t_pulp : FN) (t_beat : FN) (t_sort : FN) (t_nM : Int32) (t_mark : FN) (t_size : FN) (t_worn : FN) (t_nT : Int32) (t_skill : FN) (t_vat : FN) (t_pair : FN) (t_nQ : Int32) (t_allS : Int32) (t_pmark : FN) (t_pgrade : FN) (t_psheets : FN) (t_loft : FN) (a1 : Int32) (a2 : Int32) (z : Int32 × Int32 × Int32 × Int32 × Int32 × Int32 × FN × FN × FN × FN × FN × Int32 × FN × FN × FN × Int32 × FN × FN × FN × Int32 × Int32 × FN × FN × FN × FN) (hF : fX5_ripe m_day m_coins m_felts m_made m_worth m_rags m_water m_pulp m_beat m_sort m_nM m_mark m_size m_worn m_nT m_skill m_vat m_pair m_nQ m_allS m_pmark m_pgrade m_psheets m_loft a1 a2 = some (.inl z)) : KI l D (tyW cy) sa yX5_ripe wsX5_ripe rX5_ripe [.ref (h 0), .int a1, .int a2] (wX5 cy h m_day m_coins m_felts m_made m_worth m_rags m_water m_pulp m_beat m_sort m_nM m_mark m_size m_worn m_nT m_skill m_vat m_pair m_nQ m_allS m_pmark m_pgrade m_psheets m_loft t_day t_coins t_felts t_made t_worth t_rags t_water t_pulp t_beat t_sort t_nM t_mark t_size t_worn t_nT t_skill t_vat t_pair t_nQ t_allS t_pmark t_pgrade t_psheets t_loft) z.1 (fun _ => wX5 cy h m_day m_coins m_felts m_made m_worth m_rags m_water m_pulp m_beat m_sort m_nM m_mark m_size m_worn m_nT m_skill m_vat m_pair m_nQ m_allS m_pmark m_pgrade m_psheets m_loft z.2.1 z.2.2.1 z.2.2.2.1 z.2.2.2.2.1 z.2.2.2.2.2.1 z.2.2.2.2.2.2.1 z.2.2.2.2.2.2.2.1 z.2.2.2.2.2.2.2.2.1 z.2.2.2.2.2.2.2.2.2.1 z.2.2.2.2.2.2.2.2.2.2.1 z.2.2.2.2.2.2.2.2.2.2.2.1 z.2.2.2.2.2.2.2.2.2.2.2.2.1 z.2.2.2.2.2.2.2.2.2.2.2.2.2.1 z.2.2.2.2.2.2.2.2.2.2.2.2.2.2.1 z.2.2.2.2.2.2.2.2.2.2.2.2.2.2.2.1 z.2.2.2.2.2.2.2.2.2.2.2.2.2.2.2.2.1 z.2.2.2.2.2.2.2.2.2.2.2.2.2.2.2.2.2.1 z.2.2.2.2.2.2.2.2.2.2.2.2.2.2.2.2.2.2.1 z.2.2.2.2.2.2.2.2.2.2.2.2.2.2.2.2.2.2.2.1 z.2.2.2.2.2.2.2.2.2.2.2.2.2.2.2.2.2.2.2.2.1 z.2.2.2.2.2.2.2.2.2.2.2.2.2.2.2.2.2.2.2.2.2.1 z.2.2.2.2.2.2.2.2.2.2.2.2.2.2.2.2.2.2.2.2.2.2.1 z.2.2.2.2.2.2.2.2.2.2.2.2.2.2.2.2.2.2.2.2.2.2.2.1 z.2.2.2.2.2.2.2.2.2.2.2.2.2.2.2.2.2.2.2.2.2.2.2.2) 0 0 := by
  refine KI.of (cc := cX5_ripe) (maxL := 4) (by decide +kernel) rfl (Nat.le_of_ble_eq_true rfl) ?_
  intro p e s m args below meth c A ls Q hE hQ
  obtain ⟨hx, hb, hml, hown, hts, hA, hP, hK, hD, hG, hl, hnm⟩ := hE
  replace hown : s.vm.findClass RX5 = some m.cls := hown
  have hiX0 : ∀ w ∈ u_ws RX0 TX0 12, w ∈ wsX5_ripe := by decide +kernel
  have hiX5 : ∀ w ∈ u_ws RX5 TX5 2, w ∈ wsX5_ripe := by decide +kernel
  have hf10 : (Cond.fieldLink RX5 10 "RagVats" "mill" "LRagVats$Mill;").before args s = true := hts _ (by decide +kernel)
  have hf16 : (Cond.fieldLink RX5 16 "RagVats" "trial" "LRagVats$Mill;").before args s = true := hts _ (by decide +kernel)
  have hn81 : (Cond.fieldLinkNest RX5 81 "RagVats$Mill" "vats" "LRagVats$Vats;" "RagVats").before args s = true := va_Nw.use rfl (hG.1.1 _ (by decide +kernel))
  replace hl : lv_has ls 4 [(0, .ref (h 0)), (1, .int a1), (2, .int a2)] := hl
  have hS : va_S A s.heap s.heap [] := va_S.rf
  have L50 : ∀ (k : Nat) (t_day_50 : Int32) (t_coins_50 : Int32) (t_felts_50 : Int32) (t_made_50 : Int32) (t_worth_50 : Int32) (t_rags_50 : FN) (t_water_50 : FN) (t_pulp_50 : FN) (t_beat_50 : FN) (t_sort_50 : FN) (t_nM_50 : Int32) (t_mark_50 : FN) (t_size_50 : FN) (t_worn_50 : FN) (t_nT_50 : Int32) (t_skill_50 : FN) (t_vat_50 : FN) (t_pair_50 : FN) (t_nQ_50 : Int32) (t_allS_50 : Int32) (t_pmark_50 : FN) (t_pgrade_50 : FN) (t_psheets_50 : FN) (t_loft_50 : FN) (x3_50 : Int32), fX5_ripe_L50 a1 a2 k t_day_50 t_coins_50 t_felts_50 t_made_50 t_worth_50 t_rags_50 t_water_50 t_pulp_50 t_beat_50 t_sort_50 t_nM_50 t_mark_50 t_size_50 t_worn_50 t_nT_50 t_skill_50 t_vat_50 t_pair_50 t_nQ_50 t_allS_50 t_pmark_50 t_pgrade_50 t_psheets_50 t_loft_50 x3_50 = some (.inl z) → ∀ (H : Heap) (locs : List Loc) (ls : Array Slot), va_P D vwCl (wX5 cy h m_day m_coins m_felts m_made m_worth m_rags m_water m_pulp m_beat m_sort m_nM m_mark m_size m_worn m_nT m_skill m_vat m_pair m_nQ m_allS m_pmark m_pgrade m_psheets m_loft t_day_50 t_coins_50 t_felts_50 t_made_50 t_worth_50 t_rags_50 t_water_50 t_pulp_50 t_beat_50 t_sort_50 t_nM_50 t_mark_50 t_size_50 t_worn_50 t_nT_50 t_skill_50 t_vat_50 t_pair_50 t_nQ_50 t_allS_50 t_pmark_50 t_pgrade_50 t_psheets_50 t_loft_50) H → va_D A (wX5 cy h m_day m_coins m_felts m_made m_worth m_rags m_water m_pulp m_beat m_sort m_nM m_mark m_size m_worn m_nT m_skill m_vat m_pair m_nQ m_allS m_pmark m_pgrade m_psheets m_loft t_day_50 t_coins_50 t_felts_50 t_made_50 t_worth_50 t_rags_50 t_water_50 t_pulp_50 t_beat_50 t_sort_50 t_nM_50 t_mark_50 t_size_50 t_worn_50 t_nT_50 t_skill_50 t_vat_50 t_pair_50 t_nQ_50 t_allS_50 t_pmark_50 t_pgrade_50 t_psheets_50 t_loft_50) → va_S A s.heap H locs → lv_has ls 4 [(0, .ref (h 0)), (1, .int a1), (2, .int a2), (3, .int x3_50)] → W p l e rX5_ripe s m args below meth c H locs 0 0 Q (F0 m 50 ls []) := by
    intro k
    induction k with
    | zero =>
      intro t_day_50 t_coins_50 t_felts_50 t_made_50 t_worth_50 t_rags_50 t_water_50 t_pulp_50 t_beat_50 t_sort_50 t_nM_50 t_mark_50 t_size_50 t_worn_50 t_nT_50 t_skill_50 t_vat_50 t_pair_50 t_nQ_50 t_allS_50 t_pmark_50 t_pgrade_50 t_psheets_50 t_loft_50 x3_50 hF
      rw [fX5_ripe_L50] at hF
      cases hF
    | succ k ih =>
      intro t_day_50 t_coins_50 t_felts_50 t_made_50 t_worth_50 t_rags_50 t_water_50 t_pulp_50 t_beat_50 t_sort_50 t_nM_50 t_mark_50 t_size_50 t_worn_50 t_nT_50 t_skill_50 t_vat_50 t_pair_50 t_nQ_50 t_allS_50 t_pmark_50 t_pgrade_50 t_psheets_50 t_loft_50 x3_50 hF H locs ls hP hD hS hl
      rw [fX5_ripe_L50] at hF
      refine lv_iload_n hx hb dX5_ripe_50 rfl (lv_at hl 3 rfl) ?_
      refine lv_bipush (v := 60) hx hb dX5_ripe_51 (by decide) ?_
      refine lv_icmp_gt (tgt := 86) hx hb dX5_ripe_53 (by decide) (fun c_6 => ?_) (fun c_6 => ?_)
      · replace hF := if_t hF c_6
        refine lv_iconst (v := -1) hx hb dX5_ripe_86 (by decide) ?_
        cases hF
        exact hQ _ _ _ _ _ _ (fun _ => 0) dX5_ripe_87 hP hD hS (Nat.le_of_ble_eq_true rfl) (Nat.le_of_ble_eq_true rfl)
      · replace hF := if_f hF c_6
        refine lv_aload_n hx hb dX5_ripe_56 rfl (lv_at hl 0 rfl) ?_
        refine va_get (D := D) (C := RX5) (T := TX5) (N := 2) hx hb hts hiX5 hown hK hP 0 gtX5_0 rfl 1 (by decide) hf16 (fun _ h9 => h9) rfl dX5_ripe_57 ?_
        refine va_getN (host := "RagVats") (D := D) (C := RX0) (T := TX0) (N := 12) hx hb hts hiX0 hown hK hP 21 gtX5_21 rfl 7 (by decide) hn81 (fun _ h9 => h9) rfl dX5_ripe_60 ?_
        refine lv_iload_n hx hb dX5_ripe_63 rfl (lv_at hl 1 rfl) ?_
        replace hF := bnd_some hF
        obtain ⟨z7, hz_7, hF⟩ := hF
        refine krI (kV (As := [.int a1]) ⟨hx, hb, hml, hown, hts⟩ (kX4_beatOf l D cy sa (fun i => h (i + 24)) t_pulp_50 t_beat_50 t_sort_50 a1 z7 hz_7 _) (cwV 1 hts gX5_ripe_X4_beatOf rfl rfl rfl (by decide +kernel) ⟨Nat.le_of_ble_eq_true rfl, Nat.le_of_ble_eq_true rfl⟩) hK hP hD hS hA hG [24, 25, 26, 27] hcX5_X4_24 ndX4_24 gtX4_0 rfl rfl rfl hl.1 [] rfl (Nat.le_of_ble_eq_true rfl) dX5_ripe_64 ⟨(Nat.le_of_ble_eq_true rfl), (Nat.le_of_ble_eq_true rfl)⟩) hP hD hS hA [24, 25, 26, 27] hcX5_X4_24 (fun H locs hP hS => ?_)
        refine lv_iload_n hx hb dX5_ripe_67 rfl (lv_at hl 2 rfl) ?_
        refine lv_icmp_lt (tgt := 73) hx hb dX5_ripe_68 (by decide) (fun c_8 => ?_) (fun c_8 => ?_)
        · replace hF := if_t hF c_8
          refine lv_aload_n hx hb dX5_ripe_73 rfl (lv_at hl 0 rfl) ?_
          refine va_get (D := D) (C := RX5) (T := TX5) (N := 2) hx hb hts hiX5 hown hK hP 0 gtX5_0 rfl 1 (by decide) hf16 (fun _ h9 => h9) rfl dX5_ripe_74 ?_
          replace hF := bnd_some hF
          obtain ⟨z9, hz_9, hF⟩ := hF
          refine kwVE (kV (As := []) ⟨hx, hb, hml, hown, hts⟩ (kX0_liveDay l D cy sa (fun i => h (i + 21)) t_day_50 t_coins_50 t_felts_50 t_made_50 t_worth_50 t_rags_50 t_water_50 t_pulp_50 t_beat_50 t_sort_50 t_nM_50 t_mark_50 t_size_50 t_worn_50 t_nT_50 t_skill_50 t_vat_50 t_pair_50 t_nQ_50 t_allS_50 t_pmark_50 t_pgrade_50 t_psheets_50 t_loft_50 z9 hz_9 _) (cwV 0 hts gX5_ripe_X0_liveDay rfl rfl rfl (by decide +kernel) ⟨Nat.le_of_ble_eq_true rfl, Nat.le_of_ble_eq_true rfl⟩) hK hP hD hS hA hG [21, 22, 23, 24, 25, 26, 27, 28, 29, 30, 31, 32, 33, 34, 35, 36, 37, 38, 39, 40] hcX5_X0_21 ndX0_21 gtX0_0 rfl rfl rfl hl.1 [] rfl (Nat.le_of_ble_eq_true rfl) dX5_ripe_77 ⟨(Nat.le_of_ble_eq_true rfl), (Nat.le_of_ble_eq_true rfl)⟩) hP hD hS hA [21, 22, 23, 24, 25, 26, 27, 28, 29, 30, 31, 32, 33, 34, 35, 36, 37, 38, 39, 40] hcX5_X0_21 hmX0 kpX5_X0_21 (fun H locs hP hD hS => ?_)
          refine lv_iinc (v := x3_50 + 1) (lv' := [(3, .int (x3_50 + 1)), (0, .ref (h 0)), (1, .int a1), (2, .int a2)]) hx hb dX5_ripe_80 hl (k := 3) rfl rfl (by decide) rfl (fun ls hl => ?_)
          refine lv_goto (tgt := 50) hx hb dX5_ripe_83 (by decide) ?_
          exact ih  z9.1 t_coins_50 t_felts_50 z9.2.1 z9.2.2.1 t_rags_50 t_water_50 z9.2.2.2.1 z9.2.2.2.2.1 z9.2.2.2.2.2.1 t_nM_50 t_mark_50 t_size_50 z9.2.2.2.2.2.2.1 t_nT_50 t_skill_50 t_vat_50 t_pair_50 z9.2.2.2.2.2.2.2.1 z9.2.2.2.2.2.2.2.2.1 z9.2.2.2.2.2.2.2.2.2.1 z9.2.2.2.2.2.2.2.2.2.2.1 z9.2.2.2.2.2.2.2.2.2.2.2.1 z9.2.2.2.2.2.2.2.2.2.2.2.2 (x3_50 + 1)  hF _ _ _ hP hD hS (lv_sub hl [1, 2, 3, 0] rfl)
        · replace hF := if_f hF c_8
          refine lv_iload_n hx hb dX5_ripe_71 rfl (lv_at hl 3 rfl) ?_
          cases hF
          exact hQ _ _ _ _ _ _ (fun _ => 0) dX5_ripe_72 hP hD hS (Nat.le_of_ble_eq_true rfl) (Nat.le_of_ble_eq_true rfl)
  unfold fX5_ripe at hF
  refine lv_iload_n hx hb dX5_ripe_0 rfl (lv_at hl 1 rfl) ?_
  refine lv_iconst (v := 4) hx hb dX5_ripe_1 (by decide) ?_
  replace hF := bnd_some hF
  obtain ⟨z1, hz_1, hF⟩ := hF
  refine krI (kS (As := [.int a1, .int 4]) ⟨hx, hb, hml, hown, hts⟩ (kX5_isBelow l D cy sa a1 4 z1 hz_1 _) (cwS 2 hts gX5_ripe_X5_isBelow rfl rfl rfl (by decide +kernel) ⟨Nat.le_of_ble_eq_true rfl, Nat.le_of_ble_eq_true rfl⟩) hK hP hD hS hA hG [] rfl rfl rfl hl.1 [] rfl (Nat.le_of_ble_eq_true rfl) dX5_ripe_2 ⟨(Nat.le_of_ble_eq_true rfl), (Nat.le_of_ble_eq_true rfl)⟩) hP hD hS hA [] rfl (fun H locs hP hS => ?_)
  refine lv_if_ne (tgt := 18) hx hb dX5_ripe_5 (by decide) (fun c_2 => ?_) (fun c_2 => ?_)
  · replace hF := if_f hF c_2
    refine lv_iload_n hx hb dX5_ripe_18 rfl (lv_at hl 2 rfl) ?_
    refine lv_bipush (v := 99) hx hb dX5_ripe_19 (by decide) ?_
    replace hF := bnd_some hF
    obtain ⟨z3, hz_3, hF⟩ := hF
    refine krI (kS (As := [.int a2, .int 99]) ⟨hx, hb, hml, hown, hts⟩ (kX5_isFrom1To l D cy sa a2 99 z3 hz_3 _) (cwS 2 hts gX5_ripe_X5_isFrom1To rfl rfl rfl (by decide +kernel) ⟨Nat.le_of_ble_eq_true rfl, Nat.le_of_ble_eq_true rfl⟩) hK hP hD hS hA hG [] rfl rfl rfl hl.1 [] rfl (Nat.le_of_ble_eq_true rfl) dX5_ripe_21 ⟨(Nat.le_of_ble_eq_true rfl), (Nat.le_of_ble_eq_true rfl)⟩) hP hD hS hA [] rfl (fun H locs hP hS => ?_)
    refine lv_if_ne (tgt := 37) hx hb dX5_ripe_24 (by decide) (fun c_4 => ?_) (fun c_4 => ?_)
    · replace hF := if_f hF c_4
      refine lv_aload_n hx hb dX5_ripe_37 rfl (lv_at hl 0 rfl) ?_
      refine va_get (D := D) (C := RX5) (T := TX5) (N := 2) hx hb hts hiX5 hown hK hP 0 gtX5_0 rfl 1 (by decide) hf16 (fun _ h9 => h9) rfl dX5_ripe_38 ?_
      refine lv_aload_n hx hb dX5_ripe_41 rfl (lv_at hl 0 rfl) ?_
      refine va_get (D := D) (C := RX5) (T := TX5) (N := 2) hx hb hts hiX5 hown hK hP 0 gtX5_0 rfl 0 (by decide) hf10 (fun _ h9 => h9) rfl dX5_ripe_42 ?_
      replace hF := bnd_some hF
      obtain ⟨z5, hz_5, hF⟩ := hF
      refine kwVE (kV (As := [.ref (h 1)]) ⟨hx, hb, hml, hown, hts⟩ (kX0_becomeLike l D cy sa (fun i => h (i + 21)) (fun i => h (i + 1)) t_day t_coins t_felts t_made t_worth t_rags t_water t_pulp t_beat t_sort t_nM t_mark t_size t_worn t_nT t_skill t_vat t_pair t_nQ t_allS t_pmark t_pgrade t_psheets t_loft m_day m_coins m_felts m_made m_worth m_rags m_water m_pulp m_beat m_sort m_nM m_mark m_size m_worn m_nT m_skill m_vat m_pair m_nQ m_allS m_pmark m_pgrade m_psheets m_loft z5 hz_5 _) (cwV 1 hts gX5_ripe_X0_becomeLike rfl rfl rfl (by decide +kernel) ⟨Nat.le_of_ble_eq_true rfl, Nat.le_of_ble_eq_true rfl⟩) hK hP hD hS hA hG [21, 22, 23, 24, 25, 26, 27, 28, 29, 30, 31, 32, 33, 34, 35, 36, 37, 38, 39, 40, 1, 2, 3, 4, 5, 6, 7, 8, 9, 10, 11, 12, 13, 14, 15, 16, 17, 18, 19, 20] hcX5_X0X0_21_1 ndX0X0_21_1 gtX0X0_0 rfl rfl rfl hl.1 [] rfl (Nat.le_of_ble_eq_true rfl) dX5_ripe_45 ⟨(Nat.le_of_ble_eq_true rfl), (Nat.le_of_ble_eq_true rfl)⟩) hP hD hS hA [21, 22, 23, 24, 25, 26, 27, 28, 29, 30, 31, 32, 33, 34, 35, 36, 37, 38, 39, 40, 1, 2, 3, 4, 5, 6, 7, 8, 9, 10, 11, 12, 13, 14, 15, 16, 17, 18, 19, 20] hcX5_X0X0_21_1 hmX0X0 kpX5_X0X0_21_1 (fun H locs hP hD hS => ?_)
      refine lv_iconst (v := 0) hx hb dX5_ripe_48 (by decide) ?_
      refine lv_istore_n (lv' := [(3, .int 0), (0, .ref (h 0)), (1, .int a1), (2, .int a2)]) hx hb dX5_ripe_49 rfl hl (by decide) rfl (fun ls hl => ?_)
      exact L50 300 z5.1 z5.2.1 z5.2.2.1 z5.2.2.2.1 z5.2.2.2.2.1 z5.2.2.2.2.2.1 z5.2.2.2.2.2.2.1 z5.2.2.2.2.2.2.2.1 z5.2.2.2.2.2.2.2.2.1 z5.2.2.2.2.2.2.2.2.2.1 z5.2.2.2.2.2.2.2.2.2.2.1 z5.2.2.2.2.2.2.2.2.2.2.2.1 z5.2.2.2.2.2.2.2.2.2.2.2.2.1 z5.2.2.2.2.2.2.2.2.2.2.2.2.2.1 z5.2.2.2.2.2.2.2.2.2.2.2.2.2.2.1 z5.2.2.2.2.2.2.2.2.2.2.2.2.2.2.2.1 z5.2.2.2.2.2.2.2.2.2.2.2.2.2.2.2.2.1 z5.2.2.2.2.2.2.2.2.2.2.2.2.2.2.2.2.2.1 z5.2.2.2.2.2.2.2.2.2.2.2.2.2.2.2.2.2.2.1 z5.2.2.2.2.2.2.2.2.2.2.2.2.2.2.2.2.2.2.2.1 z5.2.2.2.2.2.2.2.2.2.2.2.2.2.2.2.2.2.2.2.2.1 z5.2.2.2.2.2.2.2.2.2.2.2.2.2.2.2.2.2.2.2.2.2.1 z5.2.2.2.2.2.2.2.2.2.2.2.2.2.2.2.2.2.2.2.2.2.2.1 z5.2.2.2.2.2.2.2.2.2.2.2.2.2.2.2.2.2.2.2.2.2.2.2 0  hF _ _ _ hP hD hS (lv_sub hl [1, 2, 3, 0] rfl)
    · replace hF := if_t hF c_4
      cases hF
  · replace hF := if_t hF c_2
    cases hF
abbrev rX5_ripex : Room := { frames := 6, cells := 1, slots := 6, locals := 113 }
set_option maxHeartbeats 4000000 in
set_option maxRecDepth 100000 in
theorem kX5_ripex (l : Launch) (D : va_G) (cy : Nat → ClassId) (sa : SAT) (h : Nat → Nat) (m_day : Int32) (m_coins : Int32) (m_felts : Int32) (m_made : Int32) (m_worth : Int32) (m_rags : FN) (m_water : FN) (m_pulp : FN) (m_beat : FN) (m_sort : FN) (m_nM : Int32) (m_mark : FN) (m_size : FN) (m_worn : FN) (m_nT : Int32) (m_skill : FN) (m_vat : FN) (m_pair : FN) (m_nQ : Int32) (m_allS : Int32) (m_pmark : FN) (m_pgrade : FN) (m_psheets : FN) (m_loft : FN) (t_day : Int32) (t_coins : Int32) (t_felts : Int32) (t_made : Int32) (t_worth : Int32) (t_rags : FN) (t_water : FN) (t_pulp : FN) (t_beat : FN) (t_sort : FN) (t_nM : Int32) (t_mark : FN) (t_size : FN) (t_worn : FN) (t_nT : Int32) (t_skill : FN) (t_vat : FN) (t_pair : FN) (t_nQ : Int32) (t_allS : Int32) (t_pmark : FN) (t_pgrade : FN) (t_psheets : FN) (t_loft : FN) (a1 : Int32) (a2 : Int32) (hst : l.stackTraces = false) (kx : Nat) (hF : fX5_ripe m_day m_coins m_felts m_made m_worth m_rags m_water m_pulp m_beat m_sort m_nM m_mark m_size m_worn m_nT m_skill m_vat m_pair m_nQ m_allS m_pmark m_pgrade m_psheets m_loft a1 a2 = some (.inr kx)) : KX l D (tyW cy) sa yX5_ripe wsX5_ripe rX5_ripex [.ref (h 0), .int a1, .int a2] (wX5 cy h m_day m_coins m_felts m_made m_worth m_rags m_water m_pulp m_beat m_sort m_nM m_mark m_size m_worn m_nT m_skill m_vat m_pair m_nQ m_allS m_pmark m_pgrade m_psheets m_loft t_day t_coins t_felts t_made t_worth t_rags t_water t_pulp t_beat t_sort t_nM t_mark t_size t_worn t_nT t_skill t_vat t_pair t_nQ t_allS t_pmark t_pgrade t_psheets t_loft) (exN kx) 1 6 := by
  refine KX.of (cc := cX5_ripe) (maxL := 4) (ret := (some .int)) hst (by decide) rfl (Nat.le_of_ble_eq_true rfl) (Nat.le_of_ble_eq_true rfl) (Nat.le_of_ble_eq_true rfl) (Nat.le_refl _) (Nat.le_refl _) ?_
  intro p e s m args below meth c A ls Q hE hQ
  obtain ⟨hx, hb, hml, hown, hts, hA, hP, hK, hD, hG, hl, hnm⟩ := hE
  replace hown : s.vm.findClass RX5 = some m.cls := hown
  have hiX0 : ∀ w ∈ u_ws RX0 TX0 12, w ∈ wsX5_ripe := by decide +kernel
  have hiX5 : ∀ w ∈ u_ws RX5 TX5 2, w ∈ wsX5_ripe := by decide +kernel
  have hf10 : (Cond.fieldLink RX5 10 "RagVats" "mill" "LRagVats$Mill;").before args s = true := hts _ (by decide +kernel)
  have hf16 : (Cond.fieldLink RX5 16 "RagVats" "trial" "LRagVats$Mill;").before args s = true := hts _ (by decide +kernel)
  have hn81 : (Cond.fieldLinkNest RX5 81 "RagVats$Mill" "vats" "LRagVats$Vats;" "RagVats").before args s = true := va_Nw.use rfl (hG.1.1 _ (by decide +kernel))
  have hat27 : ∀ w ∈ vx_atS RX5 27 "java/lang/IndexOutOfBoundsException" exNames, w.before args s = true := vx_hat (B := [.castable "java/lang/IndexOutOfBoundsException" "java/lang/IndexOutOfBoundsException", .declares (Bundle.initS "java/lang/RuntimeException"), .declares (Bundle.initS "java/lang/Exception"), .declares (Bundle.initS "java/lang/Throwable")]) (fun w h => hts w ((by decide +kernel : ∀ w ∈ (vx_atS RX5 27 "java/lang/IndexOutOfBoundsException" exNames).filter goodWord, w ∈ wsX5_ripe) w h)) (by decide +kernel) (vx_c (va_Nw.use rfl (hG.1.1 _ (by decide +kernel))) (vx_c (va_Nw.use rfl (hG.1.1 _ (by decide +kernel))) (vx_c (va_Nw.use rfl (hG.1.1 _ (by decide +kernel))) (vx_c (va_Nw.use rfl (hG.1.1 _ (by decide +kernel))) vx_n))))
  have hat37 : ∀ w ∈ vx_atS RX5 37 "java/lang/IllegalArgumentException" exNames, w.before args s = true := vx_hat (B := [.castable "java/lang/IllegalArgumentException" "java/lang/IllegalArgumentException", .declares (Bundle.initS "java/lang/RuntimeException"), .declares (Bundle.initS "java/lang/Exception"), .declares (Bundle.initS "java/lang/Throwable")]) (fun w h => hts w ((by decide +kernel : ∀ w ∈ (vx_atS RX5 37 "java/lang/IllegalArgumentException" exNames).filter goodWord, w ∈ wsX5_ripe) w h)) (by decide +kernel) (vx_c (va_Nw.use rfl (hG.1.1 _ (by decide +kernel))) (vx_c (va_Nw.use rfl (hG.1.1 _ (by decide +kernel))) (vx_c (va_Nw.use rfl (hG.1.1 _ (by decide +kernel))) (vx_c (va_Nw.use rfl (hG.1.1 _ (by decide +kernel))) vx_n))))
  replace hl : lv_has ls 4 [(0, .ref (h 0)), (1, .int a1), (2, .int a2)] := hl
  have hS : va_S A s.heap s.heap [] := va_S.rf
  have L50 : ∀ (k : Nat) (t_day_50 : Int32) (t_coins_50 : Int32) (t_felts_50 : Int32) (t_made_50 : Int32) (t_worth_50 : Int32) (t_rags_50 : FN) (t_water_50 : FN) (t_pulp_50 : FN) (t_beat_50 : FN) (t_sort_50 : FN) (t_nM_50 : Int32) (t_mark_50 : FN) (t_size_50 : FN) (t_worn_50 : FN) (t_nT_50 : Int32) (t_skill_50 : FN) (t_vat_50 : FN) (t_pair_50 : FN) (t_nQ_50 : Int32) (t_allS_50 : Int32) (t_pmark_50 : FN) (t_pgrade_50 : FN) (t_psheets_50 : FN) (t_loft_50 : FN) (x3_50 : Int32), fX5_ripe_L50 a1 a2 k t_day_50 t_coins_50 t_felts_50 t_made_50 t_worth_50 t_rags_50 t_water_50 t_pulp_50 t_beat_50 t_sort_50 t_nM_50 t_mark_50 t_size_50 t_worn_50 t_nT_50 t_skill_50 t_vat_50 t_pair_50 t_nQ_50 t_allS_50 t_pmark_50 t_pgrade_50 t_psheets_50 t_loft_50 x3_50 = some (.inr kx) → ∀ (H : Heap) (locs : List Loc) (ls : Array Slot), va_P D vwCl (wX5 cy h m_day m_coins m_felts m_made m_worth m_rags m_water m_pulp m_beat m_sort m_nM m_mark m_size m_worn m_nT m_skill m_vat m_pair m_nQ m_allS m_pmark m_pgrade m_psheets m_loft t_day_50 t_coins_50 t_felts_50 t_made_50 t_worth_50 t_rags_50 t_water_50 t_pulp_50 t_beat_50 t_sort_50 t_nM_50 t_mark_50 t_size_50 t_worn_50 t_nT_50 t_skill_50 t_vat_50 t_pair_50 t_nQ_50 t_allS_50 t_pmark_50 t_pgrade_50 t_psheets_50 t_loft_50) H → va_D A (wX5 cy h m_day m_coins m_felts m_made m_worth m_rags m_water m_pulp m_beat m_sort m_nM m_mark m_size m_worn m_nT m_skill m_vat m_pair m_nQ m_allS m_pmark m_pgrade m_psheets m_loft t_day_50 t_coins_50 t_felts_50 t_made_50 t_worth_50 t_rags_50 t_water_50 t_pulp_50 t_beat_50 t_sort_50 t_nM_50 t_mark_50 t_size_50 t_worn_50 t_nT_50 t_skill_50 t_vat_50 t_pair_50 t_nQ_50 t_allS_50 t_pmark_50 t_pgrade_50 t_psheets_50 t_loft_50) → va_S A s.heap H locs → lv_has ls 4 [(0, .ref (h 0)), (1, .int a1), (2, .int a2), (3, .int x3_50)] → W p l e rX5_ripex s m args below meth c H locs 0 0 Q (F0 m 50 ls []) := by
    intro k
    induction k with
    | zero =>
      intro t_day_50 t_coins_50 t_felts_50 t_made_50 t_worth_50 t_rags_50 t_water_50 t_pulp_50 t_beat_50 t_sort_50 t_nM_50 t_mark_50 t_size_50 t_worn_50 t_nT_50 t_skill_50 t_vat_50 t_pair_50 t_nQ_50 t_allS_50 t_pmark_50 t_pgrade_50 t_psheets_50 t_loft_50 x3_50 hF
      rw [fX5_ripe_L50] at hF
      cases hF
    | succ k ih =>
      intro t_day_50 t_coins_50 t_felts_50 t_made_50 t_worth_50 t_rags_50 t_water_50 t_pulp_50 t_beat_50 t_sort_50 t_nM_50 t_mark_50 t_size_50 t_worn_50 t_nT_50 t_skill_50 t_vat_50 t_pair_50 t_nQ_50 t_allS_50 t_pmark_50 t_pgrade_50 t_psheets_50 t_loft_50 x3_50 hF H locs ls hP hD hS hl
      rw [fX5_ripe_L50] at hF
      refine lv_iload_n hx hb dX5_ripe_50 rfl (lv_at hl 3 rfl) ?_
      refine lv_bipush (v := 60) hx hb dX5_ripe_51 (by decide) ?_
      refine lv_icmp_gt (tgt := 86) hx hb dX5_ripe_53 (by decide) (fun c_6 => ?_) (fun c_6 => ?_)
      · replace hF := if_t hF c_6
        refine lv_iconst (v := -1) hx hb dX5_ripe_86 (by decide) ?_
        cases hF
      · replace hF := if_f hF c_6
        refine lv_aload_n hx hb dX5_ripe_56 rfl (lv_at hl 0 rfl) ?_
        refine va_get (D := D) (C := RX5) (T := TX5) (N := 2) hx hb hts hiX5 hown hK hP 0 gtX5_0 rfl 1 (by decide) hf16 (fun _ h9 => h9) rfl dX5_ripe_57 ?_
        refine va_getN (host := "RagVats") (D := D) (C := RX0) (T := TX0) (N := 12) hx hb hts hiX0 hown hK hP 21 gtX5_21 rfl 7 (by decide) hn81 (fun _ h9 => h9) rfl dX5_ripe_60 ?_
        refine lv_iload_n hx hb dX5_ripe_63 rfl (lv_at hl 1 rfl) ?_
        replace hF := bnd_some hF
        obtain ⟨z7, hz_7, hF⟩ := hF
        refine krI (kV (As := [.int a1]) ⟨hx, hb, hml, hown, hts⟩ (kX4_beatOf l D cy sa (fun i => h (i + 24)) t_pulp_50 t_beat_50 t_sort_50 a1 z7 hz_7 _) (cwV 1 hts gX5_ripe_X4_beatOf rfl rfl rfl (by decide +kernel) ⟨Nat.le_of_ble_eq_true rfl, Nat.le_of_ble_eq_true rfl⟩) hK hP hD hS hA hG [24, 25, 26, 27] hcX5_X4_24 ndX4_24 gtX4_0 rfl rfl rfl hl.1 [] rfl (Nat.le_of_ble_eq_true rfl) dX5_ripe_64 ⟨(Nat.le_of_ble_eq_true rfl), (Nat.le_of_ble_eq_true rfl)⟩) hP hD hS hA [24, 25, 26, 27] hcX5_X4_24 (fun H locs hP hS => ?_)
        refine lv_iload_n hx hb dX5_ripe_67 rfl (lv_at hl 2 rfl) ?_
        refine lv_icmp_lt (tgt := 73) hx hb dX5_ripe_68 (by decide) (fun c_8 => ?_) (fun c_8 => ?_)
        · replace hF := if_t hF c_8
          refine lv_aload_n hx hb dX5_ripe_73 rfl (lv_at hl 0 rfl) ?_
          refine va_get (D := D) (C := RX5) (T := TX5) (N := 2) hx hb hts hiX5 hown hK hP 0 gtX5_0 rfl 1 (by decide) hf16 (fun _ h9 => h9) rfl dX5_ripe_74 ?_
          replace hF := bnd_some hF
          obtain ⟨z9, hz_9, hF⟩ := hF
          refine kwVE (kV (As := []) ⟨hx, hb, hml, hown, hts⟩ (kX0_liveDay l D cy sa (fun i => h (i + 21)) t_day_50 t_coins_50 t_felts_50 t_made_50 t_worth_50 t_rags_50 t_water_50 t_pulp_50 t_beat_50 t_sort_50 t_nM_50 t_mark_50 t_size_50 t_worn_50 t_nT_50 t_skill_50 t_vat_50 t_pair_50 t_nQ_50 t_allS_50 t_pmark_50 t_pgrade_50 t_psheets_50 t_loft_50 z9 hz_9 _) (cwV 0 hts gX5_ripe_X0_liveDay rfl rfl rfl (by decide +kernel) ⟨Nat.le_of_ble_eq_true rfl, Nat.le_of_ble_eq_true rfl⟩) hK hP hD hS hA hG [21, 22, 23, 24, 25, 26, 27, 28, 29, 30, 31, 32, 33, 34, 35, 36, 37, 38, 39, 40] hcX5_X0_21 ndX0_21 gtX0_0 rfl rfl rfl hl.1 [] rfl (Nat.le_of_ble_eq_true rfl) dX5_ripe_77 ⟨(Nat.le_of_ble_eq_true rfl), (Nat.le_of_ble_eq_true rfl)⟩) hP hD hS hA [21, 22, 23, 24, 25, 26, 27, 28, 29, 30, 31, 32, 33, 34, 35, 36, 37, 38, 39, 40] hcX5_X0_21 hmX0 kpX5_X0_21 (fun H locs hP hD hS => ?_)
          refine lv_iinc (v := x3_50 + 1) (lv' := [(3, .int (x3_50 + 1)), (0, .ref (h 0)), (1, .int a1), (2, .int a2)]) hx hb dX5_ripe_80 hl (k := 3) rfl rfl (by decide) rfl (fun ls hl => ?_)
          refine lv_goto (tgt := 50) hx hb dX5_ripe_83 (by decide) ?_
          exact ih  z9.1 t_coins_50 t_felts_50 z9.2.1 z9.2.2.1 t_rags_50 t_water_50 z9.2.2.2.1 z9.2.2.2.2.1 z9.2.2.2.2.2.1 t_nM_50 t_mark_50 t_size_50 z9.2.2.2.2.2.2.1 t_nT_50 t_skill_50 t_vat_50 t_pair_50 z9.2.2.2.2.2.2.2.1 z9.2.2.2.2.2.2.2.2.1 z9.2.2.2.2.2.2.2.2.2.1 z9.2.2.2.2.2.2.2.2.2.2.1 z9.2.2.2.2.2.2.2.2.2.2.2.1 z9.2.2.2.2.2.2.2.2.2.2.2.2 (x3_50 + 1)  hF _ _ _ hP hD hS (lv_sub hl [1, 2, 3, 0] rfl)
        · replace hF := if_f hF c_8
          refine lv_iload_n hx hb dX5_ripe_71 rfl (lv_at hl 3 rfl) ?_
          cases hF
  unfold fX5_ripe at hF
  refine lv_iload_n hx hb dX5_ripe_0 rfl (lv_at hl 1 rfl) ?_
  refine lv_iconst (v := 4) hx hb dX5_ripe_1 (by decide) ?_
  replace hF := bnd_some hF
  obtain ⟨z1, hz_1, hF⟩ := hF
  refine krI (kS (As := [.int a1, .int 4]) ⟨hx, hb, hml, hown, hts⟩ (kX5_isBelow l D cy sa a1 4 z1 hz_1 _) (cwS 2 hts gX5_ripe_X5_isBelow rfl rfl rfl (by decide +kernel) ⟨Nat.le_of_ble_eq_true rfl, Nat.le_of_ble_eq_true rfl⟩) hK hP hD hS hA hG [] rfl rfl rfl hl.1 [] rfl (Nat.le_of_ble_eq_true rfl) dX5_ripe_2 ⟨(Nat.le_of_ble_eq_true rfl), (Nat.le_of_ble_eq_true rfl)⟩) hP hD hS hA [] rfl (fun H locs hP hS => ?_)
  refine lv_if_ne (tgt := 18) hx hb dX5_ripe_5 (by decide) (fun c_2 => ?_) (fun c_2 => ?_)
  · replace hF := if_f hF c_2
    refine lv_iload_n hx hb dX5_ripe_18 rfl (lv_at hl 2 rfl) ?_
    refine lv_bipush (v := 99) hx hb dX5_ripe_19 (by decide) ?_
    replace hF := bnd_some hF
    obtain ⟨z3, hz_3, hF⟩ := hF
    refine krI (kS (As := [.int a2, .int 99]) ⟨hx, hb, hml, hown, hts⟩ (kX5_isFrom1To l D cy sa a2 99 z3 hz_3 _) (cwS 2 hts gX5_ripe_X5_isFrom1To rfl rfl rfl (by decide +kernel) ⟨Nat.le_of_ble_eq_true rfl, Nat.le_of_ble_eq_true rfl⟩) hK hP hD hS hA hG [] rfl rfl rfl hl.1 [] rfl (Nat.le_of_ble_eq_true rfl) dX5_ripe_21 ⟨(Nat.le_of_ble_eq_true rfl), (Nat.le_of_ble_eq_true rfl)⟩) hP hD hS hA [] rfl (fun H locs hP hS => ?_)
    refine lv_if_ne (tgt := 37) hx hb dX5_ripe_24 (by decide) (fun c_4 => ?_) (fun c_4 => ?_)
    · replace hF := if_f hF c_4
      refine lv_aload_n hx hb dX5_ripe_37 rfl (lv_at hl 0 rfl) ?_
      refine va_get (D := D) (C := RX5) (T := TX5) (N := 2) hx hb hts hiX5 hown hK hP 0 gtX5_0 rfl 1 (by decide) hf16 (fun _ h9 => h9) rfl dX5_ripe_38 ?_
      refine lv_aload_n hx hb dX5_ripe_41 rfl (lv_at hl 0 rfl) ?_
      refine va_get (D := D) (C := RX5) (T := TX5) (N := 2) hx hb hts hiX5 hown hK hP 0 gtX5_0 rfl 0 (by decide) hf10 (fun _ h9 => h9) rfl dX5_ripe_42 ?_
      replace hF := bnd_some hF
      obtain ⟨z5, hz_5, hF⟩ := hF
      refine kwVE (kV (As := [.ref (h 1)]) ⟨hx, hb, hml, hown, hts⟩ (kX0_becomeLike l D cy sa (fun i => h (i + 21)) (fun i => h (i + 1)) t_day t_coins t_felts t_made t_worth t_rags t_water t_pulp t_beat t_sort t_nM t_mark t_size t_worn t_nT t_skill t_vat t_pair t_nQ t_allS t_pmark t_pgrade t_psheets t_loft m_day m_coins m_felts m_made m_worth m_rags m_water m_pulp m_beat m_sort m_nM m_mark m_size m_worn m_nT m_skill m_vat m_pair m_nQ m_allS m_pmark m_pgrade m_psheets m_loft z5 hz_5 _) (cwV 1 hts gX5_ripe_X0_becomeLike rfl rfl rfl (by decide +kernel) ⟨Nat.le_of_ble_eq_true rfl, Nat.le_of_ble_eq_true rfl⟩) hK hP hD hS hA hG [21, 22, 23, 24, 25, 26, 27, 28, 29, 30, 31, 32, 33, 34, 35, 36, 37, 38, 39, 40, 1, 2, 3, 4, 5, 6, 7, 8, 9, 10, 11, 12, 13, 14, 15, 16, 17, 18, 19, 20] hcX5_X0X0_21_1 ndX0X0_21_1 gtX0X0_0 rfl rfl rfl hl.1 [] rfl (Nat.le_of_ble_eq_true rfl) dX5_ripe_45 ⟨(Nat.le_of_ble_eq_true rfl), (Nat.le_of_ble_eq_true rfl)⟩) hP hD hS hA [21, 22, 23, 24, 25, 26, 27, 28, 29, 30, 31, 32, 33, 34, 35, 36, 37, 38, 39, 40, 1, 2, 3, 4, 5, 6, 7, 8, 9, 10, 11, 12, 13, 14, 15, 16, 17, 18, 19, 20] hcX5_X0X0_21_1 hmX0X0 kpX5_X0X0_21_1 (fun H locs hP hD hS => ?_)
      refine lv_iconst (v := 0) hx hb dX5_ripe_48 (by decide) ?_
      refine lv_istore_n (lv' := [(3, .int 0), (0, .ref (h 0)), (1, .int a1), (2, .int a2)]) hx hb dX5_ripe_49 rfl hl (by decide) rfl (fun ls hl => ?_)
      exact L50 300 z5.1 z5.2.1 z5.2.2.1 z5.2.2.2.1 z5.2.2.2.2.1 z5.2.2.2.2.2.1 z5.2.2.2.2.2.2.1 z5.2.2.2.2.2.2.2.1 z5.2.2.2.2.2.2.2.2.1 z5.2.2.2.2.2.2.2.2.2.1 z5.2.2.2.2.2.2.2.2.2.2.1 z5.2.2.2.2.2.2.2.2.2.2.2.1 z5.2.2.2.2.2.2.2.2.2.2.2.2.1 z5.2.2.2.2.2.2.2.2.2.2.2.2.2.1 z5.2.2.2.2.2.2.2.2.2.2.2.2.2.2.1 z5.2.2.2.2.2.2.2.2.2.2.2.2.2.2.2.1 z5.2.2.2.2.2.2.2.2.2.2.2.2.2.2.2.2.1 z5.2.2.2.2.2.2.2.2.2.2.2.2.2.2.2.2.2.1 z5.2.2.2.2.2.2.2.2.2.2.2.2.2.2.2.2.2.2.1 z5.2.2.2.2.2.2.2.2.2.2.2.2.2.2.2.2.2.2.2.1 z5.2.2.2.2.2.2.2.2.2.2.2.2.2.2.2.2.2.2.2.2.1 z5.2.2.2.2.2.2.2.2.2.2.2.2.2.2.2.2.2.2.2.2.2.1 z5.2.2.2.2.2.2.2.2.2.2.2.2.2.2.2.2.2.2.2.2.2.2.1 z5.2.2.2.2.2.2.2.2.2.2.2.2.2.2.2.2.2.2.2.2.2.2.2 0  hF _ _ _ hP hD hS (lv_sub hl [1, 2, 3, 0] rfl)
    · replace hF := if_t hF c_4
      cases hF
      exact hQ _ _ _ _ _ 33 212 37 _ _ "beat is not 1 to 99" dX5_ripe_27 dX5_ripe_30 dX5_ripe_31 dX5_ripe_33 dX5_ripe_36 (hts _ (by decide +kernel)) (hts _ (by decide +kernel)) (by decide +kernel) hat37 ⟨by decide +kernel, by decide +kernel⟩ hP hD hS hl.1 (Nat.le_of_ble_eq_true rfl) (Nat.le_of_ble_eq_true rfl) (Nat.le_of_ble_eq_true rfl)
  · replace hF := if_t hF c_2
    cases hF
    exact hQ _ _ _ _ _ 23 100 27 _ _ "no such vat" dX5_ripe_8 dX5_ripe_11 dX5_ripe_12 dX5_ripe_14 dX5_ripe_17 (hts _ (by decide +kernel)) (hts _ (by decide +kernel)) (by decide +kernel) hat27 ⟨by decide +kernel, by decide +kernel⟩ hP hD hS hl.1 (Nat.le_of_ble_eq_true rfl) (Nat.le_of_ble_eq_true rfl) (Nat.le_of_ble_eq_true rfl)

def fX5_foresee (m_day : Int32) (m_coins : Int32) (m_felts : Int32) (m_made : Int32) (m_worth : Int32) (m_rags : FN) (m_water : FN) (m_pulp : FN) (m_beat : FN) (m_sort : FN) (m_nM : Int32) (m_mark : FN) (m_size : FN) (m_worn : FN) (m_nT : Int32) (m_skill : FN) (m_vat : FN) (m_pair : FN) (m_nQ : Int32) (m_allS : Int32) (m_pmark : FN) (m_pgrade : FN) (m_psheets : FN) (m_loft : FN) (a1 : Int32) (a2 : Int32) : Option ((Int32 × Int32 × Int32 × Int32 × Int32 × Int32 × FN × FN × FN × FN × FN × Int32 × FN × FN × FN × Int32 × FN × FN × FN × Int32 × Int32 × FN × FN × FN × FN) ⊕ Nat) := (fX5_isFrom1To a1 40).bind fun z1 => if z1 = 0 then some (.inr 1) else (fX5_isBelow a2 12).bind fun z3 => if z3 = 0 then some (.inr 0) else (fX0_becomeLike m_day m_coins m_felts m_made m_worth m_rags m_water m_pulp m_beat m_sort m_nM m_mark m_size m_worn m_nT m_skill m_vat m_pair m_nQ m_allS m_pmark m_pgrade m_psheets m_loft).bind fun z5 => (fX0_liveDays z5.1 z5.2.2.1 z5.2.2.2.1 z5.2.2.2.2.1 z5.2.2.2.2.2.2.1 z5.2.2.2.2.2.2.2.1 z5.2.2.2.2.2.2.2.2.1 z5.2.2.2.2.2.2.2.2.2.1 z5.2.2.2.2.2.2.2.2.2.2.1 z5.2.2.2.2.2.2.2.2.2.2.2.1 z5.2.2.2.2.2.2.2.2.2.2.2.2.1 z5.2.2.2.2.2.2.2.2.2.2.2.2.2.1 z5.2.2.2.2.2.2.2.2.2.2.2.2.2.2.1 z5.2.2.2.2.2.2.2.2.2.2.2.2.2.2.2.1 z5.2.2.2.2.2.2.2.2.2.2.2.2.2.2.2.2.1 z5.2.2.2.2.2.2.2.2.2.2.2.2.2.2.2.2.2.1 z5.2.2.2.2.2.2.2.2.2.2.2.2.2.2.2.2.2.2.1 z5.2.2.2.2.2.2.2.2.2.2.2.2.2.2.2.2.2.2.2.1 z5.2.2.2.2.2.2.2.2.2.2.2.2.2.2.2.2.2.2.2.2.1 z5.2.2.2.2.2.2.2.2.2.2.2.2.2.2.2.2.2.2.2.2.2.1 z5.2.2.2.2.2.2.2.2.2.2.2.2.2.2.2.2.2.2.2.2.2.2.1 z5.2.2.2.2.2.2.2.2.2.2.2.2.2.2.2.2.2.2.2.2.2.2.2 a1).bind fun z6 => (fX0_tell z6.1 z5.2.1 z5.2.2.1 z6.2.1 z6.2.2.1 z5.2.2.2.2.2.1 z6.2.2.2.1 z6.2.2.2.2.2.2.2.1 z6.2.2.2.2.2.2.2.2.1 z6.2.2.2.2.2.2.2.2.2.2.2.2 a2).bind fun z7 => some (.inl (z7, z6.1, z5.2.1, z5.2.2.1, z6.2.1, z6.2.2.1, z5.2.2.2.2.2.1, z5.2.2.2.2.2.2.1, z6.2.2.2.1, z6.2.2.2.2.1, z6.2.2.2.2.2.1, z5.2.2.2.2.2.2.2.2.2.2.1, z5.2.2.2.2.2.2.2.2.2.2.2.1, z5.2.2.2.2.2.2.2.2.2.2.2.2.1, z6.2.2.2.2.2.2.1, z5.2.2.2.2.2.2.2.2.2.2.2.2.2.2.1, z5.2.2.2.2.2.2.2.2.2.2.2.2.2.2.2.1, z5.2.2.2.2.2.2.2.2.2.2.2.2.2.2.2.2.1, z5.2.2.2.2.2.2.2.2.2.2.2.2.2.2.2.2.2.1, z6.2.2.2.2.2.2.2.1, z6.2.2.2.2.2.2.2.2.1, z6.2.2.2.2.2.2.2.2.2.1, z6.2.2.2.2.2.2.2.2.2.2.1, z6.2.2.2.2.2.2.2.2.2.2.2.1, z6.2.2.2.2.2.2.2.2.2.2.2.2))
abbrev rX5_foresee : Room := { frames := 6, cells := 0, slots := 0, locals := 135 }
set_option maxHeartbeats 4000000 in
set_option maxRecDepth 100000 in
theorem kX5_foresee (l : Launch) (D : va_G) (cy : Nat → ClassId) (sa : SAT) (h : Nat → Nat) (m_day : Int32) (m_coins : Int32) (m_felts : Int32) (m_made : Int32) (m_worth : Int32) (m_rags : FN) (m_water : FN) (m_pulp : FN) (m_beat : FN) (m_sort : FN) (m_nM : Int32) (m_mark : FN) (m_size : FN) (m_worn : FN) (m_nT : Int32) (m_skill : FN) (m_vat : FN) (m_pair : FN) (m_nQ : Int32) (m_allS : Int32) (m_pmark : FN) (m_pgrade : FN) (m_psheets : FN) (m_loft : FN) (t_day : Int32) (t_coins : Int32) (t_felts : Int32) (t_made : Int32) (t_worth : Int32) (t_rags : FN) (t_water : FN) (t_pulp : FN) (t_beat : FN) (t_sort : FN) (t_nM : Int32) (t_mark : FN) (t_size : FN) (t_worn : FN) (t_nT : Int32) (t_skill : FN) (t_vat : FN) (t_pair : FN) (t_nQ : Int32) (t_allS : Int32) (t_pmark : FN) (t_pgrade : FN) (t_psheets : FN) (t_loft : FN) (a1 : Int32) (a2 : Int32) (z : Int32 × Int32 × Int32 × Int32 × Int32 × Int32 × FN × FN × FN × FN × FN × Int32 × FN × FN × FN × Int32 × FN × FN × FN × Int32 × Int32 × FN × FN × FN × FN) (hF : fX5_foresee m_day m_coins m_felts m_made m_worth m_rags m_water m_pulp m_beat m_sort m_nM m_mark m_size m_worn m_nT m_skill m_vat m_pair m_nQ m_allS m_pmark m_pgrade m_psheets m_loft a1 a2 = some (.inl z)) : KI l D (tyW cy) sa yX5_foresee wsX5_foresee rX5_foresee [.ref (h 0), .int a1, .int a2] (wX5 cy h m_day m_coins m_felts m_made m_worth m_rags m_water m_pulp m_beat m_sort m_nM m_mark m_size m_worn m_nT m_skill m_vat m_pair m_nQ m_allS m_pmark m_pgrade m_psheets m_loft t_day t_coins t_felts t_made t_worth t_rags t_water t_pulp t_beat t_sort t_nM t_mark t_size t_worn t_nT t_skill t_vat t_pair t_nQ t_allS t_pmark t_pgrade t_psheets t_loft) z.1 (fun _ => wX5 cy h m_day m_coins m_felts m_made m_worth m_rags m_water m_pulp m_beat m_sort m_nM m_mark m_size m_worn m_nT m_skill m_vat m_pair m_nQ m_allS m_pmark m_pgrade m_psheets m_loft z.2.1 z.2.2.1 z.2.2.2.1 z.2.2.2.2.1 z.2.2.2.2.2.1 z.2.2.2.2.2.2.1 z.2.2.2.2.2.2.2.1 z.2.2.2.2.2.2.2.2.1 z.2.2.2.2.2.2.2.2.2.1 z.2.2.2.2.2.2.2.2.2.2.1 z.2.2.2.2.2.2.2.2.2.2.2.1 z.2.2.2.2.2.2.2.2.2.2.2.2.1 z.2.2.2.2.2.2.2.2.2.2.2.2.2.1 z.2.2.2.2.2.2.2.2.2.2.2.2.2.2.1 z.2.2.2.2.2.2.2.2.2.2.2.2.2.2.2.1 z.2.2.2.2.2.2.2.2.2.2.2.2.2.2.2.2.1 z.2.2.2.2.2.2.2.2.2.2.2.2.2.2.2.2.2.1 z.2.2.2.2.2.2.2.2.2.2.2.2.2.2.2.2.2.2.1 z.2.2.2.2.2.2.2.2.2.2.2.2.2.2.2.2.2.2.2.1 z.2.2.2.2.2.2.2.2.2.2.2.2.2.2.2.2.2.2.2.2.1 z.2.2.2.2.2.2.2.2.2.2.2.2.2.2.2.2.2.2.2.2.2.1 z.2.2.2.2.2.2.2.2.2.2.2.2.2.2.2.2.2.2.2.2.2.2.1 z.2.2.2.2.2.2.2.2.2.2.2.2.2.2.2.2.2.2.2.2.2.2.2.1 z.2.2.2.2.2.2.2.2.2.2.2.2.2.2.2.2.2.2.2.2.2.2.2.2) 0 0 := by
  refine KI.of (cc := cX5_foresee) (maxL := 3) (by decide +kernel) rfl (Nat.le_of_ble_eq_true rfl) ?_
  intro p e s m args below meth c A ls Q hE hQ
  obtain ⟨hx, hb, hml, hown, hts, hA, hP, hK, hD, hG, hl, hnm⟩ := hE
  replace hown : s.vm.findClass RX5 = some m.cls := hown
  have hiX5 : ∀ w ∈ u_ws RX5 TX5 2, w ∈ wsX5_foresee := by decide +kernel
  have hf10 : (Cond.fieldLink RX5 10 "RagVats" "mill" "LRagVats$Mill;").before args s = true := hts _ (by decide +kernel)
  have hf16 : (Cond.fieldLink RX5 16 "RagVats" "trial" "LRagVats$Mill;").before args s = true := hts _ (by decide +kernel)
  replace hl : lv_has ls 3 [(0, .ref (h 0)), (1, .int a1), (2, .int a2)] := hl
  have hS : va_S A s.heap s.heap [] := va_S.rf
  unfold fX5_foresee at hF
  refine lv_iload_n hx hb dX5_foresee_0 rfl (lv_at hl 1 rfl) ?_
  refine lv_bipush (v := 40) hx hb dX5_foresee_1 (by decide) ?_
  replace hF := bnd_some hF
  obtain ⟨z1, hz_1, hF⟩ := hF
  refine krI (kS (As := [.int a1, .int 40]) ⟨hx, hb, hml, hown, hts⟩ (kX5_isFrom1To l D cy sa a1 40 z1 hz_1 _) (cwS 2 hts gX5_foresee_X5_isFrom1To rfl rfl rfl (by decide +kernel) ⟨Nat.le_of_ble_eq_true rfl, Nat.le_of_ble_eq_true rfl⟩) hK hP hD hS hA hG [] rfl rfl rfl hl.1 [] rfl (Nat.le_of_ble_eq_true rfl) dX5_foresee_3 ⟨(Nat.le_of_ble_eq_true rfl), (Nat.le_of_ble_eq_true rfl)⟩) hP hD hS hA [] rfl (fun H locs hP hS => ?_)
  refine lv_if_ne (tgt := 19) hx hb dX5_foresee_6 (by decide) (fun c_2 => ?_) (fun c_2 => ?_)
  · replace hF := if_f hF c_2
    refine lv_iload_n hx hb dX5_foresee_19 rfl (lv_at hl 2 rfl) ?_
    refine lv_bipush (v := 12) hx hb dX5_foresee_20 (by decide) ?_
    replace hF := bnd_some hF
    obtain ⟨z3, hz_3, hF⟩ := hF
    refine krI (kS (As := [.int a2, .int 12]) ⟨hx, hb, hml, hown, hts⟩ (kX5_isBelow l D cy sa a2 12 z3 hz_3 _) (cwS 2 hts gX5_foresee_X5_isBelow rfl rfl rfl (by decide +kernel) ⟨Nat.le_of_ble_eq_true rfl, Nat.le_of_ble_eq_true rfl⟩) hK hP hD hS hA hG [] rfl rfl rfl hl.1 [] rfl (Nat.le_of_ble_eq_true rfl) dX5_foresee_22 ⟨(Nat.le_of_ble_eq_true rfl), (Nat.le_of_ble_eq_true rfl)⟩) hP hD hS hA [] rfl (fun H locs hP hS => ?_)
    refine lv_if_ne (tgt := 38) hx hb dX5_foresee_25 (by decide) (fun c_4 => ?_) (fun c_4 => ?_)
    · replace hF := if_f hF c_4
      refine lv_aload_n hx hb dX5_foresee_38 rfl (lv_at hl 0 rfl) ?_
      refine va_get (D := D) (C := RX5) (T := TX5) (N := 2) hx hb hts hiX5 hown hK hP 0 gtX5_0 rfl 1 (by decide) hf16 (fun _ h9 => h9) rfl dX5_foresee_39 ?_
      refine lv_aload_n hx hb dX5_foresee_42 rfl (lv_at hl 0 rfl) ?_
      refine va_get (D := D) (C := RX5) (T := TX5) (N := 2) hx hb hts hiX5 hown hK hP 0 gtX5_0 rfl 0 (by decide) hf10 (fun _ h9 => h9) rfl dX5_foresee_43 ?_
      replace hF := bnd_some hF
      obtain ⟨z5, hz_5, hF⟩ := hF
      refine kwVE (kV (As := [.ref (h 1)]) ⟨hx, hb, hml, hown, hts⟩ (kX0_becomeLike l D cy sa (fun i => h (i + 21)) (fun i => h (i + 1)) t_day t_coins t_felts t_made t_worth t_rags t_water t_pulp t_beat t_sort t_nM t_mark t_size t_worn t_nT t_skill t_vat t_pair t_nQ t_allS t_pmark t_pgrade t_psheets t_loft m_day m_coins m_felts m_made m_worth m_rags m_water m_pulp m_beat m_sort m_nM m_mark m_size m_worn m_nT m_skill m_vat m_pair m_nQ m_allS m_pmark m_pgrade m_psheets m_loft z5 hz_5 _) (cwV 1 hts gX5_foresee_X0_becomeLike rfl rfl rfl (by decide +kernel) ⟨Nat.le_of_ble_eq_true rfl, Nat.le_of_ble_eq_true rfl⟩) hK hP hD hS hA hG [21, 22, 23, 24, 25, 26, 27, 28, 29, 30, 31, 32, 33, 34, 35, 36, 37, 38, 39, 40, 1, 2, 3, 4, 5, 6, 7, 8, 9, 10, 11, 12, 13, 14, 15, 16, 17, 18, 19, 20] hcX5_X0X0_21_1 ndX0X0_21_1 gtX0X0_0 rfl rfl rfl hl.1 [] rfl (Nat.le_of_ble_eq_true rfl) dX5_foresee_46 ⟨(Nat.le_of_ble_eq_true rfl), (Nat.le_of_ble_eq_true rfl)⟩) hP hD hS hA [21, 22, 23, 24, 25, 26, 27, 28, 29, 30, 31, 32, 33, 34, 35, 36, 37, 38, 39, 40, 1, 2, 3, 4, 5, 6, 7, 8, 9, 10, 11, 12, 13, 14, 15, 16, 17, 18, 19, 20] hcX5_X0X0_21_1 hmX0X0 kpX5_X0X0_21_1 (fun H locs hP hD hS => ?_)
      refine lv_aload_n hx hb dX5_foresee_49 rfl (lv_at hl 0 rfl) ?_
      refine va_get (D := D) (C := RX5) (T := TX5) (N := 2) hx hb hts hiX5 hown hK hP 0 gtX5_0 rfl 1 (by decide) hf16 (fun _ h9 => h9) rfl dX5_foresee_50 ?_
      refine lv_iload_n hx hb dX5_foresee_53 rfl (lv_at hl 1 rfl) ?_
      replace hF := bnd_some hF
      obtain ⟨z6, hz_6, hF⟩ := hF
      refine kwVE (kV (As := [.int a1]) ⟨hx, hb, hml, hown, hts⟩ (kX0_liveDays l D cy sa (fun i => h (i + 21)) z5.1 z5.2.1 z5.2.2.1 z5.2.2.2.1 z5.2.2.2.2.1 z5.2.2.2.2.2.1 z5.2.2.2.2.2.2.1 z5.2.2.2.2.2.2.2.1 z5.2.2.2.2.2.2.2.2.1 z5.2.2.2.2.2.2.2.2.2.1 z5.2.2.2.2.2.2.2.2.2.2.1 z5.2.2.2.2.2.2.2.2.2.2.2.1 z5.2.2.2.2.2.2.2.2.2.2.2.2.1 z5.2.2.2.2.2.2.2.2.2.2.2.2.2.1 z5.2.2.2.2.2.2.2.2.2.2.2.2.2.2.1 z5.2.2.2.2.2.2.2.2.2.2.2.2.2.2.2.1 z5.2.2.2.2.2.2.2.2.2.2.2.2.2.2.2.2.1 z5.2.2.2.2.2.2.2.2.2.2.2.2.2.2.2.2.2.1 z5.2.2.2.2.2.2.2.2.2.2.2.2.2.2.2.2.2.2.1 z5.2.2.2.2.2.2.2.2.2.2.2.2.2.2.2.2.2.2.2.1 z5.2.2.2.2.2.2.2.2.2.2.2.2.2.2.2.2.2.2.2.2.1 z5.2.2.2.2.2.2.2.2.2.2.2.2.2.2.2.2.2.2.2.2.2.1 z5.2.2.2.2.2.2.2.2.2.2.2.2.2.2.2.2.2.2.2.2.2.2.1 z5.2.2.2.2.2.2.2.2.2.2.2.2.2.2.2.2.2.2.2.2.2.2.2 a1 z6 hz_6 _) (cwV 1 hts gX5_foresee_X0_liveDays rfl rfl rfl (by decide +kernel) ⟨Nat.le_of_ble_eq_true rfl, Nat.le_of_ble_eq_true rfl⟩) hK hP hD hS hA hG [21, 22, 23, 24, 25, 26, 27, 28, 29, 30, 31, 32, 33, 34, 35, 36, 37, 38, 39, 40] hcX5_X0_21 ndX0_21 gtX0_0 rfl rfl rfl hl.1 [] rfl (Nat.le_of_ble_eq_true rfl) dX5_foresee_54 ⟨(Nat.le_of_ble_eq_true rfl), (Nat.le_of_ble_eq_true rfl)⟩) hP hD hS hA [21, 22, 23, 24, 25, 26, 27, 28, 29, 30, 31, 32, 33, 34, 35, 36, 37, 38, 39, 40] hcX5_X0_21 hmX0 kpX5_X0_21 (fun H locs hP hD hS => ?_)
      refine lv_aload_n hx hb dX5_foresee_57 rfl (lv_at hl 0 rfl) ?_
      refine va_get (D := D) (C := RX5) (T := TX5) (N := 2) hx hb hts hiX5 hown hK hP 0 gtX5_0 rfl 1 (by decide) hf16 (fun _ h9 => h9) rfl dX5_foresee_58 ?_
      refine lv_iload_n hx hb dX5_foresee_61 rfl (lv_at hl 2 rfl) ?_
      replace hF := bnd_some hF
      obtain ⟨z7, hz_7, hF⟩ := hF
      refine krI (kV (As := [.int a2]) ⟨hx, hb, hml, hown, hts⟩ (kX0_tell l D cy sa (fun i => h (i + 21)) z6.1 z5.2.1 z5.2.2.1 z6.2.1 z6.2.2.1 z5.2.2.2.2.2.1 z5.2.2.2.2.2.2.1 z6.2.2.2.1 z6.2.2.2.2.1 z6.2.2.2.2.2.1 z5.2.2.2.2.2.2.2.2.2.2.1 z5.2.2.2.2.2.2.2.2.2.2.2.1 z5.2.2.2.2.2.2.2.2.2.2.2.2.1 z6.2.2.2.2.2.2.1 z5.2.2.2.2.2.2.2.2.2.2.2.2.2.2.1 z5.2.2.2.2.2.2.2.2.2.2.2.2.2.2.2.1 z5.2.2.2.2.2.2.2.2.2.2.2.2.2.2.2.2.1 z5.2.2.2.2.2.2.2.2.2.2.2.2.2.2.2.2.2.1 z6.2.2.2.2.2.2.2.1 z6.2.2.2.2.2.2.2.2.1 z6.2.2.2.2.2.2.2.2.2.1 z6.2.2.2.2.2.2.2.2.2.2.1 z6.2.2.2.2.2.2.2.2.2.2.2.1 z6.2.2.2.2.2.2.2.2.2.2.2.2 a2 z7 hz_7 _) (cwV 1 hts gX5_foresee_X0_tell rfl rfl rfl (by decide +kernel) ⟨Nat.le_of_ble_eq_true rfl, Nat.le_of_ble_eq_true rfl⟩) hK hP hD hS hA hG [21, 22, 23, 24, 25, 26, 27, 28, 29, 30, 31, 32, 33, 34, 35, 36, 37, 38, 39, 40] hcX5_X0_21 ndX0_21 gtX0_0 rfl rfl rfl hl.1 [] rfl (Nat.le_of_ble_eq_true rfl) dX5_foresee_62 ⟨(Nat.le_of_ble_eq_true rfl), (Nat.le_of_ble_eq_true rfl)⟩) hP hD hS hA [21, 22, 23, 24, 25, 26, 27, 28, 29, 30, 31, 32, 33, 34, 35, 36, 37, 38, 39, 40] hcX5_X0_21 (fun H locs hP hS => ?_)
      cases hF
      exact hQ _ _ _ _ _ _ (fun _ => 0) dX5_foresee_65 hP hD hS (Nat.le_of_ble_eq_true rfl) (Nat.le_of_ble_eq_true rfl)
    · replace hF := if_t hF c_4
      cases hF
  · replace hF := if_t hF c_2
    cases hF
abbrev rX5_foreseex : Room := { frames := 6, cells := 1, slots := 6, locals := 135 }
set_option maxHeartbeats 4000000 in
set_option maxRecDepth 100000 in
theorem kX5_foreseex (l : Launch) (D : va_G) (cy : Nat → ClassId) (sa : SAT) (h : Nat → Nat) (m_day : Int32) (m_coins : Int32) (m_felts : Int32) (m_made : Int32) (m_worth : Int32) (m_rags : FN) (m_water : FN) (m_pulp : FN) (m_beat : FN) (m_sort : FN) (m_nM : Int32) (m_mark : FN) (m_size : FN) (m_worn : FN) (m_nT : Int32) (m_skill : FN) (m_vat : FN) (m_pair : FN) (m_nQ : Int32) (m_allS : Int32) (m_pmark : FN) (m_pgrade : FN) (m_psheets : FN) (m_loft : FN) (t_day : Int32) (t_coins : Int32) (t_felts : Int32) (t_made : Int32) (t_worth : Int32) (t_rags : FN) (t_water : FN) (t_pulp : FN) (t_beat : FN) (t_sort : FN) (t_nM : Int32) (t_mark : FN) (t_size : FN) (t_worn : FN) (t_nT : Int32) (t_skill : FN) (t_vat : FN) (t_pair : FN) (t_nQ : Int32) (t_allS : Int32) (t_pmark : FN) (t_pgrade : FN) (t_psheets : FN) (t_loft : FN) (a1 : Int32) (a2 : Int32) (hst : l.stackTraces = false) (kx : Nat) (hF : fX5_foresee m_day m_coins m_felts m_made m_worth m_rags m_water m_pulp m_beat m_sort m_nM m_mark m_size m_worn m_nT m_skill m_vat m_pair m_nQ m_allS m_pmark m_pgrade m_psheets m_loft a1 a2 = some (.inr kx)) : KX l D (tyW cy) sa yX5_foresee wsX5_foresee rX5_foreseex [.ref (h 0), .int a1, .int a2] (wX5 cy h m_day m_coins m_felts m_made m_worth m_rags m_water m_pulp m_beat m_sort m_nM m_mark m_size m_worn m_nT m_skill m_vat m_pair m_nQ m_allS m_pmark m_pgrade m_psheets m_loft t_day t_coins t_felts t_made t_worth t_rags t_water t_pulp t_beat t_sort t_nM t_mark t_size t_worn t_nT t_skill t_vat t_pair t_nQ t_allS t_pmark t_pgrade t_psheets t_loft) (exN kx) 1 6 := by
  refine KX.of (cc := cX5_foresee) (maxL := 3) (ret := (some .int)) hst (by decide) rfl (Nat.le_of_ble_eq_true rfl) (Nat.le_of_ble_eq_true rfl) (Nat.le_of_ble_eq_true rfl) (Nat.le_refl _) (Nat.le_refl _) ?_
  intro p e s m args below meth c A ls Q hE hQ
  obtain ⟨hx, hb, hml, hown, hts, hA, hP, hK, hD, hG, hl, hnm⟩ := hE
  replace hown : s.vm.findClass RX5 = some m.cls := hown
  have hiX5 : ∀ w ∈ u_ws RX5 TX5 2, w ∈ wsX5_foresee := by decide +kernel
  have hf10 : (Cond.fieldLink RX5 10 "RagVats" "mill" "LRagVats$Mill;").before args s = true := hts _ (by decide +kernel)
  have hf16 : (Cond.fieldLink RX5 16 "RagVats" "trial" "LRagVats$Mill;").before args s = true := hts _ (by decide +kernel)
  have hat27 : ∀ w ∈ vx_atS RX5 27 "java/lang/IndexOutOfBoundsException" exNames, w.before args s = true := vx_hat (B := [.castable "java/lang/IndexOutOfBoundsException" "java/lang/IndexOutOfBoundsException", .declares (Bundle.initS "java/lang/RuntimeException"), .declares (Bundle.initS "java/lang/Exception"), .declares (Bundle.initS "java/lang/Throwable")]) (fun w h => hts w ((by decide +kernel : ∀ w ∈ (vx_atS RX5 27 "java/lang/IndexOutOfBoundsException" exNames).filter goodWord, w ∈ wsX5_foresee) w h)) (by decide +kernel) (vx_c (va_Nw.use rfl (hG.1.1 _ (by decide +kernel))) (vx_c (va_Nw.use rfl (hG.1.1 _ (by decide +kernel))) (vx_c (va_Nw.use rfl (hG.1.1 _ (by decide +kernel))) (vx_c (va_Nw.use rfl (hG.1.1 _ (by decide +kernel))) vx_n))))
  have hat37 : ∀ w ∈ vx_atS RX5 37 "java/lang/IllegalArgumentException" exNames, w.before args s = true := vx_hat (B := [.castable "java/lang/IllegalArgumentException" "java/lang/IllegalArgumentException", .declares (Bundle.initS "java/lang/RuntimeException"), .declares (Bundle.initS "java/lang/Exception"), .declares (Bundle.initS "java/lang/Throwable")]) (fun w h => hts w ((by decide +kernel : ∀ w ∈ (vx_atS RX5 37 "java/lang/IllegalArgumentException" exNames).filter goodWord, w ∈ wsX5_foresee) w h)) (by decide +kernel) (vx_c (va_Nw.use rfl (hG.1.1 _ (by decide +kernel))) (vx_c (va_Nw.use rfl (hG.1.1 _ (by decide +kernel))) (vx_c (va_Nw.use rfl (hG.1.1 _ (by decide +kernel))) (vx_c (va_Nw.use rfl (hG.1.1 _ (by decide +kernel))) vx_n))))
  replace hl : lv_has ls 3 [(0, .ref (h 0)), (1, .int a1), (2, .int a2)] := hl
  have hS : va_S A s.heap s.heap [] := va_S.rf
  unfold fX5_foresee at hF
  refine lv_iload_n hx hb dX5_foresee_0 rfl (lv_at hl 1 rfl) ?_
  refine lv_bipush (v := 40) hx hb dX5_foresee_1 (by decide) ?_
  replace hF := bnd_some hF
  obtain ⟨z1, hz_1, hF⟩ := hF
  refine krI (kS (As := [.int a1, .int 40]) ⟨hx, hb, hml, hown, hts⟩ (kX5_isFrom1To l D cy sa a1 40 z1 hz_1 _) (cwS 2 hts gX5_foresee_X5_isFrom1To rfl rfl rfl (by decide +kernel) ⟨Nat.le_of_ble_eq_true rfl, Nat.le_of_ble_eq_true rfl⟩) hK hP hD hS hA hG [] rfl rfl rfl hl.1 [] rfl (Nat.le_of_ble_eq_true rfl) dX5_foresee_3 ⟨(Nat.le_of_ble_eq_true rfl), (Nat.le_of_ble_eq_true rfl)⟩) hP hD hS hA [] rfl (fun H locs hP hS => ?_)
  refine lv_if_ne (tgt := 19) hx hb dX5_foresee_6 (by decide) (fun c_2 => ?_) (fun c_2 => ?_)
  · replace hF := if_f hF c_2
    refine lv_iload_n hx hb dX5_foresee_19 rfl (lv_at hl 2 rfl) ?_
    refine lv_bipush (v := 12) hx hb dX5_foresee_20 (by decide) ?_
    replace hF := bnd_some hF
    obtain ⟨z3, hz_3, hF⟩ := hF
    refine krI (kS (As := [.int a2, .int 12]) ⟨hx, hb, hml, hown, hts⟩ (kX5_isBelow l D cy sa a2 12 z3 hz_3 _) (cwS 2 hts gX5_foresee_X5_isBelow rfl rfl rfl (by decide +kernel) ⟨Nat.le_of_ble_eq_true rfl, Nat.le_of_ble_eq_true rfl⟩) hK hP hD hS hA hG [] rfl rfl rfl hl.1 [] rfl (Nat.le_of_ble_eq_true rfl) dX5_foresee_22 ⟨(Nat.le_of_ble_eq_true rfl), (Nat.le_of_ble_eq_true rfl)⟩) hP hD hS hA [] rfl (fun H locs hP hS => ?_)
    refine lv_if_ne (tgt := 38) hx hb dX5_foresee_25 (by decide) (fun c_4 => ?_) (fun c_4 => ?_)
    · replace hF := if_f hF c_4
      refine lv_aload_n hx hb dX5_foresee_38 rfl (lv_at hl 0 rfl) ?_
      refine va_get (D := D) (C := RX5) (T := TX5) (N := 2) hx hb hts hiX5 hown hK hP 0 gtX5_0 rfl 1 (by decide) hf16 (fun _ h9 => h9) rfl dX5_foresee_39 ?_
      refine lv_aload_n hx hb dX5_foresee_42 rfl (lv_at hl 0 rfl) ?_
      refine va_get (D := D) (C := RX5) (T := TX5) (N := 2) hx hb hts hiX5 hown hK hP 0 gtX5_0 rfl 0 (by decide) hf10 (fun _ h9 => h9) rfl dX5_foresee_43 ?_
      replace hF := bnd_some hF
      obtain ⟨z5, hz_5, hF⟩ := hF
      refine kwVE (kV (As := [.ref (h 1)]) ⟨hx, hb, hml, hown, hts⟩ (kX0_becomeLike l D cy sa (fun i => h (i + 21)) (fun i => h (i + 1)) t_day t_coins t_felts t_made t_worth t_rags t_water t_pulp t_beat t_sort t_nM t_mark t_size t_worn t_nT t_skill t_vat t_pair t_nQ t_allS t_pmark t_pgrade t_psheets t_loft m_day m_coins m_felts m_made m_worth m_rags m_water m_pulp m_beat m_sort m_nM m_mark m_size m_worn m_nT m_skill m_vat m_pair m_nQ m_allS m_pmark m_pgrade m_psheets m_loft z5 hz_5 _) (cwV 1 hts gX5_foresee_X0_becomeLike rfl rfl rfl (by decide +kernel) ⟨Nat.le_of_ble_eq_true rfl, Nat.le_of_ble_eq_true rfl⟩) hK hP hD hS hA hG [21, 22, 23, 24, 25, 26, 27, 28, 29, 30, 31, 32, 33, 34, 35, 36, 37, 38, 39, 40, 1, 2, 3, 4, 5, 6, 7, 8, 9, 10, 11, 12, 13, 14, 15, 16, 17, 18, 19, 20] hcX5_X0X0_21_1 ndX0X0_21_1 gtX0X0_0 rfl rfl rfl hl.1 [] rfl (Nat.le_of_ble_eq_true rfl) dX5_foresee_46 ⟨(Nat.le_of_ble_eq_true rfl), (Nat.le_of_ble_eq_true rfl)⟩) hP hD hS hA [21, 22, 23, 24, 25, 26, 27, 28, 29, 30, 31, 32, 33, 34, 35, 36, 37, 38, 39, 40, 1, 2, 3, 4, 5, 6, 7, 8, 9, 10, 11, 12, 13, 14, 15, 16, 17, 18, 19, 20] hcX5_X0X0_21_1 hmX0X0 kpX5_X0X0_21_1 (fun H locs hP hD hS => ?_)
      refine lv_aload_n hx hb dX5_foresee_49 rfl (lv_at hl 0 rfl) ?_
      refine va_get (D := D) (C := RX5) (T := TX5) (N := 2) hx hb hts hiX5 hown hK hP 0 gtX5_0 rfl 1 (by decide) hf16 (fun _ h9 => h9) rfl dX5_foresee_50 ?_
      refine lv_iload_n hx hb dX5_foresee_53 rfl (lv_at hl 1 rfl) ?_
      replace hF := bnd_some hF
      obtain ⟨z6, hz_6, hF⟩ := hF
      refine kwVE (kV (As := [.int a1]) ⟨hx, hb, hml, hown, hts⟩ (kX0_liveDays l D cy sa (fun i => h (i + 21)) z5.1 z5.2.1 z5.2.2.1 z5.2.2.2.1 z5.2.2.2.2.1 z5.2.2.2.2.2.1 z5.2.2.2.2.2.2.1 z5.2.2.2.2.2.2.2.1 z5.2.2.2.2.2.2.2.2.1 z5.2.2.2.2.2.2.2.2.2.1 z5.2.2.2.2.2.2.2.2.2.2.1 z5.2.2.2.2.2.2.2.2.2.2.2.1 z5.2.2.2.2.2.2.2.2.2.2.2.2.1 z5.2.2.2.2.2.2.2.2.2.2.2.2.2.1 z5.2.2.2.2.2.2.2.2.2.2.2.2.2.2.1 z5.2.2.2.2.2.2.2.2.2.2.2.2.2.2.2.1 z5.2.2.2.2.2.2.2.2.2.2.2.2.2.2.2.2.1 z5.2.2.2.2.2.2.2.2.2.2.2.2.2.2.2.2.2.1 z5.2.2.2.2.2.2.2.2.2.2.2.2.2.2.2.2.2.2.1 z5.2.2.2.2.2.2.2.2.2.2.2.2.2.2.2.2.2.2.2.1 z5.2.2.2.2.2.2.2.2.2.2.2.2.2.2.2.2.2.2.2.2.1 z5.2.2.2.2.2.2.2.2.2.2.2.2.2.2.2.2.2.2.2.2.2.1 z5.2.2.2.2.2.2.2.2.2.2.2.2.2.2.2.2.2.2.2.2.2.2.1 z5.2.2.2.2.2.2.2.2.2.2.2.2.2.2.2.2.2.2.2.2.2.2.2 a1 z6 hz_6 _) (cwV 1 hts gX5_foresee_X0_liveDays rfl rfl rfl (by decide +kernel) ⟨Nat.le_of_ble_eq_true rfl, Nat.le_of_ble_eq_true rfl⟩) hK hP hD hS hA hG [21, 22, 23, 24, 25, 26, 27, 28, 29, 30, 31, 32, 33, 34, 35, 36, 37, 38, 39, 40] hcX5_X0_21 ndX0_21 gtX0_0 rfl rfl rfl hl.1 [] rfl (Nat.le_of_ble_eq_true rfl) dX5_foresee_54 ⟨(Nat.le_of_ble_eq_true rfl), (Nat.le_of_ble_eq_true rfl)⟩) hP hD hS hA [21, 22, 23, 24, 25, 26, 27, 28, 29, 30, 31, 32, 33, 34, 35, 36, 37, 38, 39, 40] hcX5_X0_21 hmX0 kpX5_X0_21 (fun H locs hP hD hS => ?_)
      refine lv_aload_n hx hb dX5_foresee_57 rfl (lv_at hl 0 rfl) ?_
      refine va_get (D := D) (C := RX5) (T := TX5) (N := 2) hx hb hts hiX5 hown hK hP 0 gtX5_0 rfl 1 (by decide) hf16 (fun _ h9 => h9) rfl dX5_foresee_58 ?_
      refine lv_iload_n hx hb dX5_foresee_61 rfl (lv_at hl 2 rfl) ?_
      replace hF := bnd_some hF
      obtain ⟨z7, hz_7, hF⟩ := hF
      refine krI (kV (As := [.int a2]) ⟨hx, hb, hml, hown, hts⟩ (kX0_tell l D cy sa (fun i => h (i + 21)) z6.1 z5.2.1 z5.2.2.1 z6.2.1 z6.2.2.1 z5.2.2.2.2.2.1 z5.2.2.2.2.2.2.1 z6.2.2.2.1 z6.2.2.2.2.1 z6.2.2.2.2.2.1 z5.2.2.2.2.2.2.2.2.2.2.1 z5.2.2.2.2.2.2.2.2.2.2.2.1 z5.2.2.2.2.2.2.2.2.2.2.2.2.1 z6.2.2.2.2.2.2.1 z5.2.2.2.2.2.2.2.2.2.2.2.2.2.2.1 z5.2.2.2.2.2.2.2.2.2.2.2.2.2.2.2.1 z5.2.2.2.2.2.2.2.2.2.2.2.2.2.2.2.2.1 z5.2.2.2.2.2.2.2.2.2.2.2.2.2.2.2.2.2.1 z6.2.2.2.2.2.2.2.1 z6.2.2.2.2.2.2.2.2.1 z6.2.2.2.2.2.2.2.2.2.1 z6.2.2.2.2.2.2.2.2.2.2.1 z6.2.2.2.2.2.2.2.2.2.2.2.1 z6.2.2.2.2.2.2.2.2.2.2.2.2 a2 z7 hz_7 _) (cwV 1 hts gX5_foresee_X0_tell rfl rfl rfl (by decide +kernel) ⟨Nat.le_of_ble_eq_true rfl, Nat.le_of_ble_eq_true rfl⟩) hK hP hD hS hA hG [21, 22, 23, 24, 25, 26, 27, 28, 29, 30, 31, 32, 33, 34, 35, 36, 37, 38, 39, 40] hcX5_X0_21 ndX0_21 gtX0_0 rfl rfl rfl hl.1 [] rfl (Nat.le_of_ble_eq_true rfl) dX5_foresee_62 ⟨(Nat.le_of_ble_eq_true rfl), (Nat.le_of_ble_eq_true rfl)⟩) hP hD hS hA [21, 22, 23, 24, 25, 26, 27, 28, 29, 30, 31, 32, 33, 34, 35, 36, 37, 38, 39, 40] hcX5_X0_21 (fun H locs hP hS => ?_)
      cases hF
    · replace hF := if_t hF c_4
      cases hF
      exact hQ _ _ _ _ _ 23 200 27 _ _ "what is not 0 to 11" dX5_foresee_28 dX5_foresee_31 dX5_foresee_32 dX5_foresee_34 dX5_foresee_37 (hts _ (by decide +kernel)) (hts _ (by decide +kernel)) (by decide +kernel) hat27 ⟨by decide +kernel, by decide +kernel⟩ hP hD hS hl.1 (Nat.le_of_ble_eq_true rfl) (Nat.le_of_ble_eq_true rfl) (Nat.le_of_ble_eq_true rfl)
  · replace hF := if_t hF c_2
    cases hF
    exact hQ _ _ _ _ _ 33 204 37 _ _ "days is not 1 to 40" dX5_foresee_9 dX5_foresee_12 dX5_foresee_13 dX5_foresee_15 dX5_foresee_18 (hts _ (by decide +kernel)) (hts _ (by decide +kernel)) (by decide +kernel) hat37 ⟨by decide +kernel, by decide +kernel⟩ hP hD hS hl.1 (Nat.le_of_ble_eq_true rfl) (Nat.le_of_ble_eq_true rfl) (Nat.le_of_ble_eq_true rfl)
