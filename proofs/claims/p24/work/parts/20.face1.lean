def fX5_buy (m_coins : Int32) (m_felts : Int32) (m_rags : FN) (a1 : Int32) (a2 : Int32) : Option ((Int32 × Int32 × Int32 × FN) ⊕ Nat) := (fX5_isBelow a1 4).bind fun z1 => if z1 = 0 then some (.inr 0) else (fX5_isFrom1To a2 99).bind fun z3 => if z3 = 0 then some (.inr 1) else ckI a1 4 (if ((([3, 2, 1, 2] : List Int32).getD a1.toNatClampNeg 0) * a2) ≤ m_coins then if a1 = 3 then if (m_felts + a2) ≤ 90 then (fX0_takeIn m_felts m_rags a1 a2).bind fun z10 => some (.inl (z10.1, m_coins - ((([3, 2, 1, 2] : List Int32).getD a1.toNatClampNeg 0) * a2), z10.2.1, z10.2.2)) else some (.inr 2) else (fX0_takeIn m_felts m_rags a1 a2).bind fun z8 => some (.inl (z8.1, m_coins - ((([3, 2, 1, 2] : List Int32).getD a1.toNatClampNeg 0) * a2), z8.2.1, z8.2.2)) else some (.inr 2))
abbrev rX5_buy : Room := { frames := 2, cells := 0, slots := 0, locals := 43 }
set_option maxHeartbeats 4000000 in
set_option maxRecDepth 100000 in
theorem kX5_buy (l : Launch) (D : va_G) (cy : Nat → ClassId) (sa : SAT) (h : Nat → Nat) (m_day : Int32) (m_coins : Int32) (m_felts : Int32) (m_made : Int32) (m_worth : Int32) (m_rags : FN) (m_water : FN) (m_pulp : FN) (m_beat : FN) (m_sort : FN) (m_nM : Int32) (m_mark : FN) (m_size : FN) (m_worn : FN) (m_nT : Int32) (m_skill : FN) (m_vat : FN) (m_pair : FN) (m_nQ : Int32) (m_allS : Int32) (m_pmark : FN) (m_pgrade : FN) (m_psheets : FN) (m_loft : FN) (t_day : Int32) (t_coins : Int32) (t_felts : Int32) (t_made : Int32) (t_worth : Int32) (t_rags : FN) (t_water : FN) (t_pulp : FN) (t_beat : FN) (t_sort : FN) (t_nM : Int32) (t_mark : FN) (t_size : FN) (t_worn : FN) (t_nT : Int32) (t_skill : FN) (t_vat : FN) (t_pair : FN) (t_nQ : Int32) (t_allS : Int32) (t_pmark : FN) (t_pgrade : FN) (t_psheets : FN) (t_loft : FN) (a1 : Int32) (a2 : Int32) (z : Int32 × Int32 × Int32 × FN) (hF : fX5_buy m_coins m_felts m_rags a1 a2 = some (.inl z)) : KI l D (tyW cy) sa yX5_buy wsX5_buy rX5_buy [.ref (h 0), .int a1, .int a2] (wX5 cy h m_day m_coins m_felts m_made m_worth m_rags m_water m_pulp m_beat m_sort m_nM m_mark m_size m_worn m_nT m_skill m_vat m_pair m_nQ m_allS m_pmark m_pgrade m_psheets m_loft t_day t_coins t_felts t_made t_worth t_rags t_water t_pulp t_beat t_sort t_nM t_mark t_size t_worn t_nT t_skill t_vat t_pair t_nQ t_allS t_pmark t_pgrade t_psheets t_loft) z.1 (fun _ => wX5 cy h m_day z.2.1 z.2.2.1 m_made m_worth z.2.2.2 m_water m_pulp m_beat m_sort m_nM m_mark m_size m_worn m_nT m_skill m_vat m_pair m_nQ m_allS m_pmark m_pgrade m_psheets m_loft t_day t_coins t_felts t_made t_worth t_rags t_water t_pulp t_beat t_sort t_nM t_mark t_size t_worn t_nT t_skill t_vat t_pair t_nQ t_allS t_pmark t_pgrade t_psheets t_loft) 0 0 := by
  refine KI.of (cc := cX5_buy) (maxL := 4) (by decide +kernel) rfl (Nat.le_of_ble_eq_true rfl) ?_
  intro p e s m args below meth c A ls Q hE hQ
  obtain ⟨hx, hb, hml, hown, hts, hA, hP, hK, hD, hG, hl, hnm⟩ := hE
  replace hown : s.vm.findClass RX5 = some m.cls := hown
  have hiX0 : ∀ w ∈ u_ws RX0 TX0 12, w ∈ wsX5_buy := by decide +kernel
  have hiX5 : ∀ w ∈ u_ws RX5 TX5 2, w ∈ wsX5_buy := by decide +kernel
  have hf10 : (Cond.fieldLink RX5 10 "RagVats" "mill" "LRagVats$Mill;").before args s = true := hts _ (by decide +kernel)
  have hf38 : (Cond.fieldLink RX5 38 "RagVats" "PRICES" "[I").before args s = true := hts _ (by decide +kernel)
  have hn42 : (Cond.fieldLinkNest RX5 42 "RagVats$Mill" "coins" "I" "RagVats").before args s = true := va_Nw.use rfl (hG.1.1 _ (by decide +kernel))
  have hn51 : (Cond.fieldLinkNest RX5 51 "RagVats$Mill" "felts" "I" "RagVats").before args s = true := va_Nw.use rfl (hG.1.1 _ (by decide +kernel))
  replace hl : lv_has ls 4 [(0, .ref (h 0)), (1, .int a1), (2, .int a2)] := hl
  have hS : va_S A s.heap s.heap [] := va_S.rf
  unfold fX5_buy at hF
  refine lv_iload_n hx hb dX5_buy_0 rfl (lv_at hl 1 rfl) ?_
  refine lv_iconst (v := 4) hx hb dX5_buy_1 (by decide) ?_
  replace hF := bnd_some hF
  obtain ⟨z1, hz_1, hF⟩ := hF
  refine krI (kS (As := [.int a1, .int 4]) ⟨hx, hb, hml, hown, hts⟩ (kX5_isBelow l D cy sa a1 4 z1 hz_1 _) (cwS 2 hts gX5_buy_X5_isBelow rfl rfl rfl (by decide +kernel) ⟨Nat.le_of_ble_eq_true rfl, Nat.le_of_ble_eq_true rfl⟩) hK hP hD hS hA hG [] rfl rfl rfl hl.1 [] rfl (Nat.le_of_ble_eq_true rfl) dX5_buy_2 ⟨(Nat.le_of_ble_eq_true rfl), (Nat.le_of_ble_eq_true rfl)⟩) hP hD hS hA [] rfl (fun H locs hP hS => ?_)
  refine lv_if_ne (tgt := 18) hx hb dX5_buy_5 (by decide) (fun c_2 => ?_) (fun c_2 => ?_)
  · replace hF := if_f hF c_2
    refine lv_iload_n hx hb dX5_buy_18 rfl (lv_at hl 2 rfl) ?_
    refine lv_bipush (v := 99) hx hb dX5_buy_19 (by decide) ?_
    replace hF := bnd_some hF
    obtain ⟨z3, hz_3, hF⟩ := hF
    refine krI (kS (As := [.int a2, .int 99]) ⟨hx, hb, hml, hown, hts⟩ (kX5_isFrom1To l D cy sa a2 99 z3 hz_3 _) (cwS 2 hts gX5_buy_X5_isFrom1To rfl rfl rfl (by decide +kernel) ⟨Nat.le_of_ble_eq_true rfl, Nat.le_of_ble_eq_true rfl⟩) hK hP hD hS hA hG [] rfl rfl rfl hl.1 [] rfl (Nat.le_of_ble_eq_true rfl) dX5_buy_21 ⟨(Nat.le_of_ble_eq_true rfl), (Nat.le_of_ble_eq_true rfl)⟩) hP hD hS hA [] rfl (fun H locs hP hS => ?_)
    refine lv_if_ne (tgt := 37) hx hb dX5_buy_24 (by decide) (fun c_4 => ?_) (fun c_4 => ?_)
    · replace hF := if_f hF c_4
      refine va_gets (C := RX5) (n := "PRICES") (d := "[I") hx hb hG.2.1.1 hS hown hf38 (fun _ h9 => h9) dX5_buy_37 ?_
      refine lv_iload_n hx hb dX5_buy_40 rfl (lv_at hl 1 rfl) ?_
      replace hF := ckI_some hF
      obtain ⟨hi_5, hF⟩ := hF
      refine va_ti (v := .int (([3, 2, 1, 2] : List Int32).getD a1.toNatClampNeg 0)) hx hb hG.2.1.2 hS hi_5 rfl dX5_buy_41 ?_
      refine lv_iload_n hx hb dX5_buy_42 rfl (lv_at hl 2 rfl) ?_
      refine lv_imul hx hb dX5_buy_43 ?_
      refine lv_istore_n (lv' := [(3, .int ((([3, 2, 1, 2] : List Int32).getD a1.toNatClampNeg 0) * a2)), (0, .ref (h 0)), (1, .int a1), (2, .int a2)]) hx hb dX5_buy_44 rfl hl (by decide) rfl (fun ls hl => ?_)
      refine lv_aload_n hx hb dX5_buy_45 rfl (lv_at hl 1 rfl) ?_
      refine va_get (D := D) (C := RX5) (T := TX5) (N := 2) hx hb hts hiX5 hown hK hP 0 gtX5_0 rfl 0 (by decide) hf10 (fun _ h9 => h9) rfl dX5_buy_46 ?_
      refine va_getN (host := "RagVats") (D := D) (C := RX0) (T := TX0) (N := 12) hx hb hts hiX0 hown hK hP 1 gtX5_1 rfl 1 (by decide) hn42 (fun _ h9 => h9) rfl dX5_buy_49 ?_
      refine lv_iload_n hx hb dX5_buy_52 rfl (lv_at hl 0 rfl) ?_
      refine lv_icmp_ge (tgt := 66) hx hb dX5_buy_53 (by decide) (fun c_6 => ?_) (fun c_6 => ?_)
      · replace hF := if_t hF c_6
        refine lv_iload_n hx hb dX5_buy_66 rfl (lv_at hl 2 rfl) ?_
        refine lv_iconst (v := 3) hx hb dX5_buy_67 (by decide) ?_
        refine lv_icmp_ne (tgt := 95) hx hb dX5_buy_68 (by decide) (fun c_7 => ?_) (fun c_7 => ?_)
        · replace hF := if_f hF c_7
          refine lv_aload_n hx hb dX5_buy_95 rfl (lv_at hl 1 rfl) ?_
          refine va_get (D := D) (C := RX5) (T := TX5) (N := 2) hx hb hts hiX5 hown hK hP 0 gtX5_0 rfl 0 (by decide) hf10 (fun _ h9 => h9) rfl dX5_buy_96 ?_
          refine lv_dup hx hb dX5_buy_99 rfl ?_
          refine va_getN (host := "RagVats") (D := D) (C := RX0) (T := TX0) (N := 12) hx hb hts hiX0 hown hK hP 1 gtX5_1 rfl 1 (by decide) hn42 (fun _ h9 => h9) rfl dX5_buy_100 ?_
          refine lv_iload_n hx hb dX5_buy_103 rfl (lv_at hl 0 rfl) ?_
          refine lv_isub hx hb dX5_buy_104 ?_
          refine va_putN (host := "RagVats") (D := D) (v := .int (m_coins - ((([3, 2, 1, 2] : List Int32).getD a1.toNatClampNeg 0) * a2))) (ty := .int) (C := RX0) (T := TX0) (N := 12) hx hb hts hiX0 tyX0 tyX0_ok nmX0 hown hK hP hD hS 1 gtX5_1 rfl 1 (by decide) hn42 (fun _ h9 => h9) rfl (by decide +kernel) rfl rfl (Nat.le_of_ble_eq_true rfl) dX5_buy_105 (fun H locs hP hD hS => ?_)
          rw [stX5_1_1] at hP hD
          refine lv_aload_n hx hb dX5_buy_108 rfl (lv_at hl 1 rfl) ?_
          refine va_get (D := D) (C := RX5) (T := TX5) (N := 2) hx hb hts hiX5 hown hK hP 0 gtX5_0 rfl 0 (by decide) hf10 (fun _ h9 => h9) rfl dX5_buy_109 ?_
          refine lv_iload_n hx hb dX5_buy_112 rfl (lv_at hl 2 rfl) ?_
          refine lv_iload_n hx hb dX5_buy_113 rfl (lv_at hl 3 rfl) ?_
          replace hF := bnd_some hF
          obtain ⟨z8, hz_8, hF⟩ := hF
          refine kwIE (kV (As := [.int a1, .int a2]) ⟨hx, hb, hml, hown, hts⟩ (kX0_takeIn l D cy sa (fun i => h (i + 1)) m_day (m_coins - ((([3, 2, 1, 2] : List Int32).getD a1.toNatClampNeg 0) * a2)) m_felts m_made m_worth m_rags m_water m_pulp m_beat m_sort m_nM m_mark m_size m_worn m_nT m_skill m_vat m_pair m_nQ m_allS m_pmark m_pgrade m_psheets m_loft a1 a2 z8 hz_8 _) (cwV 2 hts gX5_buy_X0_takeIn rfl rfl rfl (by decide +kernel) ⟨Nat.le_of_ble_eq_true rfl, Nat.le_of_ble_eq_true rfl⟩) hK hP hD hS hA hG [1, 2, 3, 4, 5, 6, 7, 8, 9, 10, 11, 12, 13, 14, 15, 16, 17, 18, 19, 20] hcX5_X0_1 ndX0_1 gtX0_0 rfl rfl rfl hl.1 [] rfl (Nat.le_of_ble_eq_true rfl) dX5_buy_114 ⟨(Nat.le_of_ble_eq_true rfl), (Nat.le_of_ble_eq_true rfl)⟩) hP hD hS hA [1, 2, 3, 4, 5, 6, 7, 8, 9, 10, 11, 12, 13, 14, 15, 16, 17, 18, 19, 20] hcX5_X0_1 hmX0 kpX5_X0_1 (fun H locs hP hD hS => ?_)
          cases hF
          exact hQ _ _ _ _ _ _ (fun _ => 0) dX5_buy_117 hP hD hS (Nat.le_of_ble_eq_true rfl) (Nat.le_of_ble_eq_true rfl)
        · replace hF := if_t hF c_7
          refine lv_aload_n hx hb dX5_buy_71 rfl (lv_at hl 1 rfl) ?_
          refine va_get (D := D) (C := RX5) (T := TX5) (N := 2) hx hb hts hiX5 hown hK hP 0 gtX5_0 rfl 0 (by decide) hf10 (fun _ h9 => h9) rfl dX5_buy_72 ?_
          refine va_getN (host := "RagVats") (D := D) (C := RX0) (T := TX0) (N := 12) hx hb hts hiX0 hown hK hP 1 gtX5_1 rfl 2 (by decide) hn51 (fun _ h9 => h9) rfl dX5_buy_75 ?_
          refine lv_iload_n hx hb dX5_buy_78 rfl (lv_at hl 3 rfl) ?_
          refine lv_iadd hx hb dX5_buy_79 ?_
          refine lv_bipush (v := 90) hx hb dX5_buy_80 (by decide) ?_
          refine lv_icmp_le (tgt := 95) hx hb dX5_buy_82 (by decide) (fun c_9 => ?_) (fun c_9 => ?_)
          · replace hF := if_t hF c_9
            refine lv_aload_n hx hb dX5_buy_95 rfl (lv_at hl 1 rfl) ?_
            refine va_get (D := D) (C := RX5) (T := TX5) (N := 2) hx hb hts hiX5 hown hK hP 0 gtX5_0 rfl 0 (by decide) hf10 (fun _ h9 => h9) rfl dX5_buy_96 ?_
            refine lv_dup hx hb dX5_buy_99 rfl ?_
            refine va_getN (host := "RagVats") (D := D) (C := RX0) (T := TX0) (N := 12) hx hb hts hiX0 hown hK hP 1 gtX5_1 rfl 1 (by decide) hn42 (fun _ h9 => h9) rfl dX5_buy_100 ?_
            refine lv_iload_n hx hb dX5_buy_103 rfl (lv_at hl 0 rfl) ?_
            refine lv_isub hx hb dX5_buy_104 ?_
            refine va_putN (host := "RagVats") (D := D) (v := .int (m_coins - ((([3, 2, 1, 2] : List Int32).getD a1.toNatClampNeg 0) * a2))) (ty := .int) (C := RX0) (T := TX0) (N := 12) hx hb hts hiX0 tyX0 tyX0_ok nmX0 hown hK hP hD hS 1 gtX5_1 rfl 1 (by decide) hn42 (fun _ h9 => h9) rfl (by decide +kernel) rfl rfl (Nat.le_of_ble_eq_true rfl) dX5_buy_105 (fun H locs hP hD hS => ?_)
            rw [stX5_1_1] at hP hD
            refine lv_aload_n hx hb dX5_buy_108 rfl (lv_at hl 1 rfl) ?_
            refine va_get (D := D) (C := RX5) (T := TX5) (N := 2) hx hb hts hiX5 hown hK hP 0 gtX5_0 rfl 0 (by decide) hf10 (fun _ h9 => h9) rfl dX5_buy_109 ?_
            refine lv_iload_n hx hb dX5_buy_112 rfl (lv_at hl 2 rfl) ?_
            refine lv_iload_n hx hb dX5_buy_113 rfl (lv_at hl 3 rfl) ?_
            replace hF := bnd_some hF
            obtain ⟨z10, hz_10, hF⟩ := hF
            refine kwIE (kV (As := [.int a1, .int a2]) ⟨hx, hb, hml, hown, hts⟩ (kX0_takeIn l D cy sa (fun i => h (i + 1)) m_day (m_coins - ((([3, 2, 1, 2] : List Int32).getD a1.toNatClampNeg 0) * a2)) m_felts m_made m_worth m_rags m_water m_pulp m_beat m_sort m_nM m_mark m_size m_worn m_nT m_skill m_vat m_pair m_nQ m_allS m_pmark m_pgrade m_psheets m_loft a1 a2 z10 hz_10 _) (cwV 2 hts gX5_buy_X0_takeIn rfl rfl rfl (by decide +kernel) ⟨Nat.le_of_ble_eq_true rfl, Nat.le_of_ble_eq_true rfl⟩) hK hP hD hS hA hG [1, 2, 3, 4, 5, 6, 7, 8, 9, 10, 11, 12, 13, 14, 15, 16, 17, 18, 19, 20] hcX5_X0_1 ndX0_1 gtX0_0 rfl rfl rfl hl.1 [] rfl (Nat.le_of_ble_eq_true rfl) dX5_buy_114 ⟨(Nat.le_of_ble_eq_true rfl), (Nat.le_of_ble_eq_true rfl)⟩) hP hD hS hA [1, 2, 3, 4, 5, 6, 7, 8, 9, 10, 11, 12, 13, 14, 15, 16, 17, 18, 19, 20] hcX5_X0_1 hmX0 kpX5_X0_1 (fun H locs hP hD hS => ?_)
            cases hF
            exact hQ _ _ _ _ _ _ (fun _ => 0) dX5_buy_117 hP hD hS (Nat.le_of_ble_eq_true rfl) (Nat.le_of_ble_eq_true rfl)
          · replace hF := if_f hF c_9
            cases hF
      · replace hF := if_f hF c_6
        cases hF
    · replace hF := if_t hF c_4
      cases hF
  · replace hF := if_t hF c_2
    cases hF
abbrev rX5_buyx : Room := { frames := 6, cells := 1, slots := 6, locals := 98 }
set_option maxHeartbeats 4000000 in
set_option maxRecDepth 100000 in
theorem kX5_buyx (l : Launch) (D : va_G) (cy : Nat → ClassId) (sa : SAT) (h : Nat → Nat) (m_day : Int32) (m_coins : Int32) (m_felts : Int32) (m_made : Int32) (m_worth : Int32) (m_rags : FN) (m_water : FN) (m_pulp : FN) (m_beat : FN) (m_sort : FN) (m_nM : Int32) (m_mark : FN) (m_size : FN) (m_worn : FN) (m_nT : Int32) (m_skill : FN) (m_vat : FN) (m_pair : FN) (m_nQ : Int32) (m_allS : Int32) (m_pmark : FN) (m_pgrade : FN) (m_psheets : FN) (m_loft : FN) (t_day : Int32) (t_coins : Int32) (t_felts : Int32) (t_made : Int32) (t_worth : Int32) (t_rags : FN) (t_water : FN) (t_pulp : FN) (t_beat : FN) (t_sort : FN) (t_nM : Int32) (t_mark : FN) (t_size : FN) (t_worn : FN) (t_nT : Int32) (t_skill : FN) (t_vat : FN) (t_pair : FN) (t_nQ : Int32) (t_allS : Int32) (t_pmark : FN) (t_pgrade : FN) (t_psheets : FN) (t_loft : FN) (a1 : Int32) (a2 : Int32) (hst : l.stackTraces = false) (kx : Nat) (hF : fX5_buy m_coins m_felts m_rags a1 a2 = some (.inr kx)) : KX l D (tyW cy) sa yX5_buy wsX5_buy rX5_buyx [.ref (h 0), .int a1, .int a2] (wX5 cy h m_day m_coins m_felts m_made m_worth m_rags m_water m_pulp m_beat m_sort m_nM m_mark m_size m_worn m_nT m_skill m_vat m_pair m_nQ m_allS m_pmark m_pgrade m_psheets m_loft t_day t_coins t_felts t_made t_worth t_rags t_water t_pulp t_beat t_sort t_nM t_mark t_size t_worn t_nT t_skill t_vat t_pair t_nQ t_allS t_pmark t_pgrade t_psheets t_loft) (exN kx) 1 6 := by
  refine KX.of (cc := cX5_buy) (maxL := 4) (ret := (some .int)) hst (by decide) rfl (Nat.le_of_ble_eq_true rfl) (Nat.le_of_ble_eq_true rfl) (Nat.le_of_ble_eq_true rfl) (Nat.le_refl _) (Nat.le_refl _) ?_
  intro p e s m args below meth c A ls Q hE hQ
  obtain ⟨hx, hb, hml, hown, hts, hA, hP, hK, hD, hG, hl, hnm⟩ := hE
  replace hown : s.vm.findClass RX5 = some m.cls := hown
  have hiX0 : ∀ w ∈ u_ws RX0 TX0 12, w ∈ wsX5_buy := by decide +kernel
  have hiX5 : ∀ w ∈ u_ws RX5 TX5 2, w ∈ wsX5_buy := by decide +kernel
  have hf10 : (Cond.fieldLink RX5 10 "RagVats" "mill" "LRagVats$Mill;").before args s = true := hts _ (by decide +kernel)
  have hf38 : (Cond.fieldLink RX5 38 "RagVats" "PRICES" "[I").before args s = true := hts _ (by decide +kernel)
  have hn42 : (Cond.fieldLinkNest RX5 42 "RagVats$Mill" "coins" "I" "RagVats").before args s = true := va_Nw.use rfl (hG.1.1 _ (by decide +kernel))
  have hn51 : (Cond.fieldLinkNest RX5 51 "RagVats$Mill" "felts" "I" "RagVats").before args s = true := va_Nw.use rfl (hG.1.1 _ (by decide +kernel))
  have hat27 : ∀ w ∈ vx_atS RX5 27 "java/lang/IndexOutOfBoundsException" exNames, w.before args s = true := vx_hat (B := [.castable "java/lang/IndexOutOfBoundsException" "java/lang/IndexOutOfBoundsException", .declares (Bundle.initS "java/lang/RuntimeException"), .declares (Bundle.initS "java/lang/Exception"), .declares (Bundle.initS "java/lang/Throwable")]) (fun w h => hts w ((by decide +kernel : ∀ w ∈ (vx_atS RX5 27 "java/lang/IndexOutOfBoundsException" exNames).filter goodWord, w ∈ wsX5_buy) w h)) (by decide +kernel) (vx_c (va_Nw.use rfl (hG.1.1 _ (by decide +kernel))) (vx_c (va_Nw.use rfl (hG.1.1 _ (by decide +kernel))) (vx_c (va_Nw.use rfl (hG.1.1 _ (by decide +kernel))) (vx_c (va_Nw.use rfl (hG.1.1 _ (by decide +kernel))) vx_n))))
  have hat37 : ∀ w ∈ vx_atS RX5 37 "java/lang/IllegalArgumentException" exNames, w.before args s = true := vx_hat (B := [.castable "java/lang/IllegalArgumentException" "java/lang/IllegalArgumentException", .declares (Bundle.initS "java/lang/RuntimeException"), .declares (Bundle.initS "java/lang/Exception"), .declares (Bundle.initS "java/lang/Throwable")]) (fun w h => hts w ((by decide +kernel : ∀ w ∈ (vx_atS RX5 37 "java/lang/IllegalArgumentException" exNames).filter goodWord, w ∈ wsX5_buy) w h)) (by decide +kernel) (vx_c (va_Nw.use rfl (hG.1.1 _ (by decide +kernel))) (vx_c (va_Nw.use rfl (hG.1.1 _ (by decide +kernel))) (vx_c (va_Nw.use rfl (hG.1.1 _ (by decide +kernel))) (vx_c (va_Nw.use rfl (hG.1.1 _ (by decide +kernel))) vx_n))))
  have hat50 : ∀ w ∈ vx_atS RX5 50 "java/lang/IllegalStateException" exNames, w.before args s = true := vx_hat (B := [.castable "java/lang/IllegalStateException" "java/lang/IllegalStateException", .declares (Bundle.initS "java/lang/RuntimeException"), .declares (Bundle.initS "java/lang/Exception"), .declares (Bundle.initS "java/lang/Throwable")]) (fun w h => hts w ((by decide +kernel : ∀ w ∈ (vx_atS RX5 50 "java/lang/IllegalStateException" exNames).filter goodWord, w ∈ wsX5_buy) w h)) (by decide +kernel) (vx_c (va_Nw.use rfl (hG.1.1 _ (by decide +kernel))) (vx_c (va_Nw.use rfl (hG.1.1 _ (by decide +kernel))) (vx_c (va_Nw.use rfl (hG.1.1 _ (by decide +kernel))) (vx_c (va_Nw.use rfl (hG.1.1 _ (by decide +kernel))) vx_n))))
  replace hl : lv_has ls 4 [(0, .ref (h 0)), (1, .int a1), (2, .int a2)] := hl
  have hS : va_S A s.heap s.heap [] := va_S.rf
  unfold fX5_buy at hF
  refine lv_iload_n hx hb dX5_buy_0 rfl (lv_at hl 1 rfl) ?_
  refine lv_iconst (v := 4) hx hb dX5_buy_1 (by decide) ?_
  replace hF := bnd_some hF
  obtain ⟨z1, hz_1, hF⟩ := hF
  refine krI (kS (As := [.int a1, .int 4]) ⟨hx, hb, hml, hown, hts⟩ (kX5_isBelow l D cy sa a1 4 z1 hz_1 _) (cwS 2 hts gX5_buy_X5_isBelow rfl rfl rfl (by decide +kernel) ⟨Nat.le_of_ble_eq_true rfl, Nat.le_of_ble_eq_true rfl⟩) hK hP hD hS hA hG [] rfl rfl rfl hl.1 [] rfl (Nat.le_of_ble_eq_true rfl) dX5_buy_2 ⟨(Nat.le_of_ble_eq_true rfl), (Nat.le_of_ble_eq_true rfl)⟩) hP hD hS hA [] rfl (fun H locs hP hS => ?_)
  refine lv_if_ne (tgt := 18) hx hb dX5_buy_5 (by decide) (fun c_2 => ?_) (fun c_2 => ?_)
  · replace hF := if_f hF c_2
    refine lv_iload_n hx hb dX5_buy_18 rfl (lv_at hl 2 rfl) ?_
    refine lv_bipush (v := 99) hx hb dX5_buy_19 (by decide) ?_
    replace hF := bnd_some hF
    obtain ⟨z3, hz_3, hF⟩ := hF
    refine krI (kS (As := [.int a2, .int 99]) ⟨hx, hb, hml, hown, hts⟩ (kX5_isFrom1To l D cy sa a2 99 z3 hz_3 _) (cwS 2 hts gX5_buy_X5_isFrom1To rfl rfl rfl (by decide +kernel) ⟨Nat.le_of_ble_eq_true rfl, Nat.le_of_ble_eq_true rfl⟩) hK hP hD hS hA hG [] rfl rfl rfl hl.1 [] rfl (Nat.le_of_ble_eq_true rfl) dX5_buy_21 ⟨(Nat.le_of_ble_eq_true rfl), (Nat.le_of_ble_eq_true rfl)⟩) hP hD hS hA [] rfl (fun H locs hP hS => ?_)
    refine lv_if_ne (tgt := 37) hx hb dX5_buy_24 (by decide) (fun c_4 => ?_) (fun c_4 => ?_)
    · replace hF := if_f hF c_4
      refine va_gets (C := RX5) (n := "PRICES") (d := "[I") hx hb hG.2.1.1 hS hown hf38 (fun _ h9 => h9) dX5_buy_37 ?_
      refine lv_iload_n hx hb dX5_buy_40 rfl (lv_at hl 1 rfl) ?_
      replace hF := ckI_some hF
      obtain ⟨hi_5, hF⟩ := hF
      refine va_ti (v := .int (([3, 2, 1, 2] : List Int32).getD a1.toNatClampNeg 0)) hx hb hG.2.1.2 hS hi_5 rfl dX5_buy_41 ?_
      refine lv_iload_n hx hb dX5_buy_42 rfl (lv_at hl 2 rfl) ?_
      refine lv_imul hx hb dX5_buy_43 ?_
      refine lv_istore_n (lv' := [(3, .int ((([3, 2, 1, 2] : List Int32).getD a1.toNatClampNeg 0) * a2)), (0, .ref (h 0)), (1, .int a1), (2, .int a2)]) hx hb dX5_buy_44 rfl hl (by decide) rfl (fun ls hl => ?_)
      refine lv_aload_n hx hb dX5_buy_45 rfl (lv_at hl 1 rfl) ?_
      refine va_get (D := D) (C := RX5) (T := TX5) (N := 2) hx hb hts hiX5 hown hK hP 0 gtX5_0 rfl 0 (by decide) hf10 (fun _ h9 => h9) rfl dX5_buy_46 ?_
      refine va_getN (host := "RagVats") (D := D) (C := RX0) (T := TX0) (N := 12) hx hb hts hiX0 hown hK hP 1 gtX5_1 rfl 1 (by decide) hn42 (fun _ h9 => h9) rfl dX5_buy_49 ?_
      refine lv_iload_n hx hb dX5_buy_52 rfl (lv_at hl 0 rfl) ?_
      refine lv_icmp_ge (tgt := 66) hx hb dX5_buy_53 (by decide) (fun c_6 => ?_) (fun c_6 => ?_)
      · replace hF := if_t hF c_6
        refine lv_iload_n hx hb dX5_buy_66 rfl (lv_at hl 2 rfl) ?_
        refine lv_iconst (v := 3) hx hb dX5_buy_67 (by decide) ?_
        refine lv_icmp_ne (tgt := 95) hx hb dX5_buy_68 (by decide) (fun c_7 => ?_) (fun c_7 => ?_)
        · replace hF := if_f hF c_7
          refine lv_aload_n hx hb dX5_buy_95 rfl (lv_at hl 1 rfl) ?_
          refine va_get (D := D) (C := RX5) (T := TX5) (N := 2) hx hb hts hiX5 hown hK hP 0 gtX5_0 rfl 0 (by decide) hf10 (fun _ h9 => h9) rfl dX5_buy_96 ?_
          refine lv_dup hx hb dX5_buy_99 rfl ?_
          refine va_getN (host := "RagVats") (D := D) (C := RX0) (T := TX0) (N := 12) hx hb hts hiX0 hown hK hP 1 gtX5_1 rfl 1 (by decide) hn42 (fun _ h9 => h9) rfl dX5_buy_100 ?_
          refine lv_iload_n hx hb dX5_buy_103 rfl (lv_at hl 0 rfl) ?_
          refine lv_isub hx hb dX5_buy_104 ?_
          refine va_putN (host := "RagVats") (D := D) (v := .int (m_coins - ((([3, 2, 1, 2] : List Int32).getD a1.toNatClampNeg 0) * a2))) (ty := .int) (C := RX0) (T := TX0) (N := 12) hx hb hts hiX0 tyX0 tyX0_ok nmX0 hown hK hP hD hS 1 gtX5_1 rfl 1 (by decide) hn42 (fun _ h9 => h9) rfl (by decide +kernel) rfl rfl (Nat.le_of_ble_eq_true rfl) dX5_buy_105 (fun H locs hP hD hS => ?_)
          rw [stX5_1_1] at hP hD
          refine lv_aload_n hx hb dX5_buy_108 rfl (lv_at hl 1 rfl) ?_
          refine va_get (D := D) (C := RX5) (T := TX5) (N := 2) hx hb hts hiX5 hown hK hP 0 gtX5_0 rfl 0 (by decide) hf10 (fun _ h9 => h9) rfl dX5_buy_109 ?_
          refine lv_iload_n hx hb dX5_buy_112 rfl (lv_at hl 2 rfl) ?_
          refine lv_iload_n hx hb dX5_buy_113 rfl (lv_at hl 3 rfl) ?_
          replace hF := bnd_some hF
          obtain ⟨z8, hz_8, hF⟩ := hF
          refine kwIE (kV (As := [.int a1, .int a2]) ⟨hx, hb, hml, hown, hts⟩ (kX0_takeIn l D cy sa (fun i => h (i + 1)) m_day (m_coins - ((([3, 2, 1, 2] : List Int32).getD a1.toNatClampNeg 0) * a2)) m_felts m_made m_worth m_rags m_water m_pulp m_beat m_sort m_nM m_mark m_size m_worn m_nT m_skill m_vat m_pair m_nQ m_allS m_pmark m_pgrade m_psheets m_loft a1 a2 z8 hz_8 _) (cwV 2 hts gX5_buy_X0_takeIn rfl rfl rfl (by decide +kernel) ⟨Nat.le_of_ble_eq_true rfl, Nat.le_of_ble_eq_true rfl⟩) hK hP hD hS hA hG [1, 2, 3, 4, 5, 6, 7, 8, 9, 10, 11, 12, 13, 14, 15, 16, 17, 18, 19, 20] hcX5_X0_1 ndX0_1 gtX0_0 rfl rfl rfl hl.1 [] rfl (Nat.le_of_ble_eq_true rfl) dX5_buy_114 ⟨(Nat.le_of_ble_eq_true rfl), (Nat.le_of_ble_eq_true rfl)⟩) hP hD hS hA [1, 2, 3, 4, 5, 6, 7, 8, 9, 10, 11, 12, 13, 14, 15, 16, 17, 18, 19, 20] hcX5_X0_1 hmX0 kpX5_X0_1 (fun H locs hP hD hS => ?_)
          cases hF
        · replace hF := if_t hF c_7
          refine lv_aload_n hx hb dX5_buy_71 rfl (lv_at hl 1 rfl) ?_
          refine va_get (D := D) (C := RX5) (T := TX5) (N := 2) hx hb hts hiX5 hown hK hP 0 gtX5_0 rfl 0 (by decide) hf10 (fun _ h9 => h9) rfl dX5_buy_72 ?_
          refine va_getN (host := "RagVats") (D := D) (C := RX0) (T := TX0) (N := 12) hx hb hts hiX0 hown hK hP 1 gtX5_1 rfl 2 (by decide) hn51 (fun _ h9 => h9) rfl dX5_buy_75 ?_
          refine lv_iload_n hx hb dX5_buy_78 rfl (lv_at hl 3 rfl) ?_
          refine lv_iadd hx hb dX5_buy_79 ?_
          refine lv_bipush (v := 90) hx hb dX5_buy_80 (by decide) ?_
          refine lv_icmp_le (tgt := 95) hx hb dX5_buy_82 (by decide) (fun c_9 => ?_) (fun c_9 => ?_)
          · replace hF := if_t hF c_9
            refine lv_aload_n hx hb dX5_buy_95 rfl (lv_at hl 1 rfl) ?_
            refine va_get (D := D) (C := RX5) (T := TX5) (N := 2) hx hb hts hiX5 hown hK hP 0 gtX5_0 rfl 0 (by decide) hf10 (fun _ h9 => h9) rfl dX5_buy_96 ?_
            refine lv_dup hx hb dX5_buy_99 rfl ?_
            refine va_getN (host := "RagVats") (D := D) (C := RX0) (T := TX0) (N := 12) hx hb hts hiX0 hown hK hP 1 gtX5_1 rfl 1 (by decide) hn42 (fun _ h9 => h9) rfl dX5_buy_100 ?_
            refine lv_iload_n hx hb dX5_buy_103 rfl (lv_at hl 0 rfl) ?_
            refine lv_isub hx hb dX5_buy_104 ?_
            refine va_putN (host := "RagVats") (D := D) (v := .int (m_coins - ((([3, 2, 1, 2] : List Int32).getD a1.toNatClampNeg 0) * a2))) (ty := .int) (C := RX0) (T := TX0) (N := 12) hx hb hts hiX0 tyX0 tyX0_ok nmX0 hown hK hP hD hS 1 gtX5_1 rfl 1 (by decide) hn42 (fun _ h9 => h9) rfl (by decide +kernel) rfl rfl (Nat.le_of_ble_eq_true rfl) dX5_buy_105 (fun H locs hP hD hS => ?_)
            rw [stX5_1_1] at hP hD
            refine lv_aload_n hx hb dX5_buy_108 rfl (lv_at hl 1 rfl) ?_
            refine va_get (D := D) (C := RX5) (T := TX5) (N := 2) hx hb hts hiX5 hown hK hP 0 gtX5_0 rfl 0 (by decide) hf10 (fun _ h9 => h9) rfl dX5_buy_109 ?_
            refine lv_iload_n hx hb dX5_buy_112 rfl (lv_at hl 2 rfl) ?_
            refine lv_iload_n hx hb dX5_buy_113 rfl (lv_at hl 3 rfl) ?_
            replace hF := bnd_some hF
            obtain ⟨z10, hz_10, hF⟩ := hF
            refine kwIE (kV (As := [.int a1, .int a2]) ⟨hx, hb, hml, hown, hts⟩ (kX0_takeIn l D cy sa (fun i => h (i + 1)) m_day (m_coins - ((([3, 2, 1, 2] : List Int32).getD a1.toNatClampNeg 0) * a2)) m_felts m_made m_worth m_rags m_water m_pulp m_beat m_sort m_nM m_mark m_size m_worn m_nT m_skill m_vat m_pair m_nQ m_allS m_pmark m_pgrade m_psheets m_loft a1 a2 z10 hz_10 _) (cwV 2 hts gX5_buy_X0_takeIn rfl rfl rfl (by decide +kernel) ⟨Nat.le_of_ble_eq_true rfl, Nat.le_of_ble_eq_true rfl⟩) hK hP hD hS hA hG [1, 2, 3, 4, 5, 6, 7, 8, 9, 10, 11, 12, 13, 14, 15, 16, 17, 18, 19, 20] hcX5_X0_1 ndX0_1 gtX0_0 rfl rfl rfl hl.1 [] rfl (Nat.le_of_ble_eq_true rfl) dX5_buy_114 ⟨(Nat.le_of_ble_eq_true rfl), (Nat.le_of_ble_eq_true rfl)⟩) hP hD hS hA [1, 2, 3, 4, 5, 6, 7, 8, 9, 10, 11, 12, 13, 14, 15, 16, 17, 18, 19, 20] hcX5_X0_1 hmX0 kpX5_X0_1 (fun H locs hP hD hS => ?_)
            cases hF
          · replace hF := if_f hF c_9
            cases hF
            exact hQ _ _ _ _ _ 46 54 50 _ _ "more than 90 felts" dX5_buy_85 dX5_buy_88 dX5_buy_89 dX5_buy_91 dX5_buy_94 (hts _ (by decide +kernel)) (hts _ (by decide +kernel)) (by decide +kernel) hat50 ⟨by decide +kernel, by decide +kernel⟩ hP hD hS hl.1 (Nat.le_of_ble_eq_true rfl) (Nat.le_of_ble_eq_true rfl) (Nat.le_of_ble_eq_true rfl)
      · replace hF := if_f hF c_6
        cases hF
        exact hQ _ _ _ _ _ 46 48 50 _ _ "too few coins" dX5_buy_56 dX5_buy_59 dX5_buy_60 dX5_buy_62 dX5_buy_65 (hts _ (by decide +kernel)) (hts _ (by decide +kernel)) (by decide +kernel) hat50 ⟨by decide +kernel, by decide +kernel⟩ hP hD hS hl.1 (Nat.le_of_ble_eq_true rfl) (Nat.le_of_ble_eq_true rfl) (Nat.le_of_ble_eq_true rfl)
    · replace hF := if_t hF c_4
      cases hF
      exact hQ _ _ _ _ _ 33 35 37 _ _ "many is not 1 to 99" dX5_buy_27 dX5_buy_30 dX5_buy_31 dX5_buy_33 dX5_buy_36 (hts _ (by decide +kernel)) (hts _ (by decide +kernel)) (by decide +kernel) hat37 ⟨by decide +kernel, by decide +kernel⟩ hP hD hS hl.1 (Nat.le_of_ble_eq_true rfl) (Nat.le_of_ble_eq_true rfl) (Nat.le_of_ble_eq_true rfl)
  · replace hF := if_t hF c_2
    cases hF
    exact hQ _ _ _ _ _ 23 25 27 _ _ "what is not 0 to 3" dX5_buy_8 dX5_buy_11 dX5_buy_12 dX5_buy_14 dX5_buy_17 (hts _ (by decide +kernel)) (hts _ (by decide +kernel)) (by decide +kernel) hat27 ⟨by decide +kernel, by decide +kernel⟩ hP hD hS hl.1 (Nat.le_of_ble_eq_true rfl) (Nat.le_of_ble_eq_true rfl) (Nat.le_of_ble_eq_true rfl)

def fX5_sell (m_coins : Int32) (m_loft : FN) (a1 : Int32) (a2 : Int32) (a3 : Int32) : Option ((Int32 × Int32 × FN) ⊕ Nat) := (fX5_isBelow a1 10).bind fun z1 => if z1 = 0 then some (.inr 0) else (fX5_isBelow a2 3).bind fun z3 => if z3 = 0 then some (.inr 0) else (fX5_isFrom1To a3 9).bind fun z5 => if z5 = 0 then some (.inr 1) else (fX0_hanging m_loft a1 a2).bind fun z7 => if (a3 * 24) ≤ z7 then (fX5_worthOf a2).bind fun z9 => (fX0_hang m_loft a1 a2 (-(a3 * 24))).bind fun z10 => some (.inl (a3 * z9, m_coins + (a3 * z9), z10)) else some (.inr 2)
abbrev rX5_sell : Room := { frames := 2, cells := 0, slots := 0, locals := 44 }
set_option maxHeartbeats 4000000 in
set_option maxRecDepth 100000 in
theorem kX5_sell (l : Launch) (D : va_G) (cy : Nat → ClassId) (sa : SAT) (h : Nat → Nat) (m_day : Int32) (m_coins : Int32) (m_felts : Int32) (m_made : Int32) (m_worth : Int32) (m_rags : FN) (m_water : FN) (m_pulp : FN) (m_beat : FN) (m_sort : FN) (m_nM : Int32) (m_mark : FN) (m_size : FN) (m_worn : FN) (m_nT : Int32) (m_skill : FN) (m_vat : FN) (m_pair : FN) (m_nQ : Int32) (m_allS : Int32) (m_pmark : FN) (m_pgrade : FN) (m_psheets : FN) (m_loft : FN) (t_day : Int32) (t_coins : Int32) (t_felts : Int32) (t_made : Int32) (t_worth : Int32) (t_rags : FN) (t_water : FN) (t_pulp : FN) (t_beat : FN) (t_sort : FN) (t_nM : Int32) (t_mark : FN) (t_size : FN) (t_worn : FN) (t_nT : Int32) (t_skill : FN) (t_vat : FN) (t_pair : FN) (t_nQ : Int32) (t_allS : Int32) (t_pmark : FN) (t_pgrade : FN) (t_psheets : FN) (t_loft : FN) (a1 : Int32) (a2 : Int32) (a3 : Int32) (z : Int32 × Int32 × FN) (hF : fX5_sell m_coins m_loft a1 a2 a3 = some (.inl z)) : KI l D (tyW cy) sa yX5_sell wsX5_sell rX5_sell [.ref (h 0), .int a1, .int a2, .int a3] (wX5 cy h m_day m_coins m_felts m_made m_worth m_rags m_water m_pulp m_beat m_sort m_nM m_mark m_size m_worn m_nT m_skill m_vat m_pair m_nQ m_allS m_pmark m_pgrade m_psheets m_loft t_day t_coins t_felts t_made t_worth t_rags t_water t_pulp t_beat t_sort t_nM t_mark t_size t_worn t_nT t_skill t_vat t_pair t_nQ t_allS t_pmark t_pgrade t_psheets t_loft) z.1 (fun _ => wX5 cy h m_day z.2.1 m_felts m_made m_worth m_rags m_water m_pulp m_beat m_sort m_nM m_mark m_size m_worn m_nT m_skill m_vat m_pair m_nQ m_allS m_pmark m_pgrade m_psheets z.2.2 t_day t_coins t_felts t_made t_worth t_rags t_water t_pulp t_beat t_sort t_nM t_mark t_size t_worn t_nT t_skill t_vat t_pair t_nQ t_allS t_pmark t_pgrade t_psheets t_loft) 0 0 := by
  refine KI.of (cc := cX5_sell) (maxL := 6) (by decide +kernel) rfl (Nat.le_of_ble_eq_true rfl) ?_
  intro p e s m args below meth c A ls Q hE hQ
  obtain ⟨hx, hb, hml, hown, hts, hA, hP, hK, hD, hG, hl, hnm⟩ := hE
  replace hown : s.vm.findClass RX5 = some m.cls := hown
  have hiX0 : ∀ w ∈ u_ws RX0 TX0 12, w ∈ wsX5_sell := by decide +kernel
  have hiX5 : ∀ w ∈ u_ws RX5 TX5 2, w ∈ wsX5_sell := by decide +kernel
  have hf10 : (Cond.fieldLink RX5 10 "RagVats" "mill" "LRagVats$Mill;").before args s = true := hts _ (by decide +kernel)
  have hn42 : (Cond.fieldLinkNest RX5 42 "RagVats$Mill" "coins" "I" "RagVats").before args s = true := va_Nw.use rfl (hG.1.1 _ (by decide +kernel))
  replace hl : lv_has ls 6 [(0, .ref (h 0)), (1, .int a1), (2, .int a2), (3, .int a3)] := hl
  have hS : va_S A s.heap s.heap [] := va_S.rf
  unfold fX5_sell at hF
  refine lv_iload_n hx hb dX5_sell_0 rfl (lv_at hl 1 rfl) ?_
  refine lv_bipush (v := 10) hx hb dX5_sell_1 (by decide) ?_
  replace hF := bnd_some hF
  obtain ⟨z1, hz_1, hF⟩ := hF
  refine krI (kS (As := [.int a1, .int 10]) ⟨hx, hb, hml, hown, hts⟩ (kX5_isBelow l D cy sa a1 10 z1 hz_1 _) (cwS 2 hts gX5_sell_X5_isBelow rfl rfl rfl (by decide +kernel) ⟨Nat.le_of_ble_eq_true rfl, Nat.le_of_ble_eq_true rfl⟩) hK hP hD hS hA hG [] rfl rfl rfl hl.1 [] rfl (Nat.le_of_ble_eq_true rfl) dX5_sell_3 ⟨(Nat.le_of_ble_eq_true rfl), (Nat.le_of_ble_eq_true rfl)⟩) hP hD hS hA [] rfl (fun H locs hP hS => ?_)
  refine lv_if_eq (tgt := 17) hx hb dX5_sell_6 (by decide) (fun c_2 => ?_) (fun c_2 => ?_)
  · replace hF := if_t hF c_2
    cases hF
  · replace hF := if_f hF c_2
    refine lv_iload_n hx hb dX5_sell_9 rfl (lv_at hl 2 rfl) ?_
    refine lv_iconst (v := 3) hx hb dX5_sell_10 (by decide) ?_
    replace hF := bnd_some hF
    obtain ⟨z3, hz_3, hF⟩ := hF
    refine krI (kS (As := [.int a2, .int 3]) ⟨hx, hb, hml, hown, hts⟩ (kX5_isBelow l D cy sa a2 3 z3 hz_3 _) (cwS 2 hts gX5_sell_X5_isBelow rfl rfl rfl (by decide +kernel) ⟨Nat.le_of_ble_eq_true rfl, Nat.le_of_ble_eq_true rfl⟩) hK hP hD hS hA hG [] rfl rfl rfl hl.1 [] rfl (Nat.le_of_ble_eq_true rfl) dX5_sell_11 ⟨(Nat.le_of_ble_eq_true rfl), (Nat.le_of_ble_eq_true rfl)⟩) hP hD hS hA [] rfl (fun H locs hP hS => ?_)
    refine lv_if_ne (tgt := 27) hx hb dX5_sell_14 (by decide) (fun c_4 => ?_) (fun c_4 => ?_)
    · replace hF := if_f hF c_4
      refine lv_iload_n hx hb dX5_sell_27 rfl (lv_at hl 3 rfl) ?_
      refine lv_bipush (v := 9) hx hb dX5_sell_28 (by decide) ?_
      replace hF := bnd_some hF
      obtain ⟨z5, hz_5, hF⟩ := hF
      refine krI (kS (As := [.int a3, .int 9]) ⟨hx, hb, hml, hown, hts⟩ (kX5_isFrom1To l D cy sa a3 9 z5 hz_5 _) (cwS 2 hts gX5_sell_X5_isFrom1To rfl rfl rfl (by decide +kernel) ⟨Nat.le_of_ble_eq_true rfl, Nat.le_of_ble_eq_true rfl⟩) hK hP hD hS hA hG [] rfl rfl rfl hl.1 [] rfl (Nat.le_of_ble_eq_true rfl) dX5_sell_30 ⟨(Nat.le_of_ble_eq_true rfl), (Nat.le_of_ble_eq_true rfl)⟩) hP hD hS hA [] rfl (fun H locs hP hS => ?_)
      refine lv_if_ne (tgt := 46) hx hb dX5_sell_33 (by decide) (fun c_6 => ?_) (fun c_6 => ?_)
      · replace hF := if_f hF c_6
        refine lv_iload_n hx hb dX5_sell_46 rfl (lv_at hl 3 rfl) ?_
        refine lv_bipush (v := 24) hx hb dX5_sell_47 (by decide) ?_
        refine lv_imul hx hb dX5_sell_49 ?_
        refine lv_istore (lv' := [(4, .int (a3 * 24)), (0, .ref (h 0)), (1, .int a1), (2, .int a2), (3, .int a3)]) hx hb dX5_sell_50 hl (by decide) rfl (fun ls hl => ?_)
        refine lv_aload_n hx hb dX5_sell_52 rfl (lv_at hl 1 rfl) ?_
        refine va_get (D := D) (C := RX5) (T := TX5) (N := 2) hx hb hts hiX5 hown hK hP 0 gtX5_0 rfl 0 (by decide) hf10 (fun _ h9 => h9) rfl dX5_sell_53 ?_
        refine lv_iload_n hx hb dX5_sell_56 rfl (lv_at hl 2 rfl) ?_
        refine lv_iload_n hx hb dX5_sell_57 rfl (lv_at hl 3 rfl) ?_
        replace hF := bnd_some hF
        obtain ⟨z7, hz_7, hF⟩ := hF
        refine krI (kV (As := [.int a1, .int a2]) ⟨hx, hb, hml, hown, hts⟩ (kX0_hanging l D cy sa (fun i => h (i + 1)) m_day m_coins m_felts m_made m_worth m_rags m_water m_pulp m_beat m_sort m_nM m_mark m_size m_worn m_nT m_skill m_vat m_pair m_nQ m_allS m_pmark m_pgrade m_psheets m_loft a1 a2 z7 hz_7 _) (cwV 2 hts gX5_sell_X0_hanging rfl rfl rfl (by decide +kernel) ⟨Nat.le_of_ble_eq_true rfl, Nat.le_of_ble_eq_true rfl⟩) hK hP hD hS hA hG [1, 2, 3, 4, 5, 6, 7, 8, 9, 10, 11, 12, 13, 14, 15, 16, 17, 18, 19, 20] hcX5_X0_1 ndX0_1 gtX0_0 rfl rfl rfl hl.1 [] rfl (Nat.le_of_ble_eq_true rfl) dX5_sell_58 ⟨(Nat.le_of_ble_eq_true rfl), (Nat.le_of_ble_eq_true rfl)⟩) hP hD hS hA [1, 2, 3, 4, 5, 6, 7, 8, 9, 10, 11, 12, 13, 14, 15, 16, 17, 18, 19, 20] hcX5_X0_1 (fun H locs hP hS => ?_)
        refine lv_iload hx hb dX5_sell_61 (lv_at hl 0 rfl) ?_
        refine lv_icmp_ge (tgt := 76) hx hb dX5_sell_63 (by decide) (fun c_8 => ?_) (fun c_8 => ?_)
        · replace hF := if_t hF c_8
          refine lv_iload_n hx hb dX5_sell_76 rfl (lv_at hl 4 rfl) ?_
          refine lv_iload_n hx hb dX5_sell_77 rfl (lv_at hl 3 rfl) ?_
          replace hF := bnd_some hF
          obtain ⟨z9, hz_9, hF⟩ := hF
          refine krI (kS (As := [.int a2]) ⟨hx, hb, hml, hown, hts⟩ (kX5_worthOf l D cy sa a2 z9 hz_9 _) (cwS 1 hts gX5_sell_X5_worthOf rfl rfl rfl (by decide +kernel) ⟨Nat.le_of_ble_eq_true rfl, Nat.le_of_ble_eq_true rfl⟩) hK hP hD hS hA hG [] rfl rfl rfl hl.1 [.int a3] rfl (Nat.le_of_ble_eq_true rfl) dX5_sell_78 ⟨(Nat.le_of_ble_eq_true rfl), (Nat.le_of_ble_eq_true rfl)⟩) hP hD hS hA [] rfl (fun H locs hP hS => ?_)
          refine lv_imul hx hb dX5_sell_81 ?_
          refine lv_istore (lv' := [(5, .int (a3 * z9)), (4, .int (a3 * 24)), (0, .ref (h 0)), (1, .int a1), (2, .int a2), (3, .int a3)]) hx hb dX5_sell_82 hl (by decide) rfl (fun ls hl => ?_)
          refine lv_aload_n hx hb dX5_sell_84 rfl (lv_at hl 2 rfl) ?_
          refine va_get (D := D) (C := RX5) (T := TX5) (N := 2) hx hb hts hiX5 hown hK hP 0 gtX5_0 rfl 0 (by decide) hf10 (fun _ h9 => h9) rfl dX5_sell_85 ?_
          refine lv_iload_n hx hb dX5_sell_88 rfl (lv_at hl 3 rfl) ?_
          refine lv_iload_n hx hb dX5_sell_89 rfl (lv_at hl 4 rfl) ?_
          refine lv_iload hx hb dX5_sell_90 (lv_at hl 1 rfl) ?_
          refine lv_ineg hx hb dX5_sell_92 ?_
          replace hF := bnd_some hF
          obtain ⟨z10, hz_10, hF⟩ := hF
          refine kwVE (kV (As := [.int a1, .int a2, .int (-(a3 * 24))]) ⟨hx, hb, hml, hown, hts⟩ (kX0_hang l D cy sa (fun i => h (i + 1)) m_day m_coins m_felts m_made m_worth m_rags m_water m_pulp m_beat m_sort m_nM m_mark m_size m_worn m_nT m_skill m_vat m_pair m_nQ m_allS m_pmark m_pgrade m_psheets m_loft a1 a2 (-(a3 * 24)) z10 hz_10 _) (cwV 3 hts gX5_sell_X0_hang rfl rfl rfl (by decide +kernel) ⟨Nat.le_of_ble_eq_true rfl, Nat.le_of_ble_eq_true rfl⟩) hK hP hD hS hA hG [1, 2, 3, 4, 5, 6, 7, 8, 9, 10, 11, 12, 13, 14, 15, 16, 17, 18, 19, 20] hcX5_X0_1 ndX0_1 gtX0_0 rfl rfl rfl hl.1 [] rfl (Nat.le_of_ble_eq_true rfl) dX5_sell_93 ⟨(Nat.le_of_ble_eq_true rfl), (Nat.le_of_ble_eq_true rfl)⟩) hP hD hS hA [1, 2, 3, 4, 5, 6, 7, 8, 9, 10, 11, 12, 13, 14, 15, 16, 17, 18, 19, 20] hcX5_X0_1 hmX0 kpX5_X0_1 (fun H locs hP hD hS => ?_)
          refine lv_aload_n hx hb dX5_sell_96 rfl (lv_at hl 2 rfl) ?_
          refine va_get (D := D) (C := RX5) (T := TX5) (N := 2) hx hb hts hiX5 hown hK hP 0 gtX5_0 rfl 0 (by decide) hf10 (fun _ h9 => h9) rfl dX5_sell_97 ?_
          refine lv_dup hx hb dX5_sell_100 rfl ?_
          refine va_getN (host := "RagVats") (D := D) (C := RX0) (T := TX0) (N := 12) hx hb hts hiX0 hown hK hP 1 gtX5_1 rfl 1 (by decide) hn42 (fun _ h9 => h9) rfl dX5_sell_101 ?_
          refine lv_iload hx hb dX5_sell_104 (lv_at hl 0 rfl) ?_
          refine lv_iadd hx hb dX5_sell_106 ?_
          refine va_putN (host := "RagVats") (D := D) (v := .int (m_coins + (a3 * z9))) (ty := .int) (C := RX0) (T := TX0) (N := 12) hx hb hts hiX0 tyX0 tyX0_ok nmX0 hown hK hP hD hS 1 gtX5_1 rfl 1 (by decide) hn42 (fun _ h9 => h9) rfl (by decide +kernel) rfl rfl (Nat.le_of_ble_eq_true rfl) dX5_sell_107 (fun H locs hP hD hS => ?_)
          rw [stX5_1_1] at hP hD
          refine lv_iload hx hb dX5_sell_110 (lv_at hl 0 rfl) ?_
          cases hF
          exact hQ _ _ _ _ _ _ (fun _ => 0) dX5_sell_112 hP hD hS (Nat.le_of_ble_eq_true rfl) (Nat.le_of_ble_eq_true rfl)
        · replace hF := if_f hF c_8
          cases hF
      · replace hF := if_t hF c_6
        cases hF
    · replace hF := if_t hF c_4
      cases hF
abbrev rX5_sellx : Room := { frames := 6, cells := 1, slots := 6, locals := 98 }
set_option maxHeartbeats 4000000 in
set_option maxRecDepth 100000 in
theorem kX5_sellx (l : Launch) (D : va_G) (cy : Nat → ClassId) (sa : SAT) (h : Nat → Nat) (m_day : Int32) (m_coins : Int32) (m_felts : Int32) (m_made : Int32) (m_worth : Int32) (m_rags : FN) (m_water : FN) (m_pulp : FN) (m_beat : FN) (m_sort : FN) (m_nM : Int32) (m_mark : FN) (m_size : FN) (m_worn : FN) (m_nT : Int32) (m_skill : FN) (m_vat : FN) (m_pair : FN) (m_nQ : Int32) (m_allS : Int32) (m_pmark : FN) (m_pgrade : FN) (m_psheets : FN) (m_loft : FN) (t_day : Int32) (t_coins : Int32) (t_felts : Int32) (t_made : Int32) (t_worth : Int32) (t_rags : FN) (t_water : FN) (t_pulp : FN) (t_beat : FN) (t_sort : FN) (t_nM : Int32) (t_mark : FN) (t_size : FN) (t_worn : FN) (t_nT : Int32) (t_skill : FN) (t_vat : FN) (t_pair : FN) (t_nQ : Int32) (t_allS : Int32) (t_pmark : FN) (t_pgrade : FN) (t_psheets : FN) (t_loft : FN) (a1 : Int32) (a2 : Int32) (a3 : Int32) (hst : l.stackTraces = false) (kx : Nat) (hF : fX5_sell m_coins m_loft a1 a2 a3 = some (.inr kx)) : KX l D (tyW cy) sa yX5_sell wsX5_sell rX5_sellx [.ref (h 0), .int a1, .int a2, .int a3] (wX5 cy h m_day m_coins m_felts m_made m_worth m_rags m_water m_pulp m_beat m_sort m_nM m_mark m_size m_worn m_nT m_skill m_vat m_pair m_nQ m_allS m_pmark m_pgrade m_psheets m_loft t_day t_coins t_felts t_made t_worth t_rags t_water t_pulp t_beat t_sort t_nM t_mark t_size t_worn t_nT t_skill t_vat t_pair t_nQ t_allS t_pmark t_pgrade t_psheets t_loft) (exN kx) 1 6 := by
  refine KX.of (cc := cX5_sell) (maxL := 6) (ret := (some .int)) hst (by decide) rfl (Nat.le_of_ble_eq_true rfl) (Nat.le_of_ble_eq_true rfl) (Nat.le_of_ble_eq_true rfl) (Nat.le_refl _) (Nat.le_refl _) ?_
  intro p e s m args below meth c A ls Q hE hQ
  obtain ⟨hx, hb, hml, hown, hts, hA, hP, hK, hD, hG, hl, hnm⟩ := hE
  replace hown : s.vm.findClass RX5 = some m.cls := hown
  have hiX0 : ∀ w ∈ u_ws RX0 TX0 12, w ∈ wsX5_sell := by decide +kernel
  have hiX5 : ∀ w ∈ u_ws RX5 TX5 2, w ∈ wsX5_sell := by decide +kernel
  have hf10 : (Cond.fieldLink RX5 10 "RagVats" "mill" "LRagVats$Mill;").before args s = true := hts _ (by decide +kernel)
  have hn42 : (Cond.fieldLinkNest RX5 42 "RagVats$Mill" "coins" "I" "RagVats").before args s = true := va_Nw.use rfl (hG.1.1 _ (by decide +kernel))
  have hat27 : ∀ w ∈ vx_atS RX5 27 "java/lang/IndexOutOfBoundsException" exNames, w.before args s = true := vx_hat (B := [.castable "java/lang/IndexOutOfBoundsException" "java/lang/IndexOutOfBoundsException", .declares (Bundle.initS "java/lang/RuntimeException"), .declares (Bundle.initS "java/lang/Exception"), .declares (Bundle.initS "java/lang/Throwable")]) (fun w h => hts w ((by decide +kernel : ∀ w ∈ (vx_atS RX5 27 "java/lang/IndexOutOfBoundsException" exNames).filter goodWord, w ∈ wsX5_sell) w h)) (by decide +kernel) (vx_c (va_Nw.use rfl (hG.1.1 _ (by decide +kernel))) (vx_c (va_Nw.use rfl (hG.1.1 _ (by decide +kernel))) (vx_c (va_Nw.use rfl (hG.1.1 _ (by decide +kernel))) (vx_c (va_Nw.use rfl (hG.1.1 _ (by decide +kernel))) vx_n))))
  have hat37 : ∀ w ∈ vx_atS RX5 37 "java/lang/IllegalArgumentException" exNames, w.before args s = true := vx_hat (B := [.castable "java/lang/IllegalArgumentException" "java/lang/IllegalArgumentException", .declares (Bundle.initS "java/lang/RuntimeException"), .declares (Bundle.initS "java/lang/Exception"), .declares (Bundle.initS "java/lang/Throwable")]) (fun w h => hts w ((by decide +kernel : ∀ w ∈ (vx_atS RX5 37 "java/lang/IllegalArgumentException" exNames).filter goodWord, w ∈ wsX5_sell) w h)) (by decide +kernel) (vx_c (va_Nw.use rfl (hG.1.1 _ (by decide +kernel))) (vx_c (va_Nw.use rfl (hG.1.1 _ (by decide +kernel))) (vx_c (va_Nw.use rfl (hG.1.1 _ (by decide +kernel))) (vx_c (va_Nw.use rfl (hG.1.1 _ (by decide +kernel))) vx_n))))
  have hat50 : ∀ w ∈ vx_atS RX5 50 "java/lang/IllegalStateException" exNames, w.before args s = true := vx_hat (B := [.castable "java/lang/IllegalStateException" "java/lang/IllegalStateException", .declares (Bundle.initS "java/lang/RuntimeException"), .declares (Bundle.initS "java/lang/Exception"), .declares (Bundle.initS "java/lang/Throwable")]) (fun w h => hts w ((by decide +kernel : ∀ w ∈ (vx_atS RX5 50 "java/lang/IllegalStateException" exNames).filter goodWord, w ∈ wsX5_sell) w h)) (by decide +kernel) (vx_c (va_Nw.use rfl (hG.1.1 _ (by decide +kernel))) (vx_c (va_Nw.use rfl (hG.1.1 _ (by decide +kernel))) (vx_c (va_Nw.use rfl (hG.1.1 _ (by decide +kernel))) (vx_c (va_Nw.use rfl (hG.1.1 _ (by decide +kernel))) vx_n))))
  replace hl : lv_has ls 6 [(0, .ref (h 0)), (1, .int a1), (2, .int a2), (3, .int a3)] := hl
  have hS : va_S A s.heap s.heap [] := va_S.rf
  unfold fX5_sell at hF
  refine lv_iload_n hx hb dX5_sell_0 rfl (lv_at hl 1 rfl) ?_
  refine lv_bipush (v := 10) hx hb dX5_sell_1 (by decide) ?_
  replace hF := bnd_some hF
  obtain ⟨z1, hz_1, hF⟩ := hF
  refine krI (kS (As := [.int a1, .int 10]) ⟨hx, hb, hml, hown, hts⟩ (kX5_isBelow l D cy sa a1 10 z1 hz_1 _) (cwS 2 hts gX5_sell_X5_isBelow rfl rfl rfl (by decide +kernel) ⟨Nat.le_of_ble_eq_true rfl, Nat.le_of_ble_eq_true rfl⟩) hK hP hD hS hA hG [] rfl rfl rfl hl.1 [] rfl (Nat.le_of_ble_eq_true rfl) dX5_sell_3 ⟨(Nat.le_of_ble_eq_true rfl), (Nat.le_of_ble_eq_true rfl)⟩) hP hD hS hA [] rfl (fun H locs hP hS => ?_)
  refine lv_if_eq (tgt := 17) hx hb dX5_sell_6 (by decide) (fun c_2 => ?_) (fun c_2 => ?_)
  · replace hF := if_t hF c_2
    cases hF
    exact hQ _ _ _ _ _ 23 60 27 _ _ "no such mark or grade" dX5_sell_17 dX5_sell_20 dX5_sell_21 dX5_sell_23 dX5_sell_26 (hts _ (by decide +kernel)) (hts _ (by decide +kernel)) (by decide +kernel) hat27 ⟨by decide +kernel, by decide +kernel⟩ hP hD hS hl.1 (Nat.le_of_ble_eq_true rfl) (Nat.le_of_ble_eq_true rfl) (Nat.le_of_ble_eq_true rfl)
  · replace hF := if_f hF c_2
    refine lv_iload_n hx hb dX5_sell_9 rfl (lv_at hl 2 rfl) ?_
    refine lv_iconst (v := 3) hx hb dX5_sell_10 (by decide) ?_
    replace hF := bnd_some hF
    obtain ⟨z3, hz_3, hF⟩ := hF
    refine krI (kS (As := [.int a2, .int 3]) ⟨hx, hb, hml, hown, hts⟩ (kX5_isBelow l D cy sa a2 3 z3 hz_3 _) (cwS 2 hts gX5_sell_X5_isBelow rfl rfl rfl (by decide +kernel) ⟨Nat.le_of_ble_eq_true rfl, Nat.le_of_ble_eq_true rfl⟩) hK hP hD hS hA hG [] rfl rfl rfl hl.1 [] rfl (Nat.le_of_ble_eq_true rfl) dX5_sell_11 ⟨(Nat.le_of_ble_eq_true rfl), (Nat.le_of_ble_eq_true rfl)⟩) hP hD hS hA [] rfl (fun H locs hP hS => ?_)
    refine lv_if_ne (tgt := 27) hx hb dX5_sell_14 (by decide) (fun c_4 => ?_) (fun c_4 => ?_)
    · replace hF := if_f hF c_4
      refine lv_iload_n hx hb dX5_sell_27 rfl (lv_at hl 3 rfl) ?_
      refine lv_bipush (v := 9) hx hb dX5_sell_28 (by decide) ?_
      replace hF := bnd_some hF
      obtain ⟨z5, hz_5, hF⟩ := hF
      refine krI (kS (As := [.int a3, .int 9]) ⟨hx, hb, hml, hown, hts⟩ (kX5_isFrom1To l D cy sa a3 9 z5 hz_5 _) (cwS 2 hts gX5_sell_X5_isFrom1To rfl rfl rfl (by decide +kernel) ⟨Nat.le_of_ble_eq_true rfl, Nat.le_of_ble_eq_true rfl⟩) hK hP hD hS hA hG [] rfl rfl rfl hl.1 [] rfl (Nat.le_of_ble_eq_true rfl) dX5_sell_30 ⟨(Nat.le_of_ble_eq_true rfl), (Nat.le_of_ble_eq_true rfl)⟩) hP hD hS hA [] rfl (fun H locs hP hS => ?_)
      refine lv_if_ne (tgt := 46) hx hb dX5_sell_33 (by decide) (fun c_6 => ?_) (fun c_6 => ?_)
      · replace hF := if_f hF c_6
        refine lv_iload_n hx hb dX5_sell_46 rfl (lv_at hl 3 rfl) ?_
        refine lv_bipush (v := 24) hx hb dX5_sell_47 (by decide) ?_
        refine lv_imul hx hb dX5_sell_49 ?_
        refine lv_istore (lv' := [(4, .int (a3 * 24)), (0, .ref (h 0)), (1, .int a1), (2, .int a2), (3, .int a3)]) hx hb dX5_sell_50 hl (by decide) rfl (fun ls hl => ?_)
        refine lv_aload_n hx hb dX5_sell_52 rfl (lv_at hl 1 rfl) ?_
        refine va_get (D := D) (C := RX5) (T := TX5) (N := 2) hx hb hts hiX5 hown hK hP 0 gtX5_0 rfl 0 (by decide) hf10 (fun _ h9 => h9) rfl dX5_sell_53 ?_
        refine lv_iload_n hx hb dX5_sell_56 rfl (lv_at hl 2 rfl) ?_
        refine lv_iload_n hx hb dX5_sell_57 rfl (lv_at hl 3 rfl) ?_
        replace hF := bnd_some hF
        obtain ⟨z7, hz_7, hF⟩ := hF
        refine krI (kV (As := [.int a1, .int a2]) ⟨hx, hb, hml, hown, hts⟩ (kX0_hanging l D cy sa (fun i => h (i + 1)) m_day m_coins m_felts m_made m_worth m_rags m_water m_pulp m_beat m_sort m_nM m_mark m_size m_worn m_nT m_skill m_vat m_pair m_nQ m_allS m_pmark m_pgrade m_psheets m_loft a1 a2 z7 hz_7 _) (cwV 2 hts gX5_sell_X0_hanging rfl rfl rfl (by decide +kernel) ⟨Nat.le_of_ble_eq_true rfl, Nat.le_of_ble_eq_true rfl⟩) hK hP hD hS hA hG [1, 2, 3, 4, 5, 6, 7, 8, 9, 10, 11, 12, 13, 14, 15, 16, 17, 18, 19, 20] hcX5_X0_1 ndX0_1 gtX0_0 rfl rfl rfl hl.1 [] rfl (Nat.le_of_ble_eq_true rfl) dX5_sell_58 ⟨(Nat.le_of_ble_eq_true rfl), (Nat.le_of_ble_eq_true rfl)⟩) hP hD hS hA [1, 2, 3, 4, 5, 6, 7, 8, 9, 10, 11, 12, 13, 14, 15, 16, 17, 18, 19, 20] hcX5_X0_1 (fun H locs hP hS => ?_)
        refine lv_iload hx hb dX5_sell_61 (lv_at hl 0 rfl) ?_
        refine lv_icmp_ge (tgt := 76) hx hb dX5_sell_63 (by decide) (fun c_8 => ?_) (fun c_8 => ?_)
        · replace hF := if_t hF c_8
          refine lv_iload_n hx hb dX5_sell_76 rfl (lv_at hl 4 rfl) ?_
          refine lv_iload_n hx hb dX5_sell_77 rfl (lv_at hl 3 rfl) ?_
          replace hF := bnd_some hF
          obtain ⟨z9, hz_9, hF⟩ := hF
          refine krI (kS (As := [.int a2]) ⟨hx, hb, hml, hown, hts⟩ (kX5_worthOf l D cy sa a2 z9 hz_9 _) (cwS 1 hts gX5_sell_X5_worthOf rfl rfl rfl (by decide +kernel) ⟨Nat.le_of_ble_eq_true rfl, Nat.le_of_ble_eq_true rfl⟩) hK hP hD hS hA hG [] rfl rfl rfl hl.1 [.int a3] rfl (Nat.le_of_ble_eq_true rfl) dX5_sell_78 ⟨(Nat.le_of_ble_eq_true rfl), (Nat.le_of_ble_eq_true rfl)⟩) hP hD hS hA [] rfl (fun H locs hP hS => ?_)
          refine lv_imul hx hb dX5_sell_81 ?_
          refine lv_istore (lv' := [(5, .int (a3 * z9)), (4, .int (a3 * 24)), (0, .ref (h 0)), (1, .int a1), (2, .int a2), (3, .int a3)]) hx hb dX5_sell_82 hl (by decide) rfl (fun ls hl => ?_)
          refine lv_aload_n hx hb dX5_sell_84 rfl (lv_at hl 2 rfl) ?_
          refine va_get (D := D) (C := RX5) (T := TX5) (N := 2) hx hb hts hiX5 hown hK hP 0 gtX5_0 rfl 0 (by decide) hf10 (fun _ h9 => h9) rfl dX5_sell_85 ?_
          refine lv_iload_n hx hb dX5_sell_88 rfl (lv_at hl 3 rfl) ?_
          refine lv_iload_n hx hb dX5_sell_89 rfl (lv_at hl 4 rfl) ?_
          refine lv_iload hx hb dX5_sell_90 (lv_at hl 1 rfl) ?_
          refine lv_ineg hx hb dX5_sell_92 ?_
          replace hF := bnd_some hF
          obtain ⟨z10, hz_10, hF⟩ := hF
          refine kwVE (kV (As := [.int a1, .int a2, .int (-(a3 * 24))]) ⟨hx, hb, hml, hown, hts⟩ (kX0_hang l D cy sa (fun i => h (i + 1)) m_day m_coins m_felts m_made m_worth m_rags m_water m_pulp m_beat m_sort m_nM m_mark m_size m_worn m_nT m_skill m_vat m_pair m_nQ m_allS m_pmark m_pgrade m_psheets m_loft a1 a2 (-(a3 * 24)) z10 hz_10 _) (cwV 3 hts gX5_sell_X0_hang rfl rfl rfl (by decide +kernel) ⟨Nat.le_of_ble_eq_true rfl, Nat.le_of_ble_eq_true rfl⟩) hK hP hD hS hA hG [1, 2, 3, 4, 5, 6, 7, 8, 9, 10, 11, 12, 13, 14, 15, 16, 17, 18, 19, 20] hcX5_X0_1 ndX0_1 gtX0_0 rfl rfl rfl hl.1 [] rfl (Nat.le_of_ble_eq_true rfl) dX5_sell_93 ⟨(Nat.le_of_ble_eq_true rfl), (Nat.le_of_ble_eq_true rfl)⟩) hP hD hS hA [1, 2, 3, 4, 5, 6, 7, 8, 9, 10, 11, 12, 13, 14, 15, 16, 17, 18, 19, 20] hcX5_X0_1 hmX0 kpX5_X0_1 (fun H locs hP hD hS => ?_)
          refine lv_aload_n hx hb dX5_sell_96 rfl (lv_at hl 2 rfl) ?_
          refine va_get (D := D) (C := RX5) (T := TX5) (N := 2) hx hb hts hiX5 hown hK hP 0 gtX5_0 rfl 0 (by decide) hf10 (fun _ h9 => h9) rfl dX5_sell_97 ?_
          refine lv_dup hx hb dX5_sell_100 rfl ?_
          refine va_getN (host := "RagVats") (D := D) (C := RX0) (T := TX0) (N := 12) hx hb hts hiX0 hown hK hP 1 gtX5_1 rfl 1 (by decide) hn42 (fun _ h9 => h9) rfl dX5_sell_101 ?_
          refine lv_iload hx hb dX5_sell_104 (lv_at hl 0 rfl) ?_
          refine lv_iadd hx hb dX5_sell_106 ?_
          refine va_putN (host := "RagVats") (D := D) (v := .int (m_coins + (a3 * z9))) (ty := .int) (C := RX0) (T := TX0) (N := 12) hx hb hts hiX0 tyX0 tyX0_ok nmX0 hown hK hP hD hS 1 gtX5_1 rfl 1 (by decide) hn42 (fun _ h9 => h9) rfl (by decide +kernel) rfl rfl (Nat.le_of_ble_eq_true rfl) dX5_sell_107 (fun H locs hP hD hS => ?_)
          rw [stX5_1_1] at hP hD
          refine lv_iload hx hb dX5_sell_110 (lv_at hl 0 rfl) ?_
          cases hF
        · replace hF := if_f hF c_8
          cases hF
          exact hQ _ _ _ _ _ 46 67 50 _ _ "too few sheets in the loft" dX5_sell_66 dX5_sell_69 dX5_sell_70 dX5_sell_72 dX5_sell_75 (hts _ (by decide +kernel)) (hts _ (by decide +kernel)) (by decide +kernel) hat50 ⟨by decide +kernel, by decide +kernel⟩ hP hD hS hl.1 (Nat.le_of_ble_eq_true rfl) (Nat.le_of_ble_eq_true rfl) (Nat.le_of_ble_eq_true rfl)
      · replace hF := if_t hF c_6
        cases hF
        exact hQ _ _ _ _ _ 33 62 37 _ _ "quires is not 1 to 9" dX5_sell_36 dX5_sell_39 dX5_sell_40 dX5_sell_42 dX5_sell_45 (hts _ (by decide +kernel)) (hts _ (by decide +kernel)) (by decide +kernel) hat37 ⟨by decide +kernel, by decide +kernel⟩ hP hD hS hl.1 (Nat.le_of_ble_eq_true rfl) (Nat.le_of_ble_eq_true rfl) (Nat.le_of_ble_eq_true rfl)
    · replace hF := if_t hF c_4
      cases hF
      exact hQ _ _ _ _ _ 23 60 27 _ _ "no such mark or grade" dX5_sell_17 dX5_sell_20 dX5_sell_21 dX5_sell_23 dX5_sell_26 (hts _ (by decide +kernel)) (hts _ (by decide +kernel)) (by decide +kernel) hat27 ⟨by decide +kernel, by decide +kernel⟩ hP hD hS hl.1 (Nat.le_of_ble_eq_true rfl) (Nat.le_of_ble_eq_true rfl) (Nat.le_of_ble_eq_true rfl)

def fX5_fill (m_rags : FN) (m_pulp : FN) (m_beat : FN) (m_sort : FN) (a1 : Int32) (a2 : Int32) (a3 : Int32) : Option ((Int32 × FN × FN × FN × FN) ⊕ Nat) := (fX5_isBelow a1 4).bind fun z1 => if z1 = 0 then some (.inr 0) else (fX5_isBelow a2 3).bind fun z3 => if z3 = 0 then some (.inr 0) else (fX5_isFrom1To a3 40).bind fun z5 => if z5 = 0 then some (.inr 1) else (fX4_pulpOf m_pulp a1).bind fun z7 => if z7 ≤ 0 then ckI a2 3 (if a3 ≤ (m_rags a2.toNatClampNeg) then ckI a2 3 (ckI a2 3 ((fX4_charge m_pulp m_beat m_sort a1 a2 a3).bind fun z13 => ckI a2 3 (some (.inl ((upd m_rags a2.toNatClampNeg ((m_rags a2.toNatClampNeg) - a3)) a2.toNatClampNeg, upd m_rags a2.toNatClampNeg ((m_rags a2.toNatClampNeg) - a3), z13.1, z13.2.1, z13.2.2))))) else some (.inr 2)) else some (.inr 2)
abbrev rX5_fill : Room := { frames := 2, cells := 0, slots := 0, locals := 44 }
set_option maxHeartbeats 4000000 in
set_option maxRecDepth 100000 in
theorem kX5_fill (l : Launch) (D : va_G) (cy : Nat → ClassId) (sa : SAT) (h : Nat → Nat) (m_day : Int32) (m_coins : Int32) (m_felts : Int32) (m_made : Int32) (m_worth : Int32) (m_rags : FN) (m_water : FN) (m_pulp : FN) (m_beat : FN) (m_sort : FN) (m_nM : Int32) (m_mark : FN) (m_size : FN) (m_worn : FN) (m_nT : Int32) (m_skill : FN) (m_vat : FN) (m_pair : FN) (m_nQ : Int32) (m_allS : Int32) (m_pmark : FN) (m_pgrade : FN) (m_psheets : FN) (m_loft : FN) (t_day : Int32) (t_coins : Int32) (t_felts : Int32) (t_made : Int32) (t_worth : Int32) (t_rags : FN) (t_water : FN) (t_pulp : FN) (t_beat : FN) (t_sort : FN) (t_nM : Int32) (t_mark : FN) (t_size : FN) (t_worn : FN) (t_nT : Int32) (t_skill : FN) (t_vat : FN) (t_pair : FN) (t_nQ : Int32) (t_allS : Int32) (t_pmark : FN) (t_pgrade : FN) (t_psheets : FN) (t_loft : FN) (a1 : Int32) (a2 : Int32) (a3 : Int32) (z : Int32 × FN × FN × FN × FN) (hF : fX5_fill m_rags m_pulp m_beat m_sort a1 a2 a3 = some (.inl z)) : KI l D (tyW cy) sa yX5_fill wsX5_fill rX5_fill [.ref (h 0), .int a1, .int a2, .int a3] (wX5 cy h m_day m_coins m_felts m_made m_worth m_rags m_water m_pulp m_beat m_sort m_nM m_mark m_size m_worn m_nT m_skill m_vat m_pair m_nQ m_allS m_pmark m_pgrade m_psheets m_loft t_day t_coins t_felts t_made t_worth t_rags t_water t_pulp t_beat t_sort t_nM t_mark t_size t_worn t_nT t_skill t_vat t_pair t_nQ t_allS t_pmark t_pgrade t_psheets t_loft) z.1 (fun _ => wX5 cy h m_day m_coins m_felts m_made m_worth z.2.1 m_water z.2.2.1 z.2.2.2.1 z.2.2.2.2 m_nM m_mark m_size m_worn m_nT m_skill m_vat m_pair m_nQ m_allS m_pmark m_pgrade m_psheets m_loft t_day t_coins t_felts t_made t_worth t_rags t_water t_pulp t_beat t_sort t_nM t_mark t_size t_worn t_nT t_skill t_vat t_pair t_nQ t_allS t_pmark t_pgrade t_psheets t_loft) 0 0 := by
  refine KI.of (cc := cX5_fill) (maxL := 4) (by decide +kernel) rfl (Nat.le_of_ble_eq_true rfl) ?_
  intro p e s m args below meth c A ls Q hE hQ
  obtain ⟨hx, hb, hml, hown, hts, hA, hP, hK, hD, hG, hl, hnm⟩ := hE
  replace hown : s.vm.findClass RX5 = some m.cls := hown
  have hiX0 : ∀ w ∈ u_ws RX0 TX0 12, w ∈ wsX5_fill := by decide +kernel
  have hiX5 : ∀ w ∈ u_ws RX5 TX5 2, w ∈ wsX5_fill := by decide +kernel
  have hf10 : (Cond.fieldLink RX5 10 "RagVats" "mill" "LRagVats$Mill;").before args s = true := hts _ (by decide +kernel)
  have hn81 : (Cond.fieldLinkNest RX5 81 "RagVats$Mill" "vats" "LRagVats$Vats;" "RagVats").before args s = true := va_Nw.use rfl (hG.1.1 _ (by decide +kernel))
  have hn92 : (Cond.fieldLinkNest RX5 92 "RagVats$Mill" "rags" "[I" "RagVats").before args s = true := va_Nw.use rfl (hG.1.1 _ (by decide +kernel))
  replace hl : lv_has ls 4 [(0, .ref (h 0)), (1, .int a1), (2, .int a2), (3, .int a3)] := hl
  have hS : va_S A s.heap s.heap [] := va_S.rf
  unfold fX5_fill at hF
  refine lv_iload_n hx hb dX5_fill_0 rfl (lv_at hl 1 rfl) ?_
  refine lv_iconst (v := 4) hx hb dX5_fill_1 (by decide) ?_
  replace hF := bnd_some hF
  obtain ⟨z1, hz_1, hF⟩ := hF
  refine krI (kS (As := [.int a1, .int 4]) ⟨hx, hb, hml, hown, hts⟩ (kX5_isBelow l D cy sa a1 4 z1 hz_1 _) (cwS 2 hts gX5_fill_X5_isBelow rfl rfl rfl (by decide +kernel) ⟨Nat.le_of_ble_eq_true rfl, Nat.le_of_ble_eq_true rfl⟩) hK hP hD hS hA hG [] rfl rfl rfl hl.1 [] rfl (Nat.le_of_ble_eq_true rfl) dX5_fill_2 ⟨(Nat.le_of_ble_eq_true rfl), (Nat.le_of_ble_eq_true rfl)⟩) hP hD hS hA [] rfl (fun H locs hP hS => ?_)
  refine lv_if_eq (tgt := 16) hx hb dX5_fill_5 (by decide) (fun c_2 => ?_) (fun c_2 => ?_)
  · replace hF := if_t hF c_2
    cases hF
  · replace hF := if_f hF c_2
    refine lv_iload_n hx hb dX5_fill_8 rfl (lv_at hl 2 rfl) ?_
    refine lv_iconst (v := 3) hx hb dX5_fill_9 (by decide) ?_
    replace hF := bnd_some hF
    obtain ⟨z3, hz_3, hF⟩ := hF
    refine krI (kS (As := [.int a2, .int 3]) ⟨hx, hb, hml, hown, hts⟩ (kX5_isBelow l D cy sa a2 3 z3 hz_3 _) (cwS 2 hts gX5_fill_X5_isBelow rfl rfl rfl (by decide +kernel) ⟨Nat.le_of_ble_eq_true rfl, Nat.le_of_ble_eq_true rfl⟩) hK hP hD hS hA hG [] rfl rfl rfl hl.1 [] rfl (Nat.le_of_ble_eq_true rfl) dX5_fill_10 ⟨(Nat.le_of_ble_eq_true rfl), (Nat.le_of_ble_eq_true rfl)⟩) hP hD hS hA [] rfl (fun H locs hP hS => ?_)
    refine lv_if_ne (tgt := 26) hx hb dX5_fill_13 (by decide) (fun c_4 => ?_) (fun c_4 => ?_)
    · replace hF := if_f hF c_4
      refine lv_iload_n hx hb dX5_fill_26 rfl (lv_at hl 3 rfl) ?_
      refine lv_bipush (v := 40) hx hb dX5_fill_27 (by decide) ?_
      replace hF := bnd_some hF
      obtain ⟨z5, hz_5, hF⟩ := hF
      refine krI (kS (As := [.int a3, .int 40]) ⟨hx, hb, hml, hown, hts⟩ (kX5_isFrom1To l D cy sa a3 40 z5 hz_5 _) (cwS 2 hts gX5_fill_X5_isFrom1To rfl rfl rfl (by decide +kernel) ⟨Nat.le_of_ble_eq_true rfl, Nat.le_of_ble_eq_true rfl⟩) hK hP hD hS hA hG [] rfl rfl rfl hl.1 [] rfl (Nat.le_of_ble_eq_true rfl) dX5_fill_29 ⟨(Nat.le_of_ble_eq_true rfl), (Nat.le_of_ble_eq_true rfl)⟩) hP hD hS hA [] rfl (fun H locs hP hS => ?_)
      refine lv_if_ne (tgt := 45) hx hb dX5_fill_32 (by decide) (fun c_6 => ?_) (fun c_6 => ?_)
      · replace hF := if_f hF c_6
        refine lv_aload_n hx hb dX5_fill_45 rfl (lv_at hl 0 rfl) ?_
        refine va_get (D := D) (C := RX5) (T := TX5) (N := 2) hx hb hts hiX5 hown hK hP 0 gtX5_0 rfl 0 (by decide) hf10 (fun _ h9 => h9) rfl dX5_fill_46 ?_
        refine va_getN (host := "RagVats") (D := D) (C := RX0) (T := TX0) (N := 12) hx hb hts hiX0 hown hK hP 1 gtX5_1 rfl 7 (by decide) hn81 (fun _ h9 => h9) rfl dX5_fill_49 ?_
        refine lv_iload_n hx hb dX5_fill_52 rfl (lv_at hl 1 rfl) ?_
        replace hF := bnd_some hF
        obtain ⟨z7, hz_7, hF⟩ := hF
        refine krI (kV (As := [.int a1]) ⟨hx, hb, hml, hown, hts⟩ (kX4_pulpOf l D cy sa (fun i => h (i + 4)) m_pulp m_beat m_sort a1 z7 hz_7 _) (cwV 1 hts gX5_fill_X4_pulpOf rfl rfl rfl (by decide +kernel) ⟨Nat.le_of_ble_eq_true rfl, Nat.le_of_ble_eq_true rfl⟩) hK hP hD hS hA hG [4, 5, 6, 7] hcX5_X4_4 ndX4_4 gtX4_0 rfl rfl rfl hl.1 [] rfl (Nat.le_of_ble_eq_true rfl) dX5_fill_53 ⟨(Nat.le_of_ble_eq_true rfl), (Nat.le_of_ble_eq_true rfl)⟩) hP hD hS hA [4, 5, 6, 7] hcX5_X4_4 (fun H locs hP hS => ?_)
        refine lv_if_le (tgt := 69) hx hb dX5_fill_56 (by decide) (fun c_8 => ?_) (fun c_8 => ?_)
        · replace hF := if_t hF c_8
          refine lv_aload_n hx hb dX5_fill_69 rfl (lv_at hl 0 rfl) ?_
          refine va_get (D := D) (C := RX5) (T := TX5) (N := 2) hx hb hts hiX5 hown hK hP 0 gtX5_0 rfl 0 (by decide) hf10 (fun _ h9 => h9) rfl dX5_fill_70 ?_
          refine va_getN (host := "RagVats") (D := D) (C := RX0) (T := TX0) (N := 12) hx hb hts hiX0 hown hK hP 1 gtX5_1 rfl 5 (by decide) hn92 (fun _ h9 => h9) rfl dX5_fill_73 ?_
          refine lv_iload_n hx hb dX5_fill_76 rfl (lv_at hl 2 rfl) ?_
          replace hF := ckI_some hF
          obtain ⟨hi_9, hF⟩ := hF
          refine va_iald hx hb hK hP 2 0 gtX5_2 rfl hi_9 dX5_fill_77 ?_
          refine lv_iload_n hx hb dX5_fill_78 rfl (lv_at hl 3 rfl) ?_
          refine lv_icmp_ge (tgt := 92) hx hb dX5_fill_79 (by decide) (fun c_10 => ?_) (fun c_10 => ?_)
          · replace hF := if_t hF c_10
            refine lv_aload_n hx hb dX5_fill_92 rfl (lv_at hl 0 rfl) ?_
            refine va_get (D := D) (C := RX5) (T := TX5) (N := 2) hx hb hts hiX5 hown hK hP 0 gtX5_0 rfl 0 (by decide) hf10 (fun _ h9 => h9) rfl dX5_fill_93 ?_
            refine va_getN (host := "RagVats") (D := D) (C := RX0) (T := TX0) (N := 12) hx hb hts hiX0 hown hK hP 1 gtX5_1 rfl 5 (by decide) hn92 (fun _ h9 => h9) rfl dX5_fill_96 ?_
            refine lv_iload_n hx hb dX5_fill_99 rfl (lv_at hl 2 rfl) ?_
            refine lv_dup2_11 hx hb dX5_fill_100 rfl rfl ?_
            replace hF := ckI_some hF
            obtain ⟨hi_11, hF⟩ := hF
            refine va_iald hx hb hK hP 2 0 gtX5_2 rfl hi_11 dX5_fill_101 ?_
            refine lv_iload_n hx hb dX5_fill_102 rfl (lv_at hl 3 rfl) ?_
            refine lv_isub hx hb dX5_fill_103 ?_
            replace hF := ckI_some hF
            obtain ⟨hi_12, hF⟩ := hF
            refine va_iast hx hb hK hP hD hS 2 0 gtX5_2 rfl hi_12 dX5_fill_104 (fun H locs hP hD hS => ?_)
            rw [stX5_2] at hP hD
            refine lv_aload_n hx hb dX5_fill_105 rfl (lv_at hl 0 rfl) ?_
            refine va_get (D := D) (C := RX5) (T := TX5) (N := 2) hx hb hts hiX5 hown hK hP 0 gtX5_0 rfl 0 (by decide) hf10 (fun _ h9 => h9) rfl dX5_fill_106 ?_
            refine va_getN (host := "RagVats") (D := D) (C := RX0) (T := TX0) (N := 12) hx hb hts hiX0 hown hK hP 1 gtX5_1 rfl 7 (by decide) hn81 (fun _ h9 => h9) rfl dX5_fill_109 ?_
            refine lv_iload_n hx hb dX5_fill_112 rfl (lv_at hl 1 rfl) ?_
            refine lv_iload_n hx hb dX5_fill_113 rfl (lv_at hl 2 rfl) ?_
            refine lv_iload_n hx hb dX5_fill_114 rfl (lv_at hl 3 rfl) ?_
            replace hF := bnd_some hF
            obtain ⟨z13, hz_13, hF⟩ := hF
            refine kwVE (kV (As := [.int a1, .int a2, .int a3]) ⟨hx, hb, hml, hown, hts⟩ (kX4_charge l D cy sa (fun i => h (i + 4)) m_pulp m_beat m_sort a1 a2 a3 z13 hz_13 _) (cwV 3 hts gX5_fill_X4_charge rfl rfl rfl (by decide +kernel) ⟨Nat.le_of_ble_eq_true rfl, Nat.le_of_ble_eq_true rfl⟩) hK hP hD hS hA hG [4, 5, 6, 7] hcX5_X4_4 ndX4_4 gtX4_0 rfl rfl rfl hl.1 [] rfl (Nat.le_of_ble_eq_true rfl) dX5_fill_115 ⟨(Nat.le_of_ble_eq_true rfl), (Nat.le_of_ble_eq_true rfl)⟩) hP hD hS hA [4, 5, 6, 7] hcX5_X4_4 hmX4 kpX5_X4_4 (fun H locs hP hD hS => ?_)
            refine lv_aload_n hx hb dX5_fill_118 rfl (lv_at hl 0 rfl) ?_
            refine va_get (D := D) (C := RX5) (T := TX5) (N := 2) hx hb hts hiX5 hown hK hP 0 gtX5_0 rfl 0 (by decide) hf10 (fun _ h9 => h9) rfl dX5_fill_119 ?_
            refine va_getN (host := "RagVats") (D := D) (C := RX0) (T := TX0) (N := 12) hx hb hts hiX0 hown hK hP 1 gtX5_1 rfl 5 (by decide) hn92 (fun _ h9 => h9) rfl dX5_fill_122 ?_
            refine lv_iload_n hx hb dX5_fill_125 rfl (lv_at hl 2 rfl) ?_
            replace hF := ckI_some hF
            obtain ⟨hi_14, hF⟩ := hF
            refine va_iald hx hb hK hP 2 0 gtX5_2 rfl hi_14 dX5_fill_126 ?_
            cases hF
            exact hQ _ _ _ _ _ _ (fun _ => 0) dX5_fill_127 hP hD hS (Nat.le_of_ble_eq_true rfl) (Nat.le_of_ble_eq_true rfl)
          · replace hF := if_f hF c_10
            cases hF
        · replace hF := if_f hF c_8
          cases hF
      · replace hF := if_t hF c_6
        cases hF
    · replace hF := if_t hF c_4
      cases hF
abbrev rX5_fillx : Room := { frames := 6, cells := 1, slots := 6, locals := 98 }
set_option maxHeartbeats 4000000 in
set_option maxRecDepth 100000 in
theorem kX5_fillx (l : Launch) (D : va_G) (cy : Nat → ClassId) (sa : SAT) (h : Nat → Nat) (m_day : Int32) (m_coins : Int32) (m_felts : Int32) (m_made : Int32) (m_worth : Int32) (m_rags : FN) (m_water : FN) (m_pulp : FN) (m_beat : FN) (m_sort : FN) (m_nM : Int32) (m_mark : FN) (m_size : FN) (m_worn : FN) (m_nT : Int32) (m_skill : FN) (m_vat : FN) (m_pair : FN) (m_nQ : Int32) (m_allS : Int32) (m_pmark : FN) (m_pgrade : FN) (m_psheets : FN) (m_loft : FN) (t_day : Int32) (t_coins : Int32) (t_felts : Int32) (t_made : Int32) (t_worth : Int32) (t_rags : FN) (t_water : FN) (t_pulp : FN) (t_beat : FN) (t_sort : FN) (t_nM : Int32) (t_mark : FN) (t_size : FN) (t_worn : FN) (t_nT : Int32) (t_skill : FN) (t_vat : FN) (t_pair : FN) (t_nQ : Int32) (t_allS : Int32) (t_pmark : FN) (t_pgrade : FN) (t_psheets : FN) (t_loft : FN) (a1 : Int32) (a2 : Int32) (a3 : Int32) (hst : l.stackTraces = false) (kx : Nat) (hF : fX5_fill m_rags m_pulp m_beat m_sort a1 a2 a3 = some (.inr kx)) : KX l D (tyW cy) sa yX5_fill wsX5_fill rX5_fillx [.ref (h 0), .int a1, .int a2, .int a3] (wX5 cy h m_day m_coins m_felts m_made m_worth m_rags m_water m_pulp m_beat m_sort m_nM m_mark m_size m_worn m_nT m_skill m_vat m_pair m_nQ m_allS m_pmark m_pgrade m_psheets m_loft t_day t_coins t_felts t_made t_worth t_rags t_water t_pulp t_beat t_sort t_nM t_mark t_size t_worn t_nT t_skill t_vat t_pair t_nQ t_allS t_pmark t_pgrade t_psheets t_loft) (exN kx) 1 6 := by
  refine KX.of (cc := cX5_fill) (maxL := 4) (ret := (some .int)) hst (by decide) rfl (Nat.le_of_ble_eq_true rfl) (Nat.le_of_ble_eq_true rfl) (Nat.le_of_ble_eq_true rfl) (Nat.le_refl _) (Nat.le_refl _) ?_
  intro p e s m args below meth c A ls Q hE hQ
  obtain ⟨hx, hb, hml, hown, hts, hA, hP, hK, hD, hG, hl, hnm⟩ := hE
  replace hown : s.vm.findClass RX5 = some m.cls := hown
  have hiX0 : ∀ w ∈ u_ws RX0 TX0 12, w ∈ wsX5_fill := by decide +kernel
  have hiX5 : ∀ w ∈ u_ws RX5 TX5 2, w ∈ wsX5_fill := by decide +kernel
  have hf10 : (Cond.fieldLink RX5 10 "RagVats" "mill" "LRagVats$Mill;").before args s = true := hts _ (by decide +kernel)
  have hn81 : (Cond.fieldLinkNest RX5 81 "RagVats$Mill" "vats" "LRagVats$Vats;" "RagVats").before args s = true := va_Nw.use rfl (hG.1.1 _ (by decide +kernel))
  have hn92 : (Cond.fieldLinkNest RX5 92 "RagVats$Mill" "rags" "[I" "RagVats").before args s = true := va_Nw.use rfl (hG.1.1 _ (by decide +kernel))
  have hat27 : ∀ w ∈ vx_atS RX5 27 "java/lang/IndexOutOfBoundsException" exNames, w.before args s = true := vx_hat (B := [.castable "java/lang/IndexOutOfBoundsException" "java/lang/IndexOutOfBoundsException", .declares (Bundle.initS "java/lang/RuntimeException"), .declares (Bundle.initS "java/lang/Exception"), .declares (Bundle.initS "java/lang/Throwable")]) (fun w h => hts w ((by decide +kernel : ∀ w ∈ (vx_atS RX5 27 "java/lang/IndexOutOfBoundsException" exNames).filter goodWord, w ∈ wsX5_fill) w h)) (by decide +kernel) (vx_c (va_Nw.use rfl (hG.1.1 _ (by decide +kernel))) (vx_c (va_Nw.use rfl (hG.1.1 _ (by decide +kernel))) (vx_c (va_Nw.use rfl (hG.1.1 _ (by decide +kernel))) (vx_c (va_Nw.use rfl (hG.1.1 _ (by decide +kernel))) vx_n))))
  have hat37 : ∀ w ∈ vx_atS RX5 37 "java/lang/IllegalArgumentException" exNames, w.before args s = true := vx_hat (B := [.castable "java/lang/IllegalArgumentException" "java/lang/IllegalArgumentException", .declares (Bundle.initS "java/lang/RuntimeException"), .declares (Bundle.initS "java/lang/Exception"), .declares (Bundle.initS "java/lang/Throwable")]) (fun w h => hts w ((by decide +kernel : ∀ w ∈ (vx_atS RX5 37 "java/lang/IllegalArgumentException" exNames).filter goodWord, w ∈ wsX5_fill) w h)) (by decide +kernel) (vx_c (va_Nw.use rfl (hG.1.1 _ (by decide +kernel))) (vx_c (va_Nw.use rfl (hG.1.1 _ (by decide +kernel))) (vx_c (va_Nw.use rfl (hG.1.1 _ (by decide +kernel))) (vx_c (va_Nw.use rfl (hG.1.1 _ (by decide +kernel))) vx_n))))
  have hat50 : ∀ w ∈ vx_atS RX5 50 "java/lang/IllegalStateException" exNames, w.before args s = true := vx_hat (B := [.castable "java/lang/IllegalStateException" "java/lang/IllegalStateException", .declares (Bundle.initS "java/lang/RuntimeException"), .declares (Bundle.initS "java/lang/Exception"), .declares (Bundle.initS "java/lang/Throwable")]) (fun w h => hts w ((by decide +kernel : ∀ w ∈ (vx_atS RX5 50 "java/lang/IllegalStateException" exNames).filter goodWord, w ∈ wsX5_fill) w h)) (by decide +kernel) (vx_c (va_Nw.use rfl (hG.1.1 _ (by decide +kernel))) (vx_c (va_Nw.use rfl (hG.1.1 _ (by decide +kernel))) (vx_c (va_Nw.use rfl (hG.1.1 _ (by decide +kernel))) (vx_c (va_Nw.use rfl (hG.1.1 _ (by decide +kernel))) vx_n))))
  replace hl : lv_has ls 4 [(0, .ref (h 0)), (1, .int a1), (2, .int a2), (3, .int a3)] := hl
  have hS : va_S A s.heap s.heap [] := va_S.rf
  unfold fX5_fill at hF
  refine lv_iload_n hx hb dX5_fill_0 rfl (lv_at hl 1 rfl) ?_
  refine lv_iconst (v := 4) hx hb dX5_fill_1 (by decide) ?_
  replace hF := bnd_some hF
  obtain ⟨z1, hz_1, hF⟩ := hF
  refine krI (kS (As := [.int a1, .int 4]) ⟨hx, hb, hml, hown, hts⟩ (kX5_isBelow l D cy sa a1 4 z1 hz_1 _) (cwS 2 hts gX5_fill_X5_isBelow rfl rfl rfl (by decide +kernel) ⟨Nat.le_of_ble_eq_true rfl, Nat.le_of_ble_eq_true rfl⟩) hK hP hD hS hA hG [] rfl rfl rfl hl.1 [] rfl (Nat.le_of_ble_eq_true rfl) dX5_fill_2 ⟨(Nat.le_of_ble_eq_true rfl), (Nat.le_of_ble_eq_true rfl)⟩) hP hD hS hA [] rfl (fun H locs hP hS => ?_)
  refine lv_if_eq (tgt := 16) hx hb dX5_fill_5 (by decide) (fun c_2 => ?_) (fun c_2 => ?_)
  · replace hF := if_t hF c_2
    cases hF
    exact hQ _ _ _ _ _ 23 77 27 _ _ "no such vat or sort" dX5_fill_16 dX5_fill_19 dX5_fill_20 dX5_fill_22 dX5_fill_25 (hts _ (by decide +kernel)) (hts _ (by decide +kernel)) (by decide +kernel) hat27 ⟨by decide +kernel, by decide +kernel⟩ hP hD hS hl.1 (Nat.le_of_ble_eq_true rfl) (Nat.le_of_ble_eq_true rfl) (Nat.le_of_ble_eq_true rfl)
  · replace hF := if_f hF c_2
    refine lv_iload_n hx hb dX5_fill_8 rfl (lv_at hl 2 rfl) ?_
    refine lv_iconst (v := 3) hx hb dX5_fill_9 (by decide) ?_
    replace hF := bnd_some hF
    obtain ⟨z3, hz_3, hF⟩ := hF
    refine krI (kS (As := [.int a2, .int 3]) ⟨hx, hb, hml, hown, hts⟩ (kX5_isBelow l D cy sa a2 3 z3 hz_3 _) (cwS 2 hts gX5_fill_X5_isBelow rfl rfl rfl (by decide +kernel) ⟨Nat.le_of_ble_eq_true rfl, Nat.le_of_ble_eq_true rfl⟩) hK hP hD hS hA hG [] rfl rfl rfl hl.1 [] rfl (Nat.le_of_ble_eq_true rfl) dX5_fill_10 ⟨(Nat.le_of_ble_eq_true rfl), (Nat.le_of_ble_eq_true rfl)⟩) hP hD hS hA [] rfl (fun H locs hP hS => ?_)
    refine lv_if_ne (tgt := 26) hx hb dX5_fill_13 (by decide) (fun c_4 => ?_) (fun c_4 => ?_)
    · replace hF := if_f hF c_4
      refine lv_iload_n hx hb dX5_fill_26 rfl (lv_at hl 3 rfl) ?_
      refine lv_bipush (v := 40) hx hb dX5_fill_27 (by decide) ?_
      replace hF := bnd_some hF
      obtain ⟨z5, hz_5, hF⟩ := hF
      refine krI (kS (As := [.int a3, .int 40]) ⟨hx, hb, hml, hown, hts⟩ (kX5_isFrom1To l D cy sa a3 40 z5 hz_5 _) (cwS 2 hts gX5_fill_X5_isFrom1To rfl rfl rfl (by decide +kernel) ⟨Nat.le_of_ble_eq_true rfl, Nat.le_of_ble_eq_true rfl⟩) hK hP hD hS hA hG [] rfl rfl rfl hl.1 [] rfl (Nat.le_of_ble_eq_true rfl) dX5_fill_29 ⟨(Nat.le_of_ble_eq_true rfl), (Nat.le_of_ble_eq_true rfl)⟩) hP hD hS hA [] rfl (fun H locs hP hS => ?_)
      refine lv_if_ne (tgt := 45) hx hb dX5_fill_32 (by decide) (fun c_6 => ?_) (fun c_6 => ?_)
      · replace hF := if_f hF c_6
        refine lv_aload_n hx hb dX5_fill_45 rfl (lv_at hl 0 rfl) ?_
        refine va_get (D := D) (C := RX5) (T := TX5) (N := 2) hx hb hts hiX5 hown hK hP 0 gtX5_0 rfl 0 (by decide) hf10 (fun _ h9 => h9) rfl dX5_fill_46 ?_
        refine va_getN (host := "RagVats") (D := D) (C := RX0) (T := TX0) (N := 12) hx hb hts hiX0 hown hK hP 1 gtX5_1 rfl 7 (by decide) hn81 (fun _ h9 => h9) rfl dX5_fill_49 ?_
        refine lv_iload_n hx hb dX5_fill_52 rfl (lv_at hl 1 rfl) ?_
        replace hF := bnd_some hF
        obtain ⟨z7, hz_7, hF⟩ := hF
        refine krI (kV (As := [.int a1]) ⟨hx, hb, hml, hown, hts⟩ (kX4_pulpOf l D cy sa (fun i => h (i + 4)) m_pulp m_beat m_sort a1 z7 hz_7 _) (cwV 1 hts gX5_fill_X4_pulpOf rfl rfl rfl (by decide +kernel) ⟨Nat.le_of_ble_eq_true rfl, Nat.le_of_ble_eq_true rfl⟩) hK hP hD hS hA hG [4, 5, 6, 7] hcX5_X4_4 ndX4_4 gtX4_0 rfl rfl rfl hl.1 [] rfl (Nat.le_of_ble_eq_true rfl) dX5_fill_53 ⟨(Nat.le_of_ble_eq_true rfl), (Nat.le_of_ble_eq_true rfl)⟩) hP hD hS hA [4, 5, 6, 7] hcX5_X4_4 (fun H locs hP hS => ?_)
        refine lv_if_le (tgt := 69) hx hb dX5_fill_56 (by decide) (fun c_8 => ?_) (fun c_8 => ?_)
        · replace hF := if_t hF c_8
          refine lv_aload_n hx hb dX5_fill_69 rfl (lv_at hl 0 rfl) ?_
          refine va_get (D := D) (C := RX5) (T := TX5) (N := 2) hx hb hts hiX5 hown hK hP 0 gtX5_0 rfl 0 (by decide) hf10 (fun _ h9 => h9) rfl dX5_fill_70 ?_
          refine va_getN (host := "RagVats") (D := D) (C := RX0) (T := TX0) (N := 12) hx hb hts hiX0 hown hK hP 1 gtX5_1 rfl 5 (by decide) hn92 (fun _ h9 => h9) rfl dX5_fill_73 ?_
          refine lv_iload_n hx hb dX5_fill_76 rfl (lv_at hl 2 rfl) ?_
          replace hF := ckI_some hF
          obtain ⟨hi_9, hF⟩ := hF
          refine va_iald hx hb hK hP 2 0 gtX5_2 rfl hi_9 dX5_fill_77 ?_
          refine lv_iload_n hx hb dX5_fill_78 rfl (lv_at hl 3 rfl) ?_
          refine lv_icmp_ge (tgt := 92) hx hb dX5_fill_79 (by decide) (fun c_10 => ?_) (fun c_10 => ?_)
          · replace hF := if_t hF c_10
            refine lv_aload_n hx hb dX5_fill_92 rfl (lv_at hl 0 rfl) ?_
            refine va_get (D := D) (C := RX5) (T := TX5) (N := 2) hx hb hts hiX5 hown hK hP 0 gtX5_0 rfl 0 (by decide) hf10 (fun _ h9 => h9) rfl dX5_fill_93 ?_
            refine va_getN (host := "RagVats") (D := D) (C := RX0) (T := TX0) (N := 12) hx hb hts hiX0 hown hK hP 1 gtX5_1 rfl 5 (by decide) hn92 (fun _ h9 => h9) rfl dX5_fill_96 ?_
            refine lv_iload_n hx hb dX5_fill_99 rfl (lv_at hl 2 rfl) ?_
            refine lv_dup2_11 hx hb dX5_fill_100 rfl rfl ?_
            replace hF := ckI_some hF
            obtain ⟨hi_11, hF⟩ := hF
            refine va_iald hx hb hK hP 2 0 gtX5_2 rfl hi_11 dX5_fill_101 ?_
            refine lv_iload_n hx hb dX5_fill_102 rfl (lv_at hl 3 rfl) ?_
            refine lv_isub hx hb dX5_fill_103 ?_
            replace hF := ckI_some hF
            obtain ⟨hi_12, hF⟩ := hF
            refine va_iast hx hb hK hP hD hS 2 0 gtX5_2 rfl hi_12 dX5_fill_104 (fun H locs hP hD hS => ?_)
            rw [stX5_2] at hP hD
            refine lv_aload_n hx hb dX5_fill_105 rfl (lv_at hl 0 rfl) ?_
            refine va_get (D := D) (C := RX5) (T := TX5) (N := 2) hx hb hts hiX5 hown hK hP 0 gtX5_0 rfl 0 (by decide) hf10 (fun _ h9 => h9) rfl dX5_fill_106 ?_
            refine va_getN (host := "RagVats") (D := D) (C := RX0) (T := TX0) (N := 12) hx hb hts hiX0 hown hK hP 1 gtX5_1 rfl 7 (by decide) hn81 (fun _ h9 => h9) rfl dX5_fill_109 ?_
            refine lv_iload_n hx hb dX5_fill_112 rfl (lv_at hl 1 rfl) ?_
            refine lv_iload_n hx hb dX5_fill_113 rfl (lv_at hl 2 rfl) ?_
            refine lv_iload_n hx hb dX5_fill_114 rfl (lv_at hl 3 rfl) ?_
            replace hF := bnd_some hF
            obtain ⟨z13, hz_13, hF⟩ := hF
            refine kwVE (kV (As := [.int a1, .int a2, .int a3]) ⟨hx, hb, hml, hown, hts⟩ (kX4_charge l D cy sa (fun i => h (i + 4)) m_pulp m_beat m_sort a1 a2 a3 z13 hz_13 _) (cwV 3 hts gX5_fill_X4_charge rfl rfl rfl (by decide +kernel) ⟨Nat.le_of_ble_eq_true rfl, Nat.le_of_ble_eq_true rfl⟩) hK hP hD hS hA hG [4, 5, 6, 7] hcX5_X4_4 ndX4_4 gtX4_0 rfl rfl rfl hl.1 [] rfl (Nat.le_of_ble_eq_true rfl) dX5_fill_115 ⟨(Nat.le_of_ble_eq_true rfl), (Nat.le_of_ble_eq_true rfl)⟩) hP hD hS hA [4, 5, 6, 7] hcX5_X4_4 hmX4 kpX5_X4_4 (fun H locs hP hD hS => ?_)
            refine lv_aload_n hx hb dX5_fill_118 rfl (lv_at hl 0 rfl) ?_
            refine va_get (D := D) (C := RX5) (T := TX5) (N := 2) hx hb hts hiX5 hown hK hP 0 gtX5_0 rfl 0 (by decide) hf10 (fun _ h9 => h9) rfl dX5_fill_119 ?_
            refine va_getN (host := "RagVats") (D := D) (C := RX0) (T := TX0) (N := 12) hx hb hts hiX0 hown hK hP 1 gtX5_1 rfl 5 (by decide) hn92 (fun _ h9 => h9) rfl dX5_fill_122 ?_
            refine lv_iload_n hx hb dX5_fill_125 rfl (lv_at hl 2 rfl) ?_
            replace hF := ckI_some hF
            obtain ⟨hi_14, hF⟩ := hF
            refine va_iald hx hb hK hP 2 0 gtX5_2 rfl hi_14 dX5_fill_126 ?_
            cases hF
          · replace hF := if_f hF c_10
            cases hF
            exact hQ _ _ _ _ _ 46 95 50 _ _ "too few pounds" dX5_fill_82 dX5_fill_85 dX5_fill_86 dX5_fill_88 dX5_fill_91 (hts _ (by decide +kernel)) (hts _ (by decide +kernel)) (by decide +kernel) hat50 ⟨by decide +kernel, by decide +kernel⟩ hP hD hS hl.1 (Nat.le_of_ble_eq_true rfl) (Nat.le_of_ble_eq_true rfl) (Nat.le_of_ble_eq_true rfl)
        · replace hF := if_f hF c_8
          cases hF
          exact hQ _ _ _ _ _ 46 90 50 _ _ "the vat is not empty" dX5_fill_59 dX5_fill_62 dX5_fill_63 dX5_fill_65 dX5_fill_68 (hts _ (by decide +kernel)) (hts _ (by decide +kernel)) (by decide +kernel) hat50 ⟨by decide +kernel, by decide +kernel⟩ hP hD hS hl.1 (Nat.le_of_ble_eq_true rfl) (Nat.le_of_ble_eq_true rfl) (Nat.le_of_ble_eq_true rfl)
      · replace hF := if_t hF c_6
        cases hF
        exact hQ _ _ _ _ _ 33 79 37 _ _ "pounds is not 1 to 40" dX5_fill_35 dX5_fill_38 dX5_fill_39 dX5_fill_41 dX5_fill_44 (hts _ (by decide +kernel)) (hts _ (by decide +kernel)) (by decide +kernel) hat37 ⟨by decide +kernel, by decide +kernel⟩ hP hD hS hl.1 (Nat.le_of_ble_eq_true rfl) (Nat.le_of_ble_eq_true rfl) (Nat.le_of_ble_eq_true rfl)
    · replace hF := if_t hF c_4
      cases hF
      exact hQ _ _ _ _ _ 23 77 27 _ _ "no such vat or sort" dX5_fill_16 dX5_fill_19 dX5_fill_20 dX5_fill_22 dX5_fill_25 (hts _ (by decide +kernel)) (hts _ (by decide +kernel)) (by decide +kernel) hat27 ⟨by decide +kernel, by decide +kernel⟩ hP hD hS hl.1 (Nat.le_of_ble_eq_true rfl) (Nat.le_of_ble_eq_true rfl) (Nat.le_of_ble_eq_true rfl)

def fX5_drain (m_pulp : FN) (m_beat : FN) (m_sort : FN) (a1 : Int32) : Option ((Int32 × FN × FN × FN) ⊕ Nat) := (fX5_isBelow a1 4).bind fun z1 => if z1 = 0 then some (.inr 0) else (fX4_pulpOf m_pulp a1).bind fun z3 => if z3 = 0 then some (.inr 2) else (fX4_takeOut m_pulp m_beat m_sort a1 z3).bind fun z5 => some (.inl (z3, z5.1, z5.2.1, z5.2.2))
abbrev rX5_drain : Room := { frames := 3, cells := 0, slots := 0, locals := 66 }
set_option maxHeartbeats 4000000 in
set_option maxRecDepth 100000 in
theorem kX5_drain (l : Launch) (D : va_G) (cy : Nat → ClassId) (sa : SAT) (h : Nat → Nat) (m_day : Int32) (m_coins : Int32) (m_felts : Int32) (m_made : Int32) (m_worth : Int32) (m_rags : FN) (m_water : FN) (m_pulp : FN) (m_beat : FN) (m_sort : FN) (m_nM : Int32) (m_mark : FN) (m_size : FN) (m_worn : FN) (m_nT : Int32) (m_skill : FN) (m_vat : FN) (m_pair : FN) (m_nQ : Int32) (m_allS : Int32) (m_pmark : FN) (m_pgrade : FN) (m_psheets : FN) (m_loft : FN) (t_day : Int32) (t_coins : Int32) (t_felts : Int32) (t_made : Int32) (t_worth : Int32) (t_rags : FN) (t_water : FN) (t_pulp : FN) (t_beat : FN) (t_sort : FN) (t_nM : Int32) (t_mark : FN) (t_size : FN) (t_worn : FN) (t_nT : Int32) (t_skill : FN) (t_vat : FN) (t_pair : FN) (t_nQ : Int32) (t_allS : Int32) (t_pmark : FN) (t_pgrade : FN) (t_psheets : FN) (t_loft : FN) (a1 : Int32) (z : Int32 × FN × FN × FN) (hF : fX5_drain m_pulp m_beat m_sort a1 = some (.inl z)) : KI l D (tyW cy) sa yX5_drain wsX5_drain rX5_drain [.ref (h 0), .int a1] (wX5 cy h m_day m_coins m_felts m_made m_worth m_rags m_water m_pulp m_beat m_sort m_nM m_mark m_size m_worn m_nT m_skill m_vat m_pair m_nQ m_allS m_pmark m_pgrade m_psheets m_loft t_day t_coins t_felts t_made t_worth t_rags t_water t_pulp t_beat t_sort t_nM t_mark t_size t_worn t_nT t_skill t_vat t_pair t_nQ t_allS t_pmark t_pgrade t_psheets t_loft) z.1 (fun _ => wX5 cy h m_day m_coins m_felts m_made m_worth m_rags m_water z.2.1 z.2.2.1 z.2.2.2 m_nM m_mark m_size m_worn m_nT m_skill m_vat m_pair m_nQ m_allS m_pmark m_pgrade m_psheets m_loft t_day t_coins t_felts t_made t_worth t_rags t_water t_pulp t_beat t_sort t_nM t_mark t_size t_worn t_nT t_skill t_vat t_pair t_nQ t_allS t_pmark t_pgrade t_psheets t_loft) 0 0 := by
  refine KI.of (cc := cX5_drain) (maxL := 3) (by decide +kernel) rfl (Nat.le_of_ble_eq_true rfl) ?_
  intro p e s m args below meth c A ls Q hE hQ
  obtain ⟨hx, hb, hml, hown, hts, hA, hP, hK, hD, hG, hl, hnm⟩ := hE
  replace hown : s.vm.findClass RX5 = some m.cls := hown
  have hiX0 : ∀ w ∈ u_ws RX0 TX0 12, w ∈ wsX5_drain := by decide +kernel
  have hiX5 : ∀ w ∈ u_ws RX5 TX5 2, w ∈ wsX5_drain := by decide +kernel
  have hf10 : (Cond.fieldLink RX5 10 "RagVats" "mill" "LRagVats$Mill;").before args s = true := hts _ (by decide +kernel)
  have hn81 : (Cond.fieldLinkNest RX5 81 "RagVats$Mill" "vats" "LRagVats$Vats;" "RagVats").before args s = true := va_Nw.use rfl (hG.1.1 _ (by decide +kernel))
  replace hl : lv_has ls 3 [(0, .ref (h 0)), (1, .int a1)] := hl
  have hS : va_S A s.heap s.heap [] := va_S.rf
  unfold fX5_drain at hF
  refine lv_iload_n hx hb dX5_drain_0 rfl (lv_at hl 1 rfl) ?_
  refine lv_iconst (v := 4) hx hb dX5_drain_1 (by decide) ?_
  replace hF := bnd_some hF
  obtain ⟨z1, hz_1, hF⟩ := hF
  refine krI (kS (As := [.int a1, .int 4]) ⟨hx, hb, hml, hown, hts⟩ (kX5_isBelow l D cy sa a1 4 z1 hz_1 _) (cwS 2 hts gX5_drain_X5_isBelow rfl rfl rfl (by decide +kernel) ⟨Nat.le_of_ble_eq_true rfl, Nat.le_of_ble_eq_true rfl⟩) hK hP hD hS hA hG [] rfl rfl rfl hl.1 [] rfl (Nat.le_of_ble_eq_true rfl) dX5_drain_2 ⟨(Nat.le_of_ble_eq_true rfl), (Nat.le_of_ble_eq_true rfl)⟩) hP hD hS hA [] rfl (fun H locs hP hS => ?_)
  refine lv_if_ne (tgt := 18) hx hb dX5_drain_5 (by decide) (fun c_2 => ?_) (fun c_2 => ?_)
  · replace hF := if_f hF c_2
    refine lv_aload_n hx hb dX5_drain_18 rfl (lv_at hl 0 rfl) ?_
    refine va_get (D := D) (C := RX5) (T := TX5) (N := 2) hx hb hts hiX5 hown hK hP 0 gtX5_0 rfl 0 (by decide) hf10 (fun _ h9 => h9) rfl dX5_drain_19 ?_
    refine va_getN (host := "RagVats") (D := D) (C := RX0) (T := TX0) (N := 12) hx hb hts hiX0 hown hK hP 1 gtX5_1 rfl 7 (by decide) hn81 (fun _ h9 => h9) rfl dX5_drain_22 ?_
    refine lv_iload_n hx hb dX5_drain_25 rfl (lv_at hl 1 rfl) ?_
    replace hF := bnd_some hF
    obtain ⟨z3, hz_3, hF⟩ := hF
    refine krI (kV (As := [.int a1]) ⟨hx, hb, hml, hown, hts⟩ (kX4_pulpOf l D cy sa (fun i => h (i + 4)) m_pulp m_beat m_sort a1 z3 hz_3 _) (cwV 1 hts gX5_drain_X4_pulpOf rfl rfl rfl (by decide +kernel) ⟨Nat.le_of_ble_eq_true rfl, Nat.le_of_ble_eq_true rfl⟩) hK hP hD hS hA hG [4, 5, 6, 7] hcX5_X4_4 ndX4_4 gtX4_0 rfl rfl rfl hl.1 [] rfl (Nat.le_of_ble_eq_true rfl) dX5_drain_26 ⟨(Nat.le_of_ble_eq_true rfl), (Nat.le_of_ble_eq_true rfl)⟩) hP hD hS hA [4, 5, 6, 7] hcX5_X4_4 (fun H locs hP hS => ?_)
    refine lv_istore_n (lv' := [(2, .int z3), (0, .ref (h 0)), (1, .int a1)]) hx hb dX5_drain_29 rfl hl (by decide) rfl (fun ls hl => ?_)
    refine lv_iload_n hx hb dX5_drain_30 rfl (lv_at hl 0 rfl) ?_
    refine lv_if_ne (tgt := 44) hx hb dX5_drain_31 (by decide) (fun c_4 => ?_) (fun c_4 => ?_)
    · replace hF := if_f hF c_4
      refine lv_aload_n hx hb dX5_drain_44 rfl (lv_at hl 1 rfl) ?_
      refine va_get (D := D) (C := RX5) (T := TX5) (N := 2) hx hb hts hiX5 hown hK hP 0 gtX5_0 rfl 0 (by decide) hf10 (fun _ h9 => h9) rfl dX5_drain_45 ?_
      refine va_getN (host := "RagVats") (D := D) (C := RX0) (T := TX0) (N := 12) hx hb hts hiX0 hown hK hP 1 gtX5_1 rfl 7 (by decide) hn81 (fun _ h9 => h9) rfl dX5_drain_48 ?_
      refine lv_iload_n hx hb dX5_drain_51 rfl (lv_at hl 2 rfl) ?_
      refine lv_iload_n hx hb dX5_drain_52 rfl (lv_at hl 0 rfl) ?_
      replace hF := bnd_some hF
      obtain ⟨z5, hz_5, hF⟩ := hF
      refine kwVE (kV (As := [.int a1, .int z3]) ⟨hx, hb, hml, hown, hts⟩ (kX4_takeOut l D cy sa (fun i => h (i + 4)) m_pulp m_beat m_sort a1 z3 z5 hz_5 _) (cwV 2 hts gX5_drain_X4_takeOut rfl rfl rfl (by decide +kernel) ⟨Nat.le_of_ble_eq_true rfl, Nat.le_of_ble_eq_true rfl⟩) hK hP hD hS hA hG [4, 5, 6, 7] hcX5_X4_4 ndX4_4 gtX4_0 rfl rfl rfl hl.1 [] rfl (Nat.le_of_ble_eq_true rfl) dX5_drain_53 ⟨(Nat.le_of_ble_eq_true rfl), (Nat.le_of_ble_eq_true rfl)⟩) hP hD hS hA [4, 5, 6, 7] hcX5_X4_4 hmX4 kpX5_X4_4 (fun H locs hP hD hS => ?_)
      refine lv_iload_n hx hb dX5_drain_56 rfl (lv_at hl 0 rfl) ?_
      cases hF
      exact hQ _ _ _ _ _ _ (fun _ => 0) dX5_drain_57 hP hD hS (Nat.le_of_ble_eq_true rfl) (Nat.le_of_ble_eq_true rfl)
    · replace hF := if_t hF c_4
      cases hF
  · replace hF := if_t hF c_2
    cases hF
abbrev rX5_drainx : Room := { frames := 6, cells := 1, slots := 6, locals := 98 }
set_option maxHeartbeats 4000000 in
set_option maxRecDepth 100000 in
theorem kX5_drainx (l : Launch) (D : va_G) (cy : Nat → ClassId) (sa : SAT) (h : Nat → Nat) (m_day : Int32) (m_coins : Int32) (m_felts : Int32) (m_made : Int32) (m_worth : Int32) (m_rags : FN) (m_water : FN) (m_pulp : FN) (m_beat : FN) (m_sort : FN) (m_nM : Int32) (m_mark : FN) (m_size : FN) (m_worn : FN) (m_nT : Int32) (m_skill : FN) (m_vat : FN) (m_pair : FN) (m_nQ : Int32) (m_allS : Int32) (m_pmark : FN) (m_pgrade : FN) (m_psheets : FN) (m_loft : FN) (t_day : Int32) (t_coins : Int32) (t_felts : Int32) (t_made : Int32) (t_worth : Int32) (t_rags : FN) (t_water : FN) (t_pulp : FN) (t_beat : FN) (t_sort : FN) (t_nM : Int32) (t_mark : FN) (t_size : FN) (t_worn : FN) (t_nT : Int32) (t_skill : FN) (t_vat : FN) (t_pair : FN) (t_nQ : Int32) (t_allS : Int32) (t_pmark : FN) (t_pgrade : FN) (t_psheets : FN) (t_loft : FN) (a1 : Int32) (hst : l.stackTraces = false) (kx : Nat) (hF : fX5_drain m_pulp m_beat m_sort a1 = some (.inr kx)) : KX l D (tyW cy) sa yX5_drain wsX5_drain rX5_drainx [.ref (h 0), .int a1] (wX5 cy h m_day m_coins m_felts m_made m_worth m_rags m_water m_pulp m_beat m_sort m_nM m_mark m_size m_worn m_nT m_skill m_vat m_pair m_nQ m_allS m_pmark m_pgrade m_psheets m_loft t_day t_coins t_felts t_made t_worth t_rags t_water t_pulp t_beat t_sort t_nM t_mark t_size t_worn t_nT t_skill t_vat t_pair t_nQ t_allS t_pmark t_pgrade t_psheets t_loft) (exN kx) 1 6 := by
  refine KX.of (cc := cX5_drain) (maxL := 3) (ret := (some .int)) hst (by decide) rfl (Nat.le_of_ble_eq_true rfl) (Nat.le_of_ble_eq_true rfl) (Nat.le_of_ble_eq_true rfl) (Nat.le_refl _) (Nat.le_refl _) ?_
  intro p e s m args below meth c A ls Q hE hQ
  obtain ⟨hx, hb, hml, hown, hts, hA, hP, hK, hD, hG, hl, hnm⟩ := hE
  replace hown : s.vm.findClass RX5 = some m.cls := hown
  have hiX0 : ∀ w ∈ u_ws RX0 TX0 12, w ∈ wsX5_drain := by decide +kernel
  have hiX5 : ∀ w ∈ u_ws RX5 TX5 2, w ∈ wsX5_drain := by decide +kernel
  have hf10 : (Cond.fieldLink RX5 10 "RagVats" "mill" "LRagVats$Mill;").before args s = true := hts _ (by decide +kernel)
  have hn81 : (Cond.fieldLinkNest RX5 81 "RagVats$Mill" "vats" "LRagVats$Vats;" "RagVats").before args s = true := va_Nw.use rfl (hG.1.1 _ (by decide +kernel))
  have hat27 : ∀ w ∈ vx_atS RX5 27 "java/lang/IndexOutOfBoundsException" exNames, w.before args s = true := vx_hat (B := [.castable "java/lang/IndexOutOfBoundsException" "java/lang/IndexOutOfBoundsException", .declares (Bundle.initS "java/lang/RuntimeException"), .declares (Bundle.initS "java/lang/Exception"), .declares (Bundle.initS "java/lang/Throwable")]) (fun w h => hts w ((by decide +kernel : ∀ w ∈ (vx_atS RX5 27 "java/lang/IndexOutOfBoundsException" exNames).filter goodWord, w ∈ wsX5_drain) w h)) (by decide +kernel) (vx_c (va_Nw.use rfl (hG.1.1 _ (by decide +kernel))) (vx_c (va_Nw.use rfl (hG.1.1 _ (by decide +kernel))) (vx_c (va_Nw.use rfl (hG.1.1 _ (by decide +kernel))) (vx_c (va_Nw.use rfl (hG.1.1 _ (by decide +kernel))) vx_n))))
  have hat50 : ∀ w ∈ vx_atS RX5 50 "java/lang/IllegalStateException" exNames, w.before args s = true := vx_hat (B := [.castable "java/lang/IllegalStateException" "java/lang/IllegalStateException", .declares (Bundle.initS "java/lang/RuntimeException"), .declares (Bundle.initS "java/lang/Exception"), .declares (Bundle.initS "java/lang/Throwable")]) (fun w h => hts w ((by decide +kernel : ∀ w ∈ (vx_atS RX5 50 "java/lang/IllegalStateException" exNames).filter goodWord, w ∈ wsX5_drain) w h)) (by decide +kernel) (vx_c (va_Nw.use rfl (hG.1.1 _ (by decide +kernel))) (vx_c (va_Nw.use rfl (hG.1.1 _ (by decide +kernel))) (vx_c (va_Nw.use rfl (hG.1.1 _ (by decide +kernel))) (vx_c (va_Nw.use rfl (hG.1.1 _ (by decide +kernel))) vx_n))))
  replace hl : lv_has ls 3 [(0, .ref (h 0)), (1, .int a1)] := hl
  have hS : va_S A s.heap s.heap [] := va_S.rf
  unfold fX5_drain at hF
  refine lv_iload_n hx hb dX5_drain_0 rfl (lv_at hl 1 rfl) ?_
  refine lv_iconst (v := 4) hx hb dX5_drain_1 (by decide) ?_
  replace hF := bnd_some hF
  obtain ⟨z1, hz_1, hF⟩ := hF
  refine krI (kS (As := [.int a1, .int 4]) ⟨hx, hb, hml, hown, hts⟩ (kX5_isBelow l D cy sa a1 4 z1 hz_1 _) (cwS 2 hts gX5_drain_X5_isBelow rfl rfl rfl (by decide +kernel) ⟨Nat.le_of_ble_eq_true rfl, Nat.le_of_ble_eq_true rfl⟩) hK hP hD hS hA hG [] rfl rfl rfl hl.1 [] rfl (Nat.le_of_ble_eq_true rfl) dX5_drain_2 ⟨(Nat.le_of_ble_eq_true rfl), (Nat.le_of_ble_eq_true rfl)⟩) hP hD hS hA [] rfl (fun H locs hP hS => ?_)
  refine lv_if_ne (tgt := 18) hx hb dX5_drain_5 (by decide) (fun c_2 => ?_) (fun c_2 => ?_)
  · replace hF := if_f hF c_2
    refine lv_aload_n hx hb dX5_drain_18 rfl (lv_at hl 0 rfl) ?_
    refine va_get (D := D) (C := RX5) (T := TX5) (N := 2) hx hb hts hiX5 hown hK hP 0 gtX5_0 rfl 0 (by decide) hf10 (fun _ h9 => h9) rfl dX5_drain_19 ?_
    refine va_getN (host := "RagVats") (D := D) (C := RX0) (T := TX0) (N := 12) hx hb hts hiX0 hown hK hP 1 gtX5_1 rfl 7 (by decide) hn81 (fun _ h9 => h9) rfl dX5_drain_22 ?_
    refine lv_iload_n hx hb dX5_drain_25 rfl (lv_at hl 1 rfl) ?_
    replace hF := bnd_some hF
    obtain ⟨z3, hz_3, hF⟩ := hF
    refine krI (kV (As := [.int a1]) ⟨hx, hb, hml, hown, hts⟩ (kX4_pulpOf l D cy sa (fun i => h (i + 4)) m_pulp m_beat m_sort a1 z3 hz_3 _) (cwV 1 hts gX5_drain_X4_pulpOf rfl rfl rfl (by decide +kernel) ⟨Nat.le_of_ble_eq_true rfl, Nat.le_of_ble_eq_true rfl⟩) hK hP hD hS hA hG [4, 5, 6, 7] hcX5_X4_4 ndX4_4 gtX4_0 rfl rfl rfl hl.1 [] rfl (Nat.le_of_ble_eq_true rfl) dX5_drain_26 ⟨(Nat.le_of_ble_eq_true rfl), (Nat.le_of_ble_eq_true rfl)⟩) hP hD hS hA [4, 5, 6, 7] hcX5_X4_4 (fun H locs hP hS => ?_)
    refine lv_istore_n (lv' := [(2, .int z3), (0, .ref (h 0)), (1, .int a1)]) hx hb dX5_drain_29 rfl hl (by decide) rfl (fun ls hl => ?_)
    refine lv_iload_n hx hb dX5_drain_30 rfl (lv_at hl 0 rfl) ?_
    refine lv_if_ne (tgt := 44) hx hb dX5_drain_31 (by decide) (fun c_4 => ?_) (fun c_4 => ?_)
    · replace hF := if_f hF c_4
      refine lv_aload_n hx hb dX5_drain_44 rfl (lv_at hl 1 rfl) ?_
      refine va_get (D := D) (C := RX5) (T := TX5) (N := 2) hx hb hts hiX5 hown hK hP 0 gtX5_0 rfl 0 (by decide) hf10 (fun _ h9 => h9) rfl dX5_drain_45 ?_
      refine va_getN (host := "RagVats") (D := D) (C := RX0) (T := TX0) (N := 12) hx hb hts hiX0 hown hK hP 1 gtX5_1 rfl 7 (by decide) hn81 (fun _ h9 => h9) rfl dX5_drain_48 ?_
      refine lv_iload_n hx hb dX5_drain_51 rfl (lv_at hl 2 rfl) ?_
      refine lv_iload_n hx hb dX5_drain_52 rfl (lv_at hl 0 rfl) ?_
      replace hF := bnd_some hF
      obtain ⟨z5, hz_5, hF⟩ := hF
      refine kwVE (kV (As := [.int a1, .int z3]) ⟨hx, hb, hml, hown, hts⟩ (kX4_takeOut l D cy sa (fun i => h (i + 4)) m_pulp m_beat m_sort a1 z3 z5 hz_5 _) (cwV 2 hts gX5_drain_X4_takeOut rfl rfl rfl (by decide +kernel) ⟨Nat.le_of_ble_eq_true rfl, Nat.le_of_ble_eq_true rfl⟩) hK hP hD hS hA hG [4, 5, 6, 7] hcX5_X4_4 ndX4_4 gtX4_0 rfl rfl rfl hl.1 [] rfl (Nat.le_of_ble_eq_true rfl) dX5_drain_53 ⟨(Nat.le_of_ble_eq_true rfl), (Nat.le_of_ble_eq_true rfl)⟩) hP hD hS hA [4, 5, 6, 7] hcX5_X4_4 hmX4 kpX5_X4_4 (fun H locs hP hD hS => ?_)
      refine lv_iload_n hx hb dX5_drain_56 rfl (lv_at hl 0 rfl) ?_
      cases hF
    · replace hF := if_t hF c_4
      cases hF
      exact hQ _ _ _ _ _ 46 102 50 _ _ "the vat is empty" dX5_drain_34 dX5_drain_37 dX5_drain_38 dX5_drain_40 dX5_drain_43 (hts _ (by decide +kernel)) (hts _ (by decide +kernel)) (by decide +kernel) hat50 ⟨by decide +kernel, by decide +kernel⟩ hP hD hS hl.1 (Nat.le_of_ble_eq_true rfl) (Nat.le_of_ble_eq_true rfl) (Nat.le_of_ble_eq_true rfl)
  · replace hF := if_t hF c_2
    cases hF
    exact hQ _ _ _ _ _ 23 100 27 _ _ "no such vat" dX5_drain_8 dX5_drain_11 dX5_drain_12 dX5_drain_14 dX5_drain_17 (hts _ (by decide +kernel)) (hts _ (by decide +kernel)) (by decide +kernel) hat27 ⟨by decide +kernel, by decide +kernel⟩ hP hD hS hl.1 (Nat.le_of_ble_eq_true rfl) (Nat.le_of_ble_eq_true rfl) (Nat.le_of_ble_eq_true rfl)

def fX5_pair (m_nM : Int32) (m_mark : FN) (m_size : FN) (m_worn : FN) (a1 : Int32) (a2 : Int32) : Option ((Int32 × Int32 × FN × FN × FN) ⊕ Nat) := (fX5_isBelow a1 10).bind fun z1 => if z1 = 0 then some (.inr 0) else (fX5_isFrom1To a2 3).bind fun z3 => if z3 = 0 then some (.inr 1) else if m_nM < 5 then (fX1_add m_nM m_mark m_size m_worn a1 a2).bind fun z6 => some (.inl (z6.1, z6.2.1, z6.2.2.1, z6.2.2.2.1, z6.2.2.2.2)) else some (.inr 2)
abbrev rX5_pair : Room := { frames := 1, cells := 0, slots := 0, locals := 22 }
set_option maxHeartbeats 4000000 in
set_option maxRecDepth 100000 in
theorem kX5_pair (l : Launch) (D : va_G) (cy : Nat → ClassId) (sa : SAT) (h : Nat → Nat) (m_day : Int32) (m_coins : Int32) (m_felts : Int32) (m_made : Int32) (m_worth : Int32) (m_rags : FN) (m_water : FN) (m_pulp : FN) (m_beat : FN) (m_sort : FN) (m_nM : Int32) (m_mark : FN) (m_size : FN) (m_worn : FN) (m_nT : Int32) (m_skill : FN) (m_vat : FN) (m_pair : FN) (m_nQ : Int32) (m_allS : Int32) (m_pmark : FN) (m_pgrade : FN) (m_psheets : FN) (m_loft : FN) (t_day : Int32) (t_coins : Int32) (t_felts : Int32) (t_made : Int32) (t_worth : Int32) (t_rags : FN) (t_water : FN) (t_pulp : FN) (t_beat : FN) (t_sort : FN) (t_nM : Int32) (t_mark : FN) (t_size : FN) (t_worn : FN) (t_nT : Int32) (t_skill : FN) (t_vat : FN) (t_pair : FN) (t_nQ : Int32) (t_allS : Int32) (t_pmark : FN) (t_pgrade : FN) (t_psheets : FN) (t_loft : FN) (a1 : Int32) (a2 : Int32) (z : Int32 × Int32 × FN × FN × FN) (hF : fX5_pair m_nM m_mark m_size m_worn a1 a2 = some (.inl z)) : KI l D (tyW cy) sa yX5_pair wsX5_pair rX5_pair [.ref (h 0), .int a1, .int a2] (wX5 cy h m_day m_coins m_felts m_made m_worth m_rags m_water m_pulp m_beat m_sort m_nM m_mark m_size m_worn m_nT m_skill m_vat m_pair m_nQ m_allS m_pmark m_pgrade m_psheets m_loft t_day t_coins t_felts t_made t_worth t_rags t_water t_pulp t_beat t_sort t_nM t_mark t_size t_worn t_nT t_skill t_vat t_pair t_nQ t_allS t_pmark t_pgrade t_psheets t_loft) z.1 (fun _ => wX5 cy h m_day m_coins m_felts m_made m_worth m_rags m_water m_pulp m_beat m_sort z.2.1 z.2.2.1 z.2.2.2.1 z.2.2.2.2 m_nT m_skill m_vat m_pair m_nQ m_allS m_pmark m_pgrade m_psheets m_loft t_day t_coins t_felts t_made t_worth t_rags t_water t_pulp t_beat t_sort t_nM t_mark t_size t_worn t_nT t_skill t_vat t_pair t_nQ t_allS t_pmark t_pgrade t_psheets t_loft) 0 0 := by
  refine KI.of (cc := cX5_pair) (maxL := 3) (by decide +kernel) rfl (Nat.le_of_ble_eq_true rfl) ?_
  intro p e s m args below meth c A ls Q hE hQ
  obtain ⟨hx, hb, hml, hown, hts, hA, hP, hK, hD, hG, hl, hnm⟩ := hE
  replace hown : s.vm.findClass RX5 = some m.cls := hown
  have hiX0 : ∀ w ∈ u_ws RX0 TX0 12, w ∈ wsX5_pair := by decide +kernel
  have hiX1 : ∀ w ∈ u_ws RX1 TX1 4, w ∈ wsX5_pair := by decide +kernel
  have hiX5 : ∀ w ∈ u_ws RX5 TX5 2, w ∈ wsX5_pair := by decide +kernel
  have hf10 : (Cond.fieldLink RX5 10 "RagVats" "mill" "LRagVats$Mill;").before args s = true := hts _ (by decide +kernel)
  have hn112 : (Cond.fieldLinkNest RX5 112 "RagVats$Mill" "moulds" "LRagVats$Moulds;" "RagVats").before args s = true := va_Nw.use rfl (hG.1.1 _ (by decide +kernel))
  have hn116 : (Cond.fieldLinkNest RX5 116 "RagVats$Moulds" "number" "I" "RagVats").before args s = true := va_Nw.use rfl (hG.1.1 _ (by decide +kernel))
  replace hl : lv_has ls 3 [(0, .ref (h 0)), (1, .int a1), (2, .int a2)] := hl
  have hS : va_S A s.heap s.heap [] := va_S.rf
  unfold fX5_pair at hF
  refine lv_iload_n hx hb dX5_pair_0 rfl (lv_at hl 1 rfl) ?_
  refine lv_bipush (v := 10) hx hb dX5_pair_1 (by decide) ?_
  replace hF := bnd_some hF
  obtain ⟨z1, hz_1, hF⟩ := hF
  refine krI (kS (As := [.int a1, .int 10]) ⟨hx, hb, hml, hown, hts⟩ (kX5_isBelow l D cy sa a1 10 z1 hz_1 _) (cwS 2 hts gX5_pair_X5_isBelow rfl rfl rfl (by decide +kernel) ⟨Nat.le_of_ble_eq_true rfl, Nat.le_of_ble_eq_true rfl⟩) hK hP hD hS hA hG [] rfl rfl rfl hl.1 [] rfl (Nat.le_of_ble_eq_true rfl) dX5_pair_3 ⟨(Nat.le_of_ble_eq_true rfl), (Nat.le_of_ble_eq_true rfl)⟩) hP hD hS hA [] rfl (fun H locs hP hS => ?_)
  refine lv_if_ne (tgt := 19) hx hb dX5_pair_6 (by decide) (fun c_2 => ?_) (fun c_2 => ?_)
  · replace hF := if_f hF c_2
    refine lv_iload_n hx hb dX5_pair_19 rfl (lv_at hl 2 rfl) ?_
    refine lv_iconst (v := 3) hx hb dX5_pair_20 (by decide) ?_
    replace hF := bnd_some hF
    obtain ⟨z3, hz_3, hF⟩ := hF
    refine krI (kS (As := [.int a2, .int 3]) ⟨hx, hb, hml, hown, hts⟩ (kX5_isFrom1To l D cy sa a2 3 z3 hz_3 _) (cwS 2 hts gX5_pair_X5_isFrom1To rfl rfl rfl (by decide +kernel) ⟨Nat.le_of_ble_eq_true rfl, Nat.le_of_ble_eq_true rfl⟩) hK hP hD hS hA hG [] rfl rfl rfl hl.1 [] rfl (Nat.le_of_ble_eq_true rfl) dX5_pair_21 ⟨(Nat.le_of_ble_eq_true rfl), (Nat.le_of_ble_eq_true rfl)⟩) hP hD hS hA [] rfl (fun H locs hP hS => ?_)
    refine lv_if_ne (tgt := 37) hx hb dX5_pair_24 (by decide) (fun c_4 => ?_) (fun c_4 => ?_)
    · replace hF := if_f hF c_4
      refine lv_aload_n hx hb dX5_pair_37 rfl (lv_at hl 0 rfl) ?_
      refine va_get (D := D) (C := RX5) (T := TX5) (N := 2) hx hb hts hiX5 hown hK hP 0 gtX5_0 rfl 0 (by decide) hf10 (fun _ h9 => h9) rfl dX5_pair_38 ?_
      refine va_getN (host := "RagVats") (D := D) (C := RX0) (T := TX0) (N := 12) hx hb hts hiX0 hown hK hP 1 gtX5_1 rfl 8 (by decide) hn112 (fun _ h9 => h9) rfl dX5_pair_41 ?_
      refine va_getN (host := "RagVats") (D := D) (C := RX1) (T := TX1) (N := 4) hx hb hts hiX1 hown hK hP 8 gtX5_8 rfl 0 (by decide) hn116 (fun _ h9 => h9) rfl dX5_pair_44 ?_
      refine lv_iconst (v := 5) hx hb dX5_pair_47 (by decide) ?_
      refine lv_icmp_lt (tgt := 61) hx hb dX5_pair_48 (by decide) (fun c_5 => ?_) (fun c_5 => ?_)
      · replace hF := if_t hF c_5
        refine lv_aload_n hx hb dX5_pair_61 rfl (lv_at hl 0 rfl) ?_
        refine va_get (D := D) (C := RX5) (T := TX5) (N := 2) hx hb hts hiX5 hown hK hP 0 gtX5_0 rfl 0 (by decide) hf10 (fun _ h9 => h9) rfl dX5_pair_62 ?_
        refine va_getN (host := "RagVats") (D := D) (C := RX0) (T := TX0) (N := 12) hx hb hts hiX0 hown hK hP 1 gtX5_1 rfl 8 (by decide) hn112 (fun _ h9 => h9) rfl dX5_pair_65 ?_
        refine lv_iload_n hx hb dX5_pair_68 rfl (lv_at hl 1 rfl) ?_
        refine lv_iload_n hx hb dX5_pair_69 rfl (lv_at hl 2 rfl) ?_
        replace hF := bnd_some hF
        obtain ⟨z6, hz_6, hF⟩ := hF
        refine kwIE (kV (As := [.int a1, .int a2]) ⟨hx, hb, hml, hown, hts⟩ (kX1_add l D cy sa (fun i => h (i + 8)) m_nM m_mark m_size m_worn a1 a2 z6 hz_6 _) (cwV 2 hts gX5_pair_X1_add rfl rfl rfl (by decide +kernel) ⟨Nat.le_of_ble_eq_true rfl, Nat.le_of_ble_eq_true rfl⟩) hK hP hD hS hA hG [8, 9, 10, 11] hcX5_X1_8 ndX1_8 gtX1_0 rfl rfl rfl hl.1 [] rfl (Nat.le_of_ble_eq_true rfl) dX5_pair_70 ⟨(Nat.le_of_ble_eq_true rfl), (Nat.le_of_ble_eq_true rfl)⟩) hP hD hS hA [8, 9, 10, 11] hcX5_X1_8 hmX1 kpX5_X1_8 (fun H locs hP hD hS => ?_)
        cases hF
        exact hQ _ _ _ _ _ _ (fun _ => 0) dX5_pair_73 hP hD hS (Nat.le_of_ble_eq_true rfl) (Nat.le_of_ble_eq_true rfl)
      · replace hF := if_f hF c_5
        cases hF
    · replace hF := if_t hF c_4
      cases hF
  · replace hF := if_t hF c_2
    cases hF
abbrev rX5_pairx : Room := { frames := 6, cells := 1, slots := 6, locals := 98 }
set_option maxHeartbeats 4000000 in
set_option maxRecDepth 100000 in
theorem kX5_pairx (l : Launch) (D : va_G) (cy : Nat → ClassId) (sa : SAT) (h : Nat → Nat) (m_day : Int32) (m_coins : Int32) (m_felts : Int32) (m_made : Int32) (m_worth : Int32) (m_rags : FN) (m_water : FN) (m_pulp : FN) (m_beat : FN) (m_sort : FN) (m_nM : Int32) (m_mark : FN) (m_size : FN) (m_worn : FN) (m_nT : Int32) (m_skill : FN) (m_vat : FN) (m_pair : FN) (m_nQ : Int32) (m_allS : Int32) (m_pmark : FN) (m_pgrade : FN) (m_psheets : FN) (m_loft : FN) (t_day : Int32) (t_coins : Int32) (t_felts : Int32) (t_made : Int32) (t_worth : Int32) (t_rags : FN) (t_water : FN) (t_pulp : FN) (t_beat : FN) (t_sort : FN) (t_nM : Int32) (t_mark : FN) (t_size : FN) (t_worn : FN) (t_nT : Int32) (t_skill : FN) (t_vat : FN) (t_pair : FN) (t_nQ : Int32) (t_allS : Int32) (t_pmark : FN) (t_pgrade : FN) (t_psheets : FN) (t_loft : FN) (a1 : Int32) (a2 : Int32) (hst : l.stackTraces = false) (kx : Nat) (hF : fX5_pair m_nM m_mark m_size m_worn a1 a2 = some (.inr kx)) : KX l D (tyW cy) sa yX5_pair wsX5_pair rX5_pairx [.ref (h 0), .int a1, .int a2] (wX5 cy h m_day m_coins m_felts m_made m_worth m_rags m_water m_pulp m_beat m_sort m_nM m_mark m_size m_worn m_nT m_skill m_vat m_pair m_nQ m_allS m_pmark m_pgrade m_psheets m_loft t_day t_coins t_felts t_made t_worth t_rags t_water t_pulp t_beat t_sort t_nM t_mark t_size t_worn t_nT t_skill t_vat t_pair t_nQ t_allS t_pmark t_pgrade t_psheets t_loft) (exN kx) 1 6 := by
  refine KX.of (cc := cX5_pair) (maxL := 3) (ret := (some .int)) hst (by decide) rfl (Nat.le_of_ble_eq_true rfl) (Nat.le_of_ble_eq_true rfl) (Nat.le_of_ble_eq_true rfl) (Nat.le_refl _) (Nat.le_refl _) ?_
  intro p e s m args below meth c A ls Q hE hQ
  obtain ⟨hx, hb, hml, hown, hts, hA, hP, hK, hD, hG, hl, hnm⟩ := hE
  replace hown : s.vm.findClass RX5 = some m.cls := hown
  have hiX0 : ∀ w ∈ u_ws RX0 TX0 12, w ∈ wsX5_pair := by decide +kernel
  have hiX1 : ∀ w ∈ u_ws RX1 TX1 4, w ∈ wsX5_pair := by decide +kernel
  have hiX5 : ∀ w ∈ u_ws RX5 TX5 2, w ∈ wsX5_pair := by decide +kernel
  have hf10 : (Cond.fieldLink RX5 10 "RagVats" "mill" "LRagVats$Mill;").before args s = true := hts _ (by decide +kernel)
  have hn112 : (Cond.fieldLinkNest RX5 112 "RagVats$Mill" "moulds" "LRagVats$Moulds;" "RagVats").before args s = true := va_Nw.use rfl (hG.1.1 _ (by decide +kernel))
  have hn116 : (Cond.fieldLinkNest RX5 116 "RagVats$Moulds" "number" "I" "RagVats").before args s = true := va_Nw.use rfl (hG.1.1 _ (by decide +kernel))
  have hat27 : ∀ w ∈ vx_atS RX5 27 "java/lang/IndexOutOfBoundsException" exNames, w.before args s = true := vx_hat (B := [.castable "java/lang/IndexOutOfBoundsException" "java/lang/IndexOutOfBoundsException", .declares (Bundle.initS "java/lang/RuntimeException"), .declares (Bundle.initS "java/lang/Exception"), .declares (Bundle.initS "java/lang/Throwable")]) (fun w h => hts w ((by decide +kernel : ∀ w ∈ (vx_atS RX5 27 "java/lang/IndexOutOfBoundsException" exNames).filter goodWord, w ∈ wsX5_pair) w h)) (by decide +kernel) (vx_c (va_Nw.use rfl (hG.1.1 _ (by decide +kernel))) (vx_c (va_Nw.use rfl (hG.1.1 _ (by decide +kernel))) (vx_c (va_Nw.use rfl (hG.1.1 _ (by decide +kernel))) (vx_c (va_Nw.use rfl (hG.1.1 _ (by decide +kernel))) vx_n))))
  have hat37 : ∀ w ∈ vx_atS RX5 37 "java/lang/IllegalArgumentException" exNames, w.before args s = true := vx_hat (B := [.castable "java/lang/IllegalArgumentException" "java/lang/IllegalArgumentException", .declares (Bundle.initS "java/lang/RuntimeException"), .declares (Bundle.initS "java/lang/Exception"), .declares (Bundle.initS "java/lang/Throwable")]) (fun w h => hts w ((by decide +kernel : ∀ w ∈ (vx_atS RX5 37 "java/lang/IllegalArgumentException" exNames).filter goodWord, w ∈ wsX5_pair) w h)) (by decide +kernel) (vx_c (va_Nw.use rfl (hG.1.1 _ (by decide +kernel))) (vx_c (va_Nw.use rfl (hG.1.1 _ (by decide +kernel))) (vx_c (va_Nw.use rfl (hG.1.1 _ (by decide +kernel))) (vx_c (va_Nw.use rfl (hG.1.1 _ (by decide +kernel))) vx_n))))
  have hat50 : ∀ w ∈ vx_atS RX5 50 "java/lang/IllegalStateException" exNames, w.before args s = true := vx_hat (B := [.castable "java/lang/IllegalStateException" "java/lang/IllegalStateException", .declares (Bundle.initS "java/lang/RuntimeException"), .declares (Bundle.initS "java/lang/Exception"), .declares (Bundle.initS "java/lang/Throwable")]) (fun w h => hts w ((by decide +kernel : ∀ w ∈ (vx_atS RX5 50 "java/lang/IllegalStateException" exNames).filter goodWord, w ∈ wsX5_pair) w h)) (by decide +kernel) (vx_c (va_Nw.use rfl (hG.1.1 _ (by decide +kernel))) (vx_c (va_Nw.use rfl (hG.1.1 _ (by decide +kernel))) (vx_c (va_Nw.use rfl (hG.1.1 _ (by decide +kernel))) (vx_c (va_Nw.use rfl (hG.1.1 _ (by decide +kernel))) vx_n))))
  replace hl : lv_has ls 3 [(0, .ref (h 0)), (1, .int a1), (2, .int a2)] := hl
  have hS : va_S A s.heap s.heap [] := va_S.rf
  unfold fX5_pair at hF
  refine lv_iload_n hx hb dX5_pair_0 rfl (lv_at hl 1 rfl) ?_
  refine lv_bipush (v := 10) hx hb dX5_pair_1 (by decide) ?_
  replace hF := bnd_some hF
  obtain ⟨z1, hz_1, hF⟩ := hF
  refine krI (kS (As := [.int a1, .int 10]) ⟨hx, hb, hml, hown, hts⟩ (kX5_isBelow l D cy sa a1 10 z1 hz_1 _) (cwS 2 hts gX5_pair_X5_isBelow rfl rfl rfl (by decide +kernel) ⟨Nat.le_of_ble_eq_true rfl, Nat.le_of_ble_eq_true rfl⟩) hK hP hD hS hA hG [] rfl rfl rfl hl.1 [] rfl (Nat.le_of_ble_eq_true rfl) dX5_pair_3 ⟨(Nat.le_of_ble_eq_true rfl), (Nat.le_of_ble_eq_true rfl)⟩) hP hD hS hA [] rfl (fun H locs hP hS => ?_)
  refine lv_if_ne (tgt := 19) hx hb dX5_pair_6 (by decide) (fun c_2 => ?_) (fun c_2 => ?_)
  · replace hF := if_f hF c_2
    refine lv_iload_n hx hb dX5_pair_19 rfl (lv_at hl 2 rfl) ?_
    refine lv_iconst (v := 3) hx hb dX5_pair_20 (by decide) ?_
    replace hF := bnd_some hF
    obtain ⟨z3, hz_3, hF⟩ := hF
    refine krI (kS (As := [.int a2, .int 3]) ⟨hx, hb, hml, hown, hts⟩ (kX5_isFrom1To l D cy sa a2 3 z3 hz_3 _) (cwS 2 hts gX5_pair_X5_isFrom1To rfl rfl rfl (by decide +kernel) ⟨Nat.le_of_ble_eq_true rfl, Nat.le_of_ble_eq_true rfl⟩) hK hP hD hS hA hG [] rfl rfl rfl hl.1 [] rfl (Nat.le_of_ble_eq_true rfl) dX5_pair_21 ⟨(Nat.le_of_ble_eq_true rfl), (Nat.le_of_ble_eq_true rfl)⟩) hP hD hS hA [] rfl (fun H locs hP hS => ?_)
    refine lv_if_ne (tgt := 37) hx hb dX5_pair_24 (by decide) (fun c_4 => ?_) (fun c_4 => ?_)
    · replace hF := if_f hF c_4
      refine lv_aload_n hx hb dX5_pair_37 rfl (lv_at hl 0 rfl) ?_
      refine va_get (D := D) (C := RX5) (T := TX5) (N := 2) hx hb hts hiX5 hown hK hP 0 gtX5_0 rfl 0 (by decide) hf10 (fun _ h9 => h9) rfl dX5_pair_38 ?_
      refine va_getN (host := "RagVats") (D := D) (C := RX0) (T := TX0) (N := 12) hx hb hts hiX0 hown hK hP 1 gtX5_1 rfl 8 (by decide) hn112 (fun _ h9 => h9) rfl dX5_pair_41 ?_
      refine va_getN (host := "RagVats") (D := D) (C := RX1) (T := TX1) (N := 4) hx hb hts hiX1 hown hK hP 8 gtX5_8 rfl 0 (by decide) hn116 (fun _ h9 => h9) rfl dX5_pair_44 ?_
      refine lv_iconst (v := 5) hx hb dX5_pair_47 (by decide) ?_
      refine lv_icmp_lt (tgt := 61) hx hb dX5_pair_48 (by decide) (fun c_5 => ?_) (fun c_5 => ?_)
      · replace hF := if_t hF c_5
        refine lv_aload_n hx hb dX5_pair_61 rfl (lv_at hl 0 rfl) ?_
        refine va_get (D := D) (C := RX5) (T := TX5) (N := 2) hx hb hts hiX5 hown hK hP 0 gtX5_0 rfl 0 (by decide) hf10 (fun _ h9 => h9) rfl dX5_pair_62 ?_
        refine va_getN (host := "RagVats") (D := D) (C := RX0) (T := TX0) (N := 12) hx hb hts hiX0 hown hK hP 1 gtX5_1 rfl 8 (by decide) hn112 (fun _ h9 => h9) rfl dX5_pair_65 ?_
        refine lv_iload_n hx hb dX5_pair_68 rfl (lv_at hl 1 rfl) ?_
        refine lv_iload_n hx hb dX5_pair_69 rfl (lv_at hl 2 rfl) ?_
        replace hF := bnd_some hF
        obtain ⟨z6, hz_6, hF⟩ := hF
        refine kwIE (kV (As := [.int a1, .int a2]) ⟨hx, hb, hml, hown, hts⟩ (kX1_add l D cy sa (fun i => h (i + 8)) m_nM m_mark m_size m_worn a1 a2 z6 hz_6 _) (cwV 2 hts gX5_pair_X1_add rfl rfl rfl (by decide +kernel) ⟨Nat.le_of_ble_eq_true rfl, Nat.le_of_ble_eq_true rfl⟩) hK hP hD hS hA hG [8, 9, 10, 11] hcX5_X1_8 ndX1_8 gtX1_0 rfl rfl rfl hl.1 [] rfl (Nat.le_of_ble_eq_true rfl) dX5_pair_70 ⟨(Nat.le_of_ble_eq_true rfl), (Nat.le_of_ble_eq_true rfl)⟩) hP hD hS hA [8, 9, 10, 11] hcX5_X1_8 hmX1 kpX5_X1_8 (fun H locs hP hD hS => ?_)
        cases hF
      · replace hF := if_f hF c_5
        cases hF
        exact hQ _ _ _ _ _ 46 121 50 _ _ "there are 5 pairs" dX5_pair_51 dX5_pair_54 dX5_pair_55 dX5_pair_57 dX5_pair_60 (hts _ (by decide +kernel)) (hts _ (by decide +kernel)) (by decide +kernel) hat50 ⟨by decide +kernel, by decide +kernel⟩ hP hD hS hl.1 (Nat.le_of_ble_eq_true rfl) (Nat.le_of_ble_eq_true rfl) (Nat.le_of_ble_eq_true rfl)
    · replace hF := if_t hF c_4
      cases hF
      exact hQ _ _ _ _ _ 33 110 37 _ _ "size is not 1 to 3" dX5_pair_27 dX5_pair_30 dX5_pair_31 dX5_pair_33 dX5_pair_36 (hts _ (by decide +kernel)) (hts _ (by decide +kernel)) (by decide +kernel) hat37 ⟨by decide +kernel, by decide +kernel⟩ hP hD hS hl.1 (Nat.le_of_ble_eq_true rfl) (Nat.le_of_ble_eq_true rfl) (Nat.le_of_ble_eq_true rfl)
  · replace hF := if_t hF c_2
    cases hF
    exact hQ _ _ _ _ _ 23 108 27 _ _ "mark is not 0 to 9" dX5_pair_9 dX5_pair_12 dX5_pair_13 dX5_pair_15 dX5_pair_18 (hts _ (by decide +kernel)) (hts _ (by decide +kernel)) (by decide +kernel) hat27 ⟨by decide +kernel, by decide +kernel⟩ hP hD hS hl.1 (Nat.le_of_ble_eq_true rfl) (Nat.le_of_ble_eq_true rfl) (Nat.le_of_ble_eq_true rfl)

def fX5_wire (m_coins : Int32) (m_nM : Int32) (m_worn : FN) (a1 : Int32) : Option ((Int32 × Int32 × FN) ⊕ Nat) := (fX1_has m_nM a1).bind fun z1 => if z1 = 0 then some (.inr 0) else (fX1_wornOf m_nM m_worn a1).bind fun z3 => if z3 = 0 then some (.inr 2) else if 5 ≤ m_coins then (fX1_makeNew m_nM m_worn a1).bind fun z6 => some (.inl (z3, m_coins - 5, z6)) else some (.inr 2)
abbrev rX5_wire : Room := { frames := 2, cells := 0, slots := 0, locals := 42 }
set_option maxHeartbeats 4000000 in
set_option maxRecDepth 100000 in
theorem kX5_wire (l : Launch) (D : va_G) (cy : Nat → ClassId) (sa : SAT) (h : Nat → Nat) (m_day : Int32) (m_coins : Int32) (m_felts : Int32) (m_made : Int32) (m_worth : Int32) (m_rags : FN) (m_water : FN) (m_pulp : FN) (m_beat : FN) (m_sort : FN) (m_nM : Int32) (m_mark : FN) (m_size : FN) (m_worn : FN) (m_nT : Int32) (m_skill : FN) (m_vat : FN) (m_pair : FN) (m_nQ : Int32) (m_allS : Int32) (m_pmark : FN) (m_pgrade : FN) (m_psheets : FN) (m_loft : FN) (t_day : Int32) (t_coins : Int32) (t_felts : Int32) (t_made : Int32) (t_worth : Int32) (t_rags : FN) (t_water : FN) (t_pulp : FN) (t_beat : FN) (t_sort : FN) (t_nM : Int32) (t_mark : FN) (t_size : FN) (t_worn : FN) (t_nT : Int32) (t_skill : FN) (t_vat : FN) (t_pair : FN) (t_nQ : Int32) (t_allS : Int32) (t_pmark : FN) (t_pgrade : FN) (t_psheets : FN) (t_loft : FN) (a1 : Int32) (z : Int32 × Int32 × FN) (hF : fX5_wire m_coins m_nM m_worn a1 = some (.inl z)) : KI l D (tyW cy) sa yX5_wire wsX5_wire rX5_wire [.ref (h 0), .int a1] (wX5 cy h m_day m_coins m_felts m_made m_worth m_rags m_water m_pulp m_beat m_sort m_nM m_mark m_size m_worn m_nT m_skill m_vat m_pair m_nQ m_allS m_pmark m_pgrade m_psheets m_loft t_day t_coins t_felts t_made t_worth t_rags t_water t_pulp t_beat t_sort t_nM t_mark t_size t_worn t_nT t_skill t_vat t_pair t_nQ t_allS t_pmark t_pgrade t_psheets t_loft) z.1 (fun _ => wX5 cy h m_day z.2.1 m_felts m_made m_worth m_rags m_water m_pulp m_beat m_sort m_nM m_mark m_size z.2.2 m_nT m_skill m_vat m_pair m_nQ m_allS m_pmark m_pgrade m_psheets m_loft t_day t_coins t_felts t_made t_worth t_rags t_water t_pulp t_beat t_sort t_nM t_mark t_size t_worn t_nT t_skill t_vat t_pair t_nQ t_allS t_pmark t_pgrade t_psheets t_loft) 0 0 := by
  refine KI.of (cc := cX5_wire) (maxL := 3) (by decide +kernel) rfl (Nat.le_of_ble_eq_true rfl) ?_
  intro p e s m args below meth c A ls Q hE hQ
  obtain ⟨hx, hb, hml, hown, hts, hA, hP, hK, hD, hG, hl, hnm⟩ := hE
  replace hown : s.vm.findClass RX5 = some m.cls := hown
  have hiX0 : ∀ w ∈ u_ws RX0 TX0 12, w ∈ wsX5_wire := by decide +kernel
  have hiX5 : ∀ w ∈ u_ws RX5 TX5 2, w ∈ wsX5_wire := by decide +kernel
  have hf10 : (Cond.fieldLink RX5 10 "RagVats" "mill" "LRagVats$Mill;").before args s = true := hts _ (by decide +kernel)
  have hn42 : (Cond.fieldLinkNest RX5 42 "RagVats$Mill" "coins" "I" "RagVats").before args s = true := va_Nw.use rfl (hG.1.1 _ (by decide +kernel))
  have hn112 : (Cond.fieldLinkNest RX5 112 "RagVats$Mill" "moulds" "LRagVats$Moulds;" "RagVats").before args s = true := va_Nw.use rfl (hG.1.1 _ (by decide +kernel))
  replace hl : lv_has ls 3 [(0, .ref (h 0)), (1, .int a1)] := hl
  have hS : va_S A s.heap s.heap [] := va_S.rf
  unfold fX5_wire at hF
  refine lv_aload_n hx hb dX5_wire_0 rfl (lv_at hl 0 rfl) ?_
  refine va_get (D := D) (C := RX5) (T := TX5) (N := 2) hx hb hts hiX5 hown hK hP 0 gtX5_0 rfl 0 (by decide) hf10 (fun _ h9 => h9) rfl dX5_wire_1 ?_
  refine va_getN (host := "RagVats") (D := D) (C := RX0) (T := TX0) (N := 12) hx hb hts hiX0 hown hK hP 1 gtX5_1 rfl 8 (by decide) hn112 (fun _ h9 => h9) rfl dX5_wire_4 ?_
  refine lv_iload_n hx hb dX5_wire_7 rfl (lv_at hl 1 rfl) ?_
  replace hF := bnd_some hF
  obtain ⟨z1, hz_1, hF⟩ := hF
  refine krI (kV (As := [.int a1]) ⟨hx, hb, hml, hown, hts⟩ (kX1_has l D cy sa (fun i => h (i + 8)) m_nM m_mark m_size m_worn a1 z1 hz_1 _) (cwV 1 hts gX5_wire_X1_has rfl rfl rfl (by decide +kernel) ⟨Nat.le_of_ble_eq_true rfl, Nat.le_of_ble_eq_true rfl⟩) hK hP hD hS hA hG [8, 9, 10, 11] hcX5_X1_8 ndX1_8 gtX1_0 rfl rfl rfl hl.1 [] rfl (Nat.le_of_ble_eq_true rfl) dX5_wire_8 ⟨(Nat.le_of_ble_eq_true rfl), (Nat.le_of_ble_eq_true rfl)⟩) hP hD hS hA [8, 9, 10, 11] hcX5_X1_8 (fun H locs hP hS => ?_)
  refine lv_if_ne (tgt := 24) hx hb dX5_wire_11 (by decide) (fun c_2 => ?_) (fun c_2 => ?_)
  · replace hF := if_f hF c_2
    refine lv_aload_n hx hb dX5_wire_24 rfl (lv_at hl 0 rfl) ?_
    refine va_get (D := D) (C := RX5) (T := TX5) (N := 2) hx hb hts hiX5 hown hK hP 0 gtX5_0 rfl 0 (by decide) hf10 (fun _ h9 => h9) rfl dX5_wire_25 ?_
    refine va_getN (host := "RagVats") (D := D) (C := RX0) (T := TX0) (N := 12) hx hb hts hiX0 hown hK hP 1 gtX5_1 rfl 8 (by decide) hn112 (fun _ h9 => h9) rfl dX5_wire_28 ?_
    refine lv_iload_n hx hb dX5_wire_31 rfl (lv_at hl 1 rfl) ?_
    replace hF := bnd_some hF
    obtain ⟨z3, hz_3, hF⟩ := hF
    refine krI (kV (As := [.int a1]) ⟨hx, hb, hml, hown, hts⟩ (kX1_wornOf l D cy sa (fun i => h (i + 8)) m_nM m_mark m_size m_worn a1 z3 hz_3 _) (cwV 1 hts gX5_wire_X1_wornOf rfl rfl rfl (by decide +kernel) ⟨Nat.le_of_ble_eq_true rfl, Nat.le_of_ble_eq_true rfl⟩) hK hP hD hS hA hG [8, 9, 10, 11] hcX5_X1_8 ndX1_8 gtX1_0 rfl rfl rfl hl.1 [] rfl (Nat.le_of_ble_eq_true rfl) dX5_wire_32 ⟨(Nat.le_of_ble_eq_true rfl), (Nat.le_of_ble_eq_true rfl)⟩) hP hD hS hA [8, 9, 10, 11] hcX5_X1_8 (fun H locs hP hS => ?_)
    refine lv_istore_n (lv' := [(2, .int z3), (0, .ref (h 0)), (1, .int a1)]) hx hb dX5_wire_35 rfl hl (by decide) rfl (fun ls hl => ?_)
    refine lv_iload_n hx hb dX5_wire_36 rfl (lv_at hl 0 rfl) ?_
    refine lv_if_ne (tgt := 50) hx hb dX5_wire_37 (by decide) (fun c_4 => ?_) (fun c_4 => ?_)
    · replace hF := if_f hF c_4
      refine lv_aload_n hx hb dX5_wire_50 rfl (lv_at hl 1 rfl) ?_
      refine va_get (D := D) (C := RX5) (T := TX5) (N := 2) hx hb hts hiX5 hown hK hP 0 gtX5_0 rfl 0 (by decide) hf10 (fun _ h9 => h9) rfl dX5_wire_51 ?_
      refine va_getN (host := "RagVats") (D := D) (C := RX0) (T := TX0) (N := 12) hx hb hts hiX0 hown hK hP 1 gtX5_1 rfl 1 (by decide) hn42 (fun _ h9 => h9) rfl dX5_wire_54 ?_
      refine lv_iconst (v := 5) hx hb dX5_wire_57 (by decide) ?_
      refine lv_icmp_ge (tgt := 71) hx hb dX5_wire_58 (by decide) (fun c_5 => ?_) (fun c_5 => ?_)
      · replace hF := if_t hF c_5
        refine lv_aload_n hx hb dX5_wire_71 rfl (lv_at hl 1 rfl) ?_
        refine va_get (D := D) (C := RX5) (T := TX5) (N := 2) hx hb hts hiX5 hown hK hP 0 gtX5_0 rfl 0 (by decide) hf10 (fun _ h9 => h9) rfl dX5_wire_72 ?_
        refine lv_dup hx hb dX5_wire_75 rfl ?_
        refine va_getN (host := "RagVats") (D := D) (C := RX0) (T := TX0) (N := 12) hx hb hts hiX0 hown hK hP 1 gtX5_1 rfl 1 (by decide) hn42 (fun _ h9 => h9) rfl dX5_wire_76 ?_
        refine lv_iconst (v := 5) hx hb dX5_wire_79 (by decide) ?_
        refine lv_isub hx hb dX5_wire_80 ?_
        refine va_putN (host := "RagVats") (D := D) (v := .int (m_coins - 5)) (ty := .int) (C := RX0) (T := TX0) (N := 12) hx hb hts hiX0 tyX0 tyX0_ok nmX0 hown hK hP hD hS 1 gtX5_1 rfl 1 (by decide) hn42 (fun _ h9 => h9) rfl (by decide +kernel) rfl rfl (Nat.le_of_ble_eq_true rfl) dX5_wire_81 (fun H locs hP hD hS => ?_)
        rw [stX5_1_1] at hP hD
        refine lv_aload_n hx hb dX5_wire_84 rfl (lv_at hl 1 rfl) ?_
        refine va_get (D := D) (C := RX5) (T := TX5) (N := 2) hx hb hts hiX5 hown hK hP 0 gtX5_0 rfl 0 (by decide) hf10 (fun _ h9 => h9) rfl dX5_wire_85 ?_
        refine va_getN (host := "RagVats") (D := D) (C := RX0) (T := TX0) (N := 12) hx hb hts hiX0 hown hK hP 1 gtX5_1 rfl 8 (by decide) hn112 (fun _ h9 => h9) rfl dX5_wire_88 ?_
        refine lv_iload_n hx hb dX5_wire_91 rfl (lv_at hl 2 rfl) ?_
        replace hF := bnd_some hF
        obtain ⟨z6, hz_6, hF⟩ := hF
        refine kwVE (kV (As := [.int a1]) ⟨hx, hb, hml, hown, hts⟩ (kX1_makeNew l D cy sa (fun i => h (i + 8)) m_nM m_mark m_size m_worn a1 z6 hz_6 _) (cwV 1 hts gX5_wire_X1_makeNew rfl rfl rfl (by decide +kernel) ⟨Nat.le_of_ble_eq_true rfl, Nat.le_of_ble_eq_true rfl⟩) hK hP hD hS hA hG [8, 9, 10, 11] hcX5_X1_8 ndX1_8 gtX1_0 rfl rfl rfl hl.1 [] rfl (Nat.le_of_ble_eq_true rfl) dX5_wire_92 ⟨(Nat.le_of_ble_eq_true rfl), (Nat.le_of_ble_eq_true rfl)⟩) hP hD hS hA [8, 9, 10, 11] hcX5_X1_8 hmX1 kpX5_X1_8 (fun H locs hP hD hS => ?_)
        refine lv_iload_n hx hb dX5_wire_95 rfl (lv_at hl 0 rfl) ?_
        cases hF
        exact hQ _ _ _ _ _ _ (fun _ => 0) dX5_wire_96 hP hD hS (Nat.le_of_ble_eq_true rfl) (Nat.le_of_ble_eq_true rfl)
      · replace hF := if_f hF c_5
        cases hF
    · replace hF := if_t hF c_4
      cases hF
  · replace hF := if_t hF c_2
    cases hF
abbrev rX5_wirex : Room := { frames := 6, cells := 1, slots := 6, locals := 98 }
set_option maxHeartbeats 4000000 in
set_option maxRecDepth 100000 in
theorem kX5_wirex (l : Launch) (D : va_G) (cy : Nat → ClassId) (sa : SAT) (h : Nat → Nat) (m_day : Int32) (m_coins : Int32) (m_felts : Int32) (m_made : Int32) (m_worth : Int32) (m_rags : FN) (m_water : FN) (m_pulp : FN) (m_beat : FN) (m_sort : FN) (m_nM : Int32) (m_mark : FN) (m_size : FN) (m_worn : FN) (m_nT : Int32) (m_skill : FN) (m_vat : FN) (m_pair : FN) (m_nQ : Int32) (m_allS : Int32) (m_pmark : FN) (m_pgrade : FN) (m_psheets : FN) (m_loft : FN) (t_day : Int32) (t_coins : Int32) (t_felts : Int32) (t_made : Int32) (t_worth : Int32) (t_rags : FN) (t_water : FN) (t_pulp : FN) (t_beat : FN) (t_sort : FN) (t_nM : Int32) (t_mark : FN) (t_size : FN) (t_worn : FN) (t_nT : Int32) (t_skill : FN) (t_vat : FN) (t_pair : FN) (t_nQ : Int32) (t_allS : Int32) (t_pmark : FN) (t_pgrade : FN) (t_psheets : FN) (t_loft : FN) (a1 : Int32) (hst : l.stackTraces = false) (kx : Nat) (hF : fX5_wire m_coins m_nM m_worn a1 = some (.inr kx)) : KX l D (tyW cy) sa yX5_wire wsX5_wire rX5_wirex [.ref (h 0), .int a1] (wX5 cy h m_day m_coins m_felts m_made m_worth m_rags m_water m_pulp m_beat m_sort m_nM m_mark m_size m_worn m_nT m_skill m_vat m_pair m_nQ m_allS m_pmark m_pgrade m_psheets m_loft t_day t_coins t_felts t_made t_worth t_rags t_water t_pulp t_beat t_sort t_nM t_mark t_size t_worn t_nT t_skill t_vat t_pair t_nQ t_allS t_pmark t_pgrade t_psheets t_loft) (exN kx) 1 6 := by
  refine KX.of (cc := cX5_wire) (maxL := 3) (ret := (some .int)) hst (by decide) rfl (Nat.le_of_ble_eq_true rfl) (Nat.le_of_ble_eq_true rfl) (Nat.le_of_ble_eq_true rfl) (Nat.le_refl _) (Nat.le_refl _) ?_
  intro p e s m args below meth c A ls Q hE hQ
  obtain ⟨hx, hb, hml, hown, hts, hA, hP, hK, hD, hG, hl, hnm⟩ := hE
  replace hown : s.vm.findClass RX5 = some m.cls := hown
  have hiX0 : ∀ w ∈ u_ws RX0 TX0 12, w ∈ wsX5_wire := by decide +kernel
  have hiX5 : ∀ w ∈ u_ws RX5 TX5 2, w ∈ wsX5_wire := by decide +kernel
  have hf10 : (Cond.fieldLink RX5 10 "RagVats" "mill" "LRagVats$Mill;").before args s = true := hts _ (by decide +kernel)
  have hn42 : (Cond.fieldLinkNest RX5 42 "RagVats$Mill" "coins" "I" "RagVats").before args s = true := va_Nw.use rfl (hG.1.1 _ (by decide +kernel))
  have hn112 : (Cond.fieldLinkNest RX5 112 "RagVats$Mill" "moulds" "LRagVats$Moulds;" "RagVats").before args s = true := va_Nw.use rfl (hG.1.1 _ (by decide +kernel))
  have hat27 : ∀ w ∈ vx_atS RX5 27 "java/lang/IndexOutOfBoundsException" exNames, w.before args s = true := vx_hat (B := [.castable "java/lang/IndexOutOfBoundsException" "java/lang/IndexOutOfBoundsException", .declares (Bundle.initS "java/lang/RuntimeException"), .declares (Bundle.initS "java/lang/Exception"), .declares (Bundle.initS "java/lang/Throwable")]) (fun w h => hts w ((by decide +kernel : ∀ w ∈ (vx_atS RX5 27 "java/lang/IndexOutOfBoundsException" exNames).filter goodWord, w ∈ wsX5_wire) w h)) (by decide +kernel) (vx_c (va_Nw.use rfl (hG.1.1 _ (by decide +kernel))) (vx_c (va_Nw.use rfl (hG.1.1 _ (by decide +kernel))) (vx_c (va_Nw.use rfl (hG.1.1 _ (by decide +kernel))) (vx_c (va_Nw.use rfl (hG.1.1 _ (by decide +kernel))) vx_n))))
  have hat50 : ∀ w ∈ vx_atS RX5 50 "java/lang/IllegalStateException" exNames, w.before args s = true := vx_hat (B := [.castable "java/lang/IllegalStateException" "java/lang/IllegalStateException", .declares (Bundle.initS "java/lang/RuntimeException"), .declares (Bundle.initS "java/lang/Exception"), .declares (Bundle.initS "java/lang/Throwable")]) (fun w h => hts w ((by decide +kernel : ∀ w ∈ (vx_atS RX5 50 "java/lang/IllegalStateException" exNames).filter goodWord, w ∈ wsX5_wire) w h)) (by decide +kernel) (vx_c (va_Nw.use rfl (hG.1.1 _ (by decide +kernel))) (vx_c (va_Nw.use rfl (hG.1.1 _ (by decide +kernel))) (vx_c (va_Nw.use rfl (hG.1.1 _ (by decide +kernel))) (vx_c (va_Nw.use rfl (hG.1.1 _ (by decide +kernel))) vx_n))))
  replace hl : lv_has ls 3 [(0, .ref (h 0)), (1, .int a1)] := hl
  have hS : va_S A s.heap s.heap [] := va_S.rf
  unfold fX5_wire at hF
  refine lv_aload_n hx hb dX5_wire_0 rfl (lv_at hl 0 rfl) ?_
  refine va_get (D := D) (C := RX5) (T := TX5) (N := 2) hx hb hts hiX5 hown hK hP 0 gtX5_0 rfl 0 (by decide) hf10 (fun _ h9 => h9) rfl dX5_wire_1 ?_
  refine va_getN (host := "RagVats") (D := D) (C := RX0) (T := TX0) (N := 12) hx hb hts hiX0 hown hK hP 1 gtX5_1 rfl 8 (by decide) hn112 (fun _ h9 => h9) rfl dX5_wire_4 ?_
  refine lv_iload_n hx hb dX5_wire_7 rfl (lv_at hl 1 rfl) ?_
  replace hF := bnd_some hF
  obtain ⟨z1, hz_1, hF⟩ := hF
  refine krI (kV (As := [.int a1]) ⟨hx, hb, hml, hown, hts⟩ (kX1_has l D cy sa (fun i => h (i + 8)) m_nM m_mark m_size m_worn a1 z1 hz_1 _) (cwV 1 hts gX5_wire_X1_has rfl rfl rfl (by decide +kernel) ⟨Nat.le_of_ble_eq_true rfl, Nat.le_of_ble_eq_true rfl⟩) hK hP hD hS hA hG [8, 9, 10, 11] hcX5_X1_8 ndX1_8 gtX1_0 rfl rfl rfl hl.1 [] rfl (Nat.le_of_ble_eq_true rfl) dX5_wire_8 ⟨(Nat.le_of_ble_eq_true rfl), (Nat.le_of_ble_eq_true rfl)⟩) hP hD hS hA [8, 9, 10, 11] hcX5_X1_8 (fun H locs hP hS => ?_)
  refine lv_if_ne (tgt := 24) hx hb dX5_wire_11 (by decide) (fun c_2 => ?_) (fun c_2 => ?_)
  · replace hF := if_f hF c_2
    refine lv_aload_n hx hb dX5_wire_24 rfl (lv_at hl 0 rfl) ?_
    refine va_get (D := D) (C := RX5) (T := TX5) (N := 2) hx hb hts hiX5 hown hK hP 0 gtX5_0 rfl 0 (by decide) hf10 (fun _ h9 => h9) rfl dX5_wire_25 ?_
    refine va_getN (host := "RagVats") (D := D) (C := RX0) (T := TX0) (N := 12) hx hb hts hiX0 hown hK hP 1 gtX5_1 rfl 8 (by decide) hn112 (fun _ h9 => h9) rfl dX5_wire_28 ?_
    refine lv_iload_n hx hb dX5_wire_31 rfl (lv_at hl 1 rfl) ?_
    replace hF := bnd_some hF
    obtain ⟨z3, hz_3, hF⟩ := hF
    refine krI (kV (As := [.int a1]) ⟨hx, hb, hml, hown, hts⟩ (kX1_wornOf l D cy sa (fun i => h (i + 8)) m_nM m_mark m_size m_worn a1 z3 hz_3 _) (cwV 1 hts gX5_wire_X1_wornOf rfl rfl rfl (by decide +kernel) ⟨Nat.le_of_ble_eq_true rfl, Nat.le_of_ble_eq_true rfl⟩) hK hP hD hS hA hG [8, 9, 10, 11] hcX5_X1_8 ndX1_8 gtX1_0 rfl rfl rfl hl.1 [] rfl (Nat.le_of_ble_eq_true rfl) dX5_wire_32 ⟨(Nat.le_of_ble_eq_true rfl), (Nat.le_of_ble_eq_true rfl)⟩) hP hD hS hA [8, 9, 10, 11] hcX5_X1_8 (fun H locs hP hS => ?_)
    refine lv_istore_n (lv' := [(2, .int z3), (0, .ref (h 0)), (1, .int a1)]) hx hb dX5_wire_35 rfl hl (by decide) rfl (fun ls hl => ?_)
    refine lv_iload_n hx hb dX5_wire_36 rfl (lv_at hl 0 rfl) ?_
    refine lv_if_ne (tgt := 50) hx hb dX5_wire_37 (by decide) (fun c_4 => ?_) (fun c_4 => ?_)
    · replace hF := if_f hF c_4
      refine lv_aload_n hx hb dX5_wire_50 rfl (lv_at hl 1 rfl) ?_
      refine va_get (D := D) (C := RX5) (T := TX5) (N := 2) hx hb hts hiX5 hown hK hP 0 gtX5_0 rfl 0 (by decide) hf10 (fun _ h9 => h9) rfl dX5_wire_51 ?_
      refine va_getN (host := "RagVats") (D := D) (C := RX0) (T := TX0) (N := 12) hx hb hts hiX0 hown hK hP 1 gtX5_1 rfl 1 (by decide) hn42 (fun _ h9 => h9) rfl dX5_wire_54 ?_
      refine lv_iconst (v := 5) hx hb dX5_wire_57 (by decide) ?_
      refine lv_icmp_ge (tgt := 71) hx hb dX5_wire_58 (by decide) (fun c_5 => ?_) (fun c_5 => ?_)
      · replace hF := if_t hF c_5
        refine lv_aload_n hx hb dX5_wire_71 rfl (lv_at hl 1 rfl) ?_
        refine va_get (D := D) (C := RX5) (T := TX5) (N := 2) hx hb hts hiX5 hown hK hP 0 gtX5_0 rfl 0 (by decide) hf10 (fun _ h9 => h9) rfl dX5_wire_72 ?_
        refine lv_dup hx hb dX5_wire_75 rfl ?_
        refine va_getN (host := "RagVats") (D := D) (C := RX0) (T := TX0) (N := 12) hx hb hts hiX0 hown hK hP 1 gtX5_1 rfl 1 (by decide) hn42 (fun _ h9 => h9) rfl dX5_wire_76 ?_
        refine lv_iconst (v := 5) hx hb dX5_wire_79 (by decide) ?_
        refine lv_isub hx hb dX5_wire_80 ?_
        refine va_putN (host := "RagVats") (D := D) (v := .int (m_coins - 5)) (ty := .int) (C := RX0) (T := TX0) (N := 12) hx hb hts hiX0 tyX0 tyX0_ok nmX0 hown hK hP hD hS 1 gtX5_1 rfl 1 (by decide) hn42 (fun _ h9 => h9) rfl (by decide +kernel) rfl rfl (Nat.le_of_ble_eq_true rfl) dX5_wire_81 (fun H locs hP hD hS => ?_)
        rw [stX5_1_1] at hP hD
        refine lv_aload_n hx hb dX5_wire_84 rfl (lv_at hl 1 rfl) ?_
        refine va_get (D := D) (C := RX5) (T := TX5) (N := 2) hx hb hts hiX5 hown hK hP 0 gtX5_0 rfl 0 (by decide) hf10 (fun _ h9 => h9) rfl dX5_wire_85 ?_
        refine va_getN (host := "RagVats") (D := D) (C := RX0) (T := TX0) (N := 12) hx hb hts hiX0 hown hK hP 1 gtX5_1 rfl 8 (by decide) hn112 (fun _ h9 => h9) rfl dX5_wire_88 ?_
        refine lv_iload_n hx hb dX5_wire_91 rfl (lv_at hl 2 rfl) ?_
        replace hF := bnd_some hF
        obtain ⟨z6, hz_6, hF⟩ := hF
        refine kwVE (kV (As := [.int a1]) ⟨hx, hb, hml, hown, hts⟩ (kX1_makeNew l D cy sa (fun i => h (i + 8)) m_nM m_mark m_size m_worn a1 z6 hz_6 _) (cwV 1 hts gX5_wire_X1_makeNew rfl rfl rfl (by decide +kernel) ⟨Nat.le_of_ble_eq_true rfl, Nat.le_of_ble_eq_true rfl⟩) hK hP hD hS hA hG [8, 9, 10, 11] hcX5_X1_8 ndX1_8 gtX1_0 rfl rfl rfl hl.1 [] rfl (Nat.le_of_ble_eq_true rfl) dX5_wire_92 ⟨(Nat.le_of_ble_eq_true rfl), (Nat.le_of_ble_eq_true rfl)⟩) hP hD hS hA [8, 9, 10, 11] hcX5_X1_8 hmX1 kpX5_X1_8 (fun H locs hP hD hS => ?_)
        refine lv_iload_n hx hb dX5_wire_95 rfl (lv_at hl 0 rfl) ?_
        cases hF
      · replace hF := if_f hF c_5
        cases hF
        exact hQ _ _ _ _ _ 46 48 50 _ _ "too few coins" dX5_wire_61 dX5_wire_64 dX5_wire_65 dX5_wire_67 dX5_wire_70 (hts _ (by decide +kernel)) (hts _ (by decide +kernel)) (by decide +kernel) hat50 ⟨by decide +kernel, by decide +kernel⟩ hP hD hS hl.1 (Nat.le_of_ble_eq_true rfl) (Nat.le_of_ble_eq_true rfl) (Nat.le_of_ble_eq_true rfl)
    · replace hF := if_t hF c_4
      cases hF
      exact hQ _ _ _ _ _ 46 135 50 _ _ "the pair is not worn" dX5_wire_40 dX5_wire_43 dX5_wire_44 dX5_wire_46 dX5_wire_49 (hts _ (by decide +kernel)) (hts _ (by decide +kernel)) (by decide +kernel) hat50 ⟨by decide +kernel, by decide +kernel⟩ hP hD hS hl.1 (Nat.le_of_ble_eq_true rfl) (Nat.le_of_ble_eq_true rfl) (Nat.le_of_ble_eq_true rfl)
  · replace hF := if_t hF c_2
    cases hF
    exact hQ _ _ _ _ _ 23 130 27 _ _ "no such pair" dX5_wire_14 dX5_wire_17 dX5_wire_18 dX5_wire_20 dX5_wire_23 (hts _ (by decide +kernel)) (hts _ (by decide +kernel)) (by decide +kernel) hat27 ⟨by decide +kernel, by decide +kernel⟩ hP hD hS hl.1 (Nat.le_of_ble_eq_true rfl) (Nat.le_of_ble_eq_true rfl) (Nat.le_of_ble_eq_true rfl)

def fX5_team (m_nT : Int32) (m_skill : FN) (m_vat : FN) (m_pair : FN) (a1 : Int32) : Option ((Int32 × Int32 × FN × FN × FN) ⊕ Nat) := (fX5_isFrom1To a1 12).bind fun z1 => if z1 = 0 then some (.inr 1) else if m_nT < 3 then (fX3_add m_nT m_skill m_vat m_pair a1).bind fun z4 => some (.inl (z4.1, z4.2.1, z4.2.2.1, z4.2.2.2.1, z4.2.2.2.2)) else some (.inr 2)
abbrev rX5_team : Room := { frames := 1, cells := 0, slots := 0, locals := 21 }
set_option maxHeartbeats 4000000 in
set_option maxRecDepth 100000 in
theorem kX5_team (l : Launch) (D : va_G) (cy : Nat → ClassId) (sa : SAT) (h : Nat → Nat) (m_day : Int32) (m_coins : Int32) (m_felts : Int32) (m_made : Int32) (m_worth : Int32) (m_rags : FN) (m_water : FN) (m_pulp : FN) (m_beat : FN) (m_sort : FN) (m_nM : Int32) (m_mark : FN) (m_size : FN) (m_worn : FN) (m_nT : Int32) (m_skill : FN) (m_vat : FN) (m_pair : FN) (m_nQ : Int32) (m_allS : Int32) (m_pmark : FN) (m_pgrade : FN) (m_psheets : FN) (m_loft : FN) (t_day : Int32) (t_coins : Int32) (t_felts : Int32) (t_made : Int32) (t_worth : Int32) (t_rags : FN) (t_water : FN) (t_pulp : FN) (t_beat : FN) (t_sort : FN) (t_nM : Int32) (t_mark : FN) (t_size : FN) (t_worn : FN) (t_nT : Int32) (t_skill : FN) (t_vat : FN) (t_pair : FN) (t_nQ : Int32) (t_allS : Int32) (t_pmark : FN) (t_pgrade : FN) (t_psheets : FN) (t_loft : FN) (a1 : Int32) (z : Int32 × Int32 × FN × FN × FN) (hF : fX5_team m_nT m_skill m_vat m_pair a1 = some (.inl z)) : KI l D (tyW cy) sa yX5_team wsX5_team rX5_team [.ref (h 0), .int a1] (wX5 cy h m_day m_coins m_felts m_made m_worth m_rags m_water m_pulp m_beat m_sort m_nM m_mark m_size m_worn m_nT m_skill m_vat m_pair m_nQ m_allS m_pmark m_pgrade m_psheets m_loft t_day t_coins t_felts t_made t_worth t_rags t_water t_pulp t_beat t_sort t_nM t_mark t_size t_worn t_nT t_skill t_vat t_pair t_nQ t_allS t_pmark t_pgrade t_psheets t_loft) z.1 (fun _ => wX5 cy h m_day m_coins m_felts m_made m_worth m_rags m_water m_pulp m_beat m_sort m_nM m_mark m_size m_worn z.2.1 z.2.2.1 z.2.2.2.1 z.2.2.2.2 m_nQ m_allS m_pmark m_pgrade m_psheets m_loft t_day t_coins t_felts t_made t_worth t_rags t_water t_pulp t_beat t_sort t_nM t_mark t_size t_worn t_nT t_skill t_vat t_pair t_nQ t_allS t_pmark t_pgrade t_psheets t_loft) 0 0 := by
  refine KI.of (cc := cX5_team) (maxL := 2) (by decide +kernel) rfl (Nat.le_of_ble_eq_true rfl) ?_
  intro p e s m args below meth c A ls Q hE hQ
  obtain ⟨hx, hb, hml, hown, hts, hA, hP, hK, hD, hG, hl, hnm⟩ := hE
  replace hown : s.vm.findClass RX5 = some m.cls := hown
  have hiX0 : ∀ w ∈ u_ws RX0 TX0 12, w ∈ wsX5_team := by decide +kernel
  have hiX3 : ∀ w ∈ u_ws RX3 TX3 4, w ∈ wsX5_team := by decide +kernel
  have hiX5 : ∀ w ∈ u_ws RX5 TX5 2, w ∈ wsX5_team := by decide +kernel
  have hf10 : (Cond.fieldLink RX5 10 "RagVats" "mill" "LRagVats$Mill;").before args s = true := hts _ (by decide +kernel)
  have hn143 : (Cond.fieldLinkNest RX5 143 "RagVats$Mill" "teams" "LRagVats$Teams;" "RagVats").before args s = true := va_Nw.use rfl (hG.1.1 _ (by decide +kernel))
  have hn147 : (Cond.fieldLinkNest RX5 147 "RagVats$Teams" "number" "I" "RagVats").before args s = true := va_Nw.use rfl (hG.1.1 _ (by decide +kernel))
  replace hl : lv_has ls 2 [(0, .ref (h 0)), (1, .int a1)] := hl
  have hS : va_S A s.heap s.heap [] := va_S.rf
  unfold fX5_team at hF
  refine lv_iload_n hx hb dX5_team_0 rfl (lv_at hl 1 rfl) ?_
  refine lv_bipush (v := 12) hx hb dX5_team_1 (by decide) ?_
  replace hF := bnd_some hF
  obtain ⟨z1, hz_1, hF⟩ := hF
  refine krI (kS (As := [.int a1, .int 12]) ⟨hx, hb, hml, hown, hts⟩ (kX5_isFrom1To l D cy sa a1 12 z1 hz_1 _) (cwS 2 hts gX5_team_X5_isFrom1To rfl rfl rfl (by decide +kernel) ⟨Nat.le_of_ble_eq_true rfl, Nat.le_of_ble_eq_true rfl⟩) hK hP hD hS hA hG [] rfl rfl rfl hl.1 [] rfl (Nat.le_of_ble_eq_true rfl) dX5_team_3 ⟨(Nat.le_of_ble_eq_true rfl), (Nat.le_of_ble_eq_true rfl)⟩) hP hD hS hA [] rfl (fun H locs hP hS => ?_)
  refine lv_if_ne (tgt := 19) hx hb dX5_team_6 (by decide) (fun c_2 => ?_) (fun c_2 => ?_)
  · replace hF := if_f hF c_2
    refine lv_aload_n hx hb dX5_team_19 rfl (lv_at hl 0 rfl) ?_
    refine va_get (D := D) (C := RX5) (T := TX5) (N := 2) hx hb hts hiX5 hown hK hP 0 gtX5_0 rfl 0 (by decide) hf10 (fun _ h9 => h9) rfl dX5_team_20 ?_
    refine va_getN (host := "RagVats") (D := D) (C := RX0) (T := TX0) (N := 12) hx hb hts hiX0 hown hK hP 1 gtX5_1 rfl 9 (by decide) hn143 (fun _ h9 => h9) rfl dX5_team_23 ?_
    refine va_getN (host := "RagVats") (D := D) (C := RX3) (T := TX3) (N := 4) hx hb hts hiX3 hown hK hP 12 gtX5_12 rfl 0 (by decide) hn147 (fun _ h9 => h9) rfl dX5_team_26 ?_
    refine lv_iconst (v := 3) hx hb dX5_team_29 (by decide) ?_
    refine lv_icmp_lt (tgt := 43) hx hb dX5_team_30 (by decide) (fun c_3 => ?_) (fun c_3 => ?_)
    · replace hF := if_t hF c_3
      refine lv_aload_n hx hb dX5_team_43 rfl (lv_at hl 0 rfl) ?_
      refine va_get (D := D) (C := RX5) (T := TX5) (N := 2) hx hb hts hiX5 hown hK hP 0 gtX5_0 rfl 0 (by decide) hf10 (fun _ h9 => h9) rfl dX5_team_44 ?_
      refine va_getN (host := "RagVats") (D := D) (C := RX0) (T := TX0) (N := 12) hx hb hts hiX0 hown hK hP 1 gtX5_1 rfl 9 (by decide) hn143 (fun _ h9 => h9) rfl dX5_team_47 ?_
      refine lv_iload_n hx hb dX5_team_50 rfl (lv_at hl 1 rfl) ?_
      replace hF := bnd_some hF
      obtain ⟨z4, hz_4, hF⟩ := hF
      refine kwIE (kV (As := [.int a1]) ⟨hx, hb, hml, hown, hts⟩ (kX3_add l D cy sa (fun i => h (i + 12)) m_nT m_skill m_vat m_pair a1 z4 hz_4 _) (cwV 1 hts gX5_team_X3_add rfl rfl rfl (by decide +kernel) ⟨Nat.le_of_ble_eq_true rfl, Nat.le_of_ble_eq_true rfl⟩) hK hP hD hS hA hG [12, 13, 14, 15] hcX5_X3_12 ndX3_12 gtX3_0 rfl rfl rfl hl.1 [] rfl (Nat.le_of_ble_eq_true rfl) dX5_team_51 ⟨(Nat.le_of_ble_eq_true rfl), (Nat.le_of_ble_eq_true rfl)⟩) hP hD hS hA [12, 13, 14, 15] hcX5_X3_12 hmX3 kpX5_X3_12 (fun H locs hP hD hS => ?_)
      cases hF
      exact hQ _ _ _ _ _ _ (fun _ => 0) dX5_team_54 hP hD hS (Nat.le_of_ble_eq_true rfl) (Nat.le_of_ble_eq_true rfl)
    · replace hF := if_f hF c_3
      cases hF
  · replace hF := if_t hF c_2
    cases hF
abbrev rX5_teamx : Room := { frames := 6, cells := 1, slots := 6, locals := 98 }
set_option maxHeartbeats 4000000 in
set_option maxRecDepth 100000 in
theorem kX5_teamx (l : Launch) (D : va_G) (cy : Nat → ClassId) (sa : SAT) (h : Nat → Nat) (m_day : Int32) (m_coins : Int32) (m_felts : Int32) (m_made : Int32) (m_worth : Int32) (m_rags : FN) (m_water : FN) (m_pulp : FN) (m_beat : FN) (m_sort : FN) (m_nM : Int32) (m_mark : FN) (m_size : FN) (m_worn : FN) (m_nT : Int32) (m_skill : FN) (m_vat : FN) (m_pair : FN) (m_nQ : Int32) (m_allS : Int32) (m_pmark : FN) (m_pgrade : FN) (m_psheets : FN) (m_loft : FN) (t_day : Int32) (t_coins : Int32) (t_felts : Int32) (t_made : Int32) (t_worth : Int32) (t_rags : FN) (t_water : FN) (t_pulp : FN) (t_beat : FN) (t_sort : FN) (t_nM : Int32) (t_mark : FN) (t_size : FN) (t_worn : FN) (t_nT : Int32) (t_skill : FN) (t_vat : FN) (t_pair : FN) (t_nQ : Int32) (t_allS : Int32) (t_pmark : FN) (t_pgrade : FN) (t_psheets : FN) (t_loft : FN) (a1 : Int32) (hst : l.stackTraces = false) (kx : Nat) (hF : fX5_team m_nT m_skill m_vat m_pair a1 = some (.inr kx)) : KX l D (tyW cy) sa yX5_team wsX5_team rX5_teamx [.ref (h 0), .int a1] (wX5 cy h m_day m_coins m_felts m_made m_worth m_rags m_water m_pulp m_beat m_sort m_nM m_mark m_size m_worn m_nT m_skill m_vat m_pair m_nQ m_allS m_pmark m_pgrade m_psheets m_loft t_day t_coins t_felts t_made t_worth t_rags t_water t_pulp t_beat t_sort t_nM t_mark t_size t_worn t_nT t_skill t_vat t_pair t_nQ t_allS t_pmark t_pgrade t_psheets t_loft) (exN kx) 1 6 := by
  refine KX.of (cc := cX5_team) (maxL := 2) (ret := (some .int)) hst (by decide) rfl (Nat.le_of_ble_eq_true rfl) (Nat.le_of_ble_eq_true rfl) (Nat.le_of_ble_eq_true rfl) (Nat.le_refl _) (Nat.le_refl _) ?_
  intro p e s m args below meth c A ls Q hE hQ
  obtain ⟨hx, hb, hml, hown, hts, hA, hP, hK, hD, hG, hl, hnm⟩ := hE
  replace hown : s.vm.findClass RX5 = some m.cls := hown
  have hiX0 : ∀ w ∈ u_ws RX0 TX0 12, w ∈ wsX5_team := by decide +kernel
  have hiX3 : ∀ w ∈ u_ws RX3 TX3 4, w ∈ wsX5_team := by decide +kernel
  have hiX5 : ∀ w ∈ u_ws RX5 TX5 2, w ∈ wsX5_team := by decide +kernel
  have hf10 : (Cond.fieldLink RX5 10 "RagVats" "mill" "LRagVats$Mill;").before args s = true := hts _ (by decide +kernel)
  have hn143 : (Cond.fieldLinkNest RX5 143 "RagVats$Mill" "teams" "LRagVats$Teams;" "RagVats").before args s = true := va_Nw.use rfl (hG.1.1 _ (by decide +kernel))
  have hn147 : (Cond.fieldLinkNest RX5 147 "RagVats$Teams" "number" "I" "RagVats").before args s = true := va_Nw.use rfl (hG.1.1 _ (by decide +kernel))
  have hat37 : ∀ w ∈ vx_atS RX5 37 "java/lang/IllegalArgumentException" exNames, w.before args s = true := vx_hat (B := [.castable "java/lang/IllegalArgumentException" "java/lang/IllegalArgumentException", .declares (Bundle.initS "java/lang/RuntimeException"), .declares (Bundle.initS "java/lang/Exception"), .declares (Bundle.initS "java/lang/Throwable")]) (fun w h => hts w ((by decide +kernel : ∀ w ∈ (vx_atS RX5 37 "java/lang/IllegalArgumentException" exNames).filter goodWord, w ∈ wsX5_team) w h)) (by decide +kernel) (vx_c (va_Nw.use rfl (hG.1.1 _ (by decide +kernel))) (vx_c (va_Nw.use rfl (hG.1.1 _ (by decide +kernel))) (vx_c (va_Nw.use rfl (hG.1.1 _ (by decide +kernel))) (vx_c (va_Nw.use rfl (hG.1.1 _ (by decide +kernel))) vx_n))))
  have hat50 : ∀ w ∈ vx_atS RX5 50 "java/lang/IllegalStateException" exNames, w.before args s = true := vx_hat (B := [.castable "java/lang/IllegalStateException" "java/lang/IllegalStateException", .declares (Bundle.initS "java/lang/RuntimeException"), .declares (Bundle.initS "java/lang/Exception"), .declares (Bundle.initS "java/lang/Throwable")]) (fun w h => hts w ((by decide +kernel : ∀ w ∈ (vx_atS RX5 50 "java/lang/IllegalStateException" exNames).filter goodWord, w ∈ wsX5_team) w h)) (by decide +kernel) (vx_c (va_Nw.use rfl (hG.1.1 _ (by decide +kernel))) (vx_c (va_Nw.use rfl (hG.1.1 _ (by decide +kernel))) (vx_c (va_Nw.use rfl (hG.1.1 _ (by decide +kernel))) (vx_c (va_Nw.use rfl (hG.1.1 _ (by decide +kernel))) vx_n))))
  replace hl : lv_has ls 2 [(0, .ref (h 0)), (1, .int a1)] := hl
  have hS : va_S A s.heap s.heap [] := va_S.rf
  unfold fX5_team at hF
  refine lv_iload_n hx hb dX5_team_0 rfl (lv_at hl 1 rfl) ?_
  refine lv_bipush (v := 12) hx hb dX5_team_1 (by decide) ?_
  replace hF := bnd_some hF
  obtain ⟨z1, hz_1, hF⟩ := hF
  refine krI (kS (As := [.int a1, .int 12]) ⟨hx, hb, hml, hown, hts⟩ (kX5_isFrom1To l D cy sa a1 12 z1 hz_1 _) (cwS 2 hts gX5_team_X5_isFrom1To rfl rfl rfl (by decide +kernel) ⟨Nat.le_of_ble_eq_true rfl, Nat.le_of_ble_eq_true rfl⟩) hK hP hD hS hA hG [] rfl rfl rfl hl.1 [] rfl (Nat.le_of_ble_eq_true rfl) dX5_team_3 ⟨(Nat.le_of_ble_eq_true rfl), (Nat.le_of_ble_eq_true rfl)⟩) hP hD hS hA [] rfl (fun H locs hP hS => ?_)
  refine lv_if_ne (tgt := 19) hx hb dX5_team_6 (by decide) (fun c_2 => ?_) (fun c_2 => ?_)
  · replace hF := if_f hF c_2
    refine lv_aload_n hx hb dX5_team_19 rfl (lv_at hl 0 rfl) ?_
    refine va_get (D := D) (C := RX5) (T := TX5) (N := 2) hx hb hts hiX5 hown hK hP 0 gtX5_0 rfl 0 (by decide) hf10 (fun _ h9 => h9) rfl dX5_team_20 ?_
    refine va_getN (host := "RagVats") (D := D) (C := RX0) (T := TX0) (N := 12) hx hb hts hiX0 hown hK hP 1 gtX5_1 rfl 9 (by decide) hn143 (fun _ h9 => h9) rfl dX5_team_23 ?_
    refine va_getN (host := "RagVats") (D := D) (C := RX3) (T := TX3) (N := 4) hx hb hts hiX3 hown hK hP 12 gtX5_12 rfl 0 (by decide) hn147 (fun _ h9 => h9) rfl dX5_team_26 ?_
    refine lv_iconst (v := 3) hx hb dX5_team_29 (by decide) ?_
    refine lv_icmp_lt (tgt := 43) hx hb dX5_team_30 (by decide) (fun c_3 => ?_) (fun c_3 => ?_)
    · replace hF := if_t hF c_3
      refine lv_aload_n hx hb dX5_team_43 rfl (lv_at hl 0 rfl) ?_
      refine va_get (D := D) (C := RX5) (T := TX5) (N := 2) hx hb hts hiX5 hown hK hP 0 gtX5_0 rfl 0 (by decide) hf10 (fun _ h9 => h9) rfl dX5_team_44 ?_
      refine va_getN (host := "RagVats") (D := D) (C := RX0) (T := TX0) (N := 12) hx hb hts hiX0 hown hK hP 1 gtX5_1 rfl 9 (by decide) hn143 (fun _ h9 => h9) rfl dX5_team_47 ?_
      refine lv_iload_n hx hb dX5_team_50 rfl (lv_at hl 1 rfl) ?_
      replace hF := bnd_some hF
      obtain ⟨z4, hz_4, hF⟩ := hF
      refine kwIE (kV (As := [.int a1]) ⟨hx, hb, hml, hown, hts⟩ (kX3_add l D cy sa (fun i => h (i + 12)) m_nT m_skill m_vat m_pair a1 z4 hz_4 _) (cwV 1 hts gX5_team_X3_add rfl rfl rfl (by decide +kernel) ⟨Nat.le_of_ble_eq_true rfl, Nat.le_of_ble_eq_true rfl⟩) hK hP hD hS hA hG [12, 13, 14, 15] hcX5_X3_12 ndX3_12 gtX3_0 rfl rfl rfl hl.1 [] rfl (Nat.le_of_ble_eq_true rfl) dX5_team_51 ⟨(Nat.le_of_ble_eq_true rfl), (Nat.le_of_ble_eq_true rfl)⟩) hP hD hS hA [12, 13, 14, 15] hcX5_X3_12 hmX3 kpX5_X3_12 (fun H locs hP hD hS => ?_)
      cases hF
    · replace hF := if_f hF c_3
      cases hF
      exact hQ _ _ _ _ _ 46 150 50 _ _ "there are 3 teams" dX5_team_33 dX5_team_36 dX5_team_37 dX5_team_39 dX5_team_42 (hts _ (by decide +kernel)) (hts _ (by decide +kernel)) (by decide +kernel) hat50 ⟨by decide +kernel, by decide +kernel⟩ hP hD hS hl.1 (Nat.le_of_ble_eq_true rfl) (Nat.le_of_ble_eq_true rfl) (Nat.le_of_ble_eq_true rfl)
  · replace hF := if_t hF c_2
    cases hF
    exact hQ _ _ _ _ _ 33 141 37 _ _ "skill is not 1 to 12" dX5_team_9 dX5_team_12 dX5_team_13 dX5_team_15 dX5_team_18 (hts _ (by decide +kernel)) (hts _ (by decide +kernel)) (by decide +kernel) hat37 ⟨by decide +kernel, by decide +kernel⟩ hP hD hS hl.1 (Nat.le_of_ble_eq_true rfl) (Nat.le_of_ble_eq_true rfl) (Nat.le_of_ble_eq_true rfl)

def fX5_place_L76 (m_felts : Int32) (m_pulp : FN) (m_beat : FN) (m_nM : Int32) (m_size : FN) (m_nT : Int32) (m_skill : FN) (m_vat : FN) (m_pair : FN) (m_allS : Int32) (a1 : Int32) (a2 : Int32) (a3 : Int32) : Option ((Int32 × FN × FN) ⊕ Nat) := (fX3_holderOf m_nT m_pair a3).bind fun z5 => if z5 = (-1) then (fX3_send m_nT m_vat m_pair a1 a2 a3).bind fun z7 => (fX0_sheetsOf m_felts m_pulp m_beat m_nM m_size m_nT m_skill z7.1 z7.2 m_allS a1).bind fun z8 => some (.inl (z8, z7.1, z7.2)) else if z5 = a1 then (fX3_send m_nT m_vat m_pair a1 a2 a3).bind fun z10 => (fX0_sheetsOf m_felts m_pulp m_beat m_nM m_size m_nT m_skill z10.1 z10.2 m_allS a1).bind fun z11 => some (.inl (z11, z10.1, z10.2)) else some (.inr 2)
def fX5_place_L47 (m_felts : Int32) (m_pulp : FN) (m_beat : FN) (m_nM : Int32) (m_size : FN) (m_nT : Int32) (m_skill : FN) (m_vat : FN) (m_pair : FN) (m_allS : Int32) (a1 : Int32) (a2 : Int32) (a3 : Int32) : Option ((Int32 × FN × FN) ⊕ Nat) := if a3 = (-1) then fX5_place_L76 m_felts m_pulp m_beat m_nM m_size m_nT m_skill m_vat m_pair m_allS a1 a2 a3 else (fX1_has m_nM a3).bind fun z12 => if z12 = 0 then some (.inr 0) else fX5_place_L76 m_felts m_pulp m_beat m_nM m_size m_nT m_skill m_vat m_pair m_allS a1 a2 a3
def fX5_place (m_felts : Int32) (m_pulp : FN) (m_beat : FN) (m_nM : Int32) (m_size : FN) (m_nT : Int32) (m_skill : FN) (m_vat : FN) (m_pair : FN) (m_allS : Int32) (a1 : Int32) (a2 : Int32) (a3 : Int32) : Option ((Int32 × FN × FN) ⊕ Nat) := (fX3_has m_nT a1).bind fun z1 => if z1 = 0 then some (.inr 0) else if a2 = (-1) then fX5_place_L47 m_felts m_pulp m_beat m_nM m_size m_nT m_skill m_vat m_pair m_allS a1 a2 a3 else (fX5_isBelow a2 4).bind fun z14 => if z14 = 0 then some (.inr 0) else fX5_place_L47 m_felts m_pulp m_beat m_nM m_size m_nT m_skill m_vat m_pair m_allS a1 a2 a3
abbrev rX5_place : Room := { frames := 3, cells := 0, slots := 0, locals := 67 }
set_option maxHeartbeats 4000000 in
set_option maxRecDepth 100000 in
theorem kX5_place (l : Launch) (D : va_G) (cy : Nat → ClassId) (sa : SAT) (h : Nat → Nat) (m_day : Int32) (m_coins : Int32) (m_felts : Int32) (m_made : Int32) (m_worth : Int32) (m_rags : FN) (m_water : FN) (m_pulp : FN) (m_beat : FN) (m_sort : FN) (m_nM : Int32) (m_mark : FN) (m_size : FN) (m_worn : FN) (m_nT : Int32) (m_skill : FN) (m_vat : FN) (m_pair : FN) (m_nQ : Int32) (m_allS : Int32) (m_pmark : FN) (m_pgrade : FN) (m_psheets : FN) (m_loft : FN) (t_day : Int32) (t_coins : Int32) (t_felts : Int32) (t_made : Int32) (t_worth : Int32) (t_rags : FN) (t_water : FN) (t_pulp : FN) (t_beat : FN) (t_sort : FN) (t_nM : Int32) (t_mark : FN) (t_size : FN) (t_worn : FN) (t_nT : Int32) (t_skill : FN) (t_vat : FN) (t_pair : FN) (t_nQ : Int32) (t_allS : Int32) (t_pmark : FN) (t_pgrade : FN) (t_psheets : FN) (t_loft : FN) (a1 : Int32) (a2 : Int32) (a3 : Int32) (z : Int32 × FN × FN) (hF : fX5_place m_felts m_pulp m_beat m_nM m_size m_nT m_skill m_vat m_pair m_allS a1 a2 a3 = some (.inl z)) : KI l D (tyW cy) sa yX5_place wsX5_place rX5_place [.ref (h 0), .int a1, .int a2, .int a3] (wX5 cy h m_day m_coins m_felts m_made m_worth m_rags m_water m_pulp m_beat m_sort m_nM m_mark m_size m_worn m_nT m_skill m_vat m_pair m_nQ m_allS m_pmark m_pgrade m_psheets m_loft t_day t_coins t_felts t_made t_worth t_rags t_water t_pulp t_beat t_sort t_nM t_mark t_size t_worn t_nT t_skill t_vat t_pair t_nQ t_allS t_pmark t_pgrade t_psheets t_loft) z.1 (fun _ => wX5 cy h m_day m_coins m_felts m_made m_worth m_rags m_water m_pulp m_beat m_sort m_nM m_mark m_size m_worn m_nT m_skill z.2.1 z.2.2 m_nQ m_allS m_pmark m_pgrade m_psheets m_loft t_day t_coins t_felts t_made t_worth t_rags t_water t_pulp t_beat t_sort t_nM t_mark t_size t_worn t_nT t_skill t_vat t_pair t_nQ t_allS t_pmark t_pgrade t_psheets t_loft) 0 0 := by
  refine KI.of (cc := cX5_place) (maxL := 5) (by decide +kernel) rfl (Nat.le_of_ble_eq_true rfl) ?_
  intro p e s m args below meth c A ls Q hE hQ
  obtain ⟨hx, hb, hml, hown, hts, hA, hP, hK, hD, hG, hl, hnm⟩ := hE
  replace hown : s.vm.findClass RX5 = some m.cls := hown
  have hiX0 : ∀ w ∈ u_ws RX0 TX0 12, w ∈ wsX5_place := by decide +kernel
  have hiX5 : ∀ w ∈ u_ws RX5 TX5 2, w ∈ wsX5_place := by decide +kernel
  have hf10 : (Cond.fieldLink RX5 10 "RagVats" "mill" "LRagVats$Mill;").before args s = true := hts _ (by decide +kernel)
  have hn112 : (Cond.fieldLinkNest RX5 112 "RagVats$Mill" "moulds" "LRagVats$Moulds;" "RagVats").before args s = true := va_Nw.use rfl (hG.1.1 _ (by decide +kernel))
  have hn143 : (Cond.fieldLinkNest RX5 143 "RagVats$Mill" "teams" "LRagVats$Teams;" "RagVats").before args s = true := va_Nw.use rfl (hG.1.1 _ (by decide +kernel))
  replace hl : lv_has ls 5 [(0, .ref (h 0)), (1, .int a1), (2, .int a2), (3, .int a3)] := hl
  have hS : va_S A s.heap s.heap [] := va_S.rf
  have L76 : ∀ (_ : Unit), fX5_place_L76 m_felts m_pulp m_beat m_nM m_size m_nT m_skill m_vat m_pair m_allS a1 a2 a3 = some (.inl z) → ∀ (H : Heap) (locs : List Loc) (ls : Array Slot), va_P D vwCl (wX5 cy h m_day m_coins m_felts m_made m_worth m_rags m_water m_pulp m_beat m_sort m_nM m_mark m_size m_worn m_nT m_skill m_vat m_pair m_nQ m_allS m_pmark m_pgrade m_psheets m_loft t_day t_coins t_felts t_made t_worth t_rags t_water t_pulp t_beat t_sort t_nM t_mark t_size t_worn t_nT t_skill t_vat t_pair t_nQ t_allS t_pmark t_pgrade t_psheets t_loft) H → va_D A (wX5 cy h m_day m_coins m_felts m_made m_worth m_rags m_water m_pulp m_beat m_sort m_nM m_mark m_size m_worn m_nT m_skill m_vat m_pair m_nQ m_allS m_pmark m_pgrade m_psheets m_loft t_day t_coins t_felts t_made t_worth t_rags t_water t_pulp t_beat t_sort t_nM t_mark t_size t_worn t_nT t_skill t_vat t_pair t_nQ t_allS t_pmark t_pgrade t_psheets t_loft) → va_S A s.heap H locs → lv_has ls 5 [(0, .ref (h 0)), (1, .int a1), (2, .int a2), (3, .int a3)] → W p l e rX5_place s m args below meth c H locs 0 0 Q (F0 m 76 ls []) := by
    intro _ hF H locs ls hP hD hS hl
    unfold fX5_place_L76 at hF
    refine lv_aload_n hx hb dX5_place_76 rfl (lv_at hl 0 rfl) ?_
    refine va_get (D := D) (C := RX5) (T := TX5) (N := 2) hx hb hts hiX5 hown hK hP 0 gtX5_0 rfl 0 (by decide) hf10 (fun _ h9 => h9) rfl dX5_place_77 ?_
    refine va_getN (host := "RagVats") (D := D) (C := RX0) (T := TX0) (N := 12) hx hb hts hiX0 hown hK hP 1 gtX5_1 rfl 9 (by decide) hn143 (fun _ h9 => h9) rfl dX5_place_80 ?_
    refine lv_iload_n hx hb dX5_place_83 rfl (lv_at hl 3 rfl) ?_
    replace hF := bnd_some hF
    obtain ⟨z5, hz_5, hF⟩ := hF
    refine krI (kV (As := [.int a3]) ⟨hx, hb, hml, hown, hts⟩ (kX3_holderOf l D cy sa (fun i => h (i + 12)) m_nT m_skill m_vat m_pair a3 z5 hz_5 _) (cwV 1 hts gX5_place_X3_holderOf rfl rfl rfl (by decide +kernel) ⟨Nat.le_of_ble_eq_true rfl, Nat.le_of_ble_eq_true rfl⟩) hK hP hD hS hA hG [12, 13, 14, 15] hcX5_X3_12 ndX3_12 gtX3_0 rfl rfl rfl hl.1 [] rfl (Nat.le_of_ble_eq_true rfl) dX5_place_84 ⟨(Nat.le_of_ble_eq_true rfl), (Nat.le_of_ble_eq_true rfl)⟩) hP hD hS hA [12, 13, 14, 15] hcX5_X3_12 (fun H locs hP hS => ?_)
    refine lv_istore (lv' := [(4, .int z5), (0, .ref (h 0)), (1, .int a1), (2, .int a2), (3, .int a3)]) hx hb dX5_place_87 hl (by decide) rfl (fun ls hl => ?_)
    refine lv_iload hx hb dX5_place_89 (lv_at hl 0 rfl) ?_
    refine lv_iconst (v := -1) hx hb dX5_place_91 (by decide) ?_
    refine lv_icmp_eq (tgt := 111) hx hb dX5_place_92 (by decide) (fun c_6 => ?_) (fun c_6 => ?_)
    · replace hF := if_t hF c_6
      refine lv_aload_n hx hb dX5_place_111 rfl (lv_at hl 1 rfl) ?_
      refine va_get (D := D) (C := RX5) (T := TX5) (N := 2) hx hb hts hiX5 hown hK hP 0 gtX5_0 rfl 0 (by decide) hf10 (fun _ h9 => h9) rfl dX5_place_112 ?_
      refine va_getN (host := "RagVats") (D := D) (C := RX0) (T := TX0) (N := 12) hx hb hts hiX0 hown hK hP 1 gtX5_1 rfl 9 (by decide) hn143 (fun _ h9 => h9) rfl dX5_place_115 ?_
      refine lv_iload_n hx hb dX5_place_118 rfl (lv_at hl 2 rfl) ?_
      refine lv_iload_n hx hb dX5_place_119 rfl (lv_at hl 3 rfl) ?_
      refine lv_iload_n hx hb dX5_place_120 rfl (lv_at hl 4 rfl) ?_
      replace hF := bnd_some hF
      obtain ⟨z7, hz_7, hF⟩ := hF
      refine kwVE (kV (As := [.int a1, .int a2, .int a3]) ⟨hx, hb, hml, hown, hts⟩ (kX3_send l D cy sa (fun i => h (i + 12)) m_nT m_skill m_vat m_pair a1 a2 a3 z7 hz_7 _) (cwV 3 hts gX5_place_X3_send rfl rfl rfl (by decide +kernel) ⟨Nat.le_of_ble_eq_true rfl, Nat.le_of_ble_eq_true rfl⟩) hK hP hD hS hA hG [12, 13, 14, 15] hcX5_X3_12 ndX3_12 gtX3_0 rfl rfl rfl hl.1 [] rfl (Nat.le_of_ble_eq_true rfl) dX5_place_121 ⟨(Nat.le_of_ble_eq_true rfl), (Nat.le_of_ble_eq_true rfl)⟩) hP hD hS hA [12, 13, 14, 15] hcX5_X3_12 hmX3 kpX5_X3_12 (fun H locs hP hD hS => ?_)
      refine lv_aload_n hx hb dX5_place_124 rfl (lv_at hl 1 rfl) ?_
      refine va_get (D := D) (C := RX5) (T := TX5) (N := 2) hx hb hts hiX5 hown hK hP 0 gtX5_0 rfl 0 (by decide) hf10 (fun _ h9 => h9) rfl dX5_place_125 ?_
      refine lv_iload_n hx hb dX5_place_128 rfl (lv_at hl 2 rfl) ?_
      replace hF := bnd_some hF
      obtain ⟨z8, hz_8, hF⟩ := hF
      refine krI (kV (As := [.int a1]) ⟨hx, hb, hml, hown, hts⟩ (kX0_sheetsOf l D cy sa (fun i => h (i + 1)) m_day m_coins m_felts m_made m_worth m_rags m_water m_pulp m_beat m_sort m_nM m_mark m_size m_worn m_nT m_skill z7.1 z7.2 m_nQ m_allS m_pmark m_pgrade m_psheets m_loft a1 z8 hz_8 _) (cwV 1 hts gX5_place_X0_sheetsOf rfl rfl rfl (by decide +kernel) ⟨Nat.le_of_ble_eq_true rfl, Nat.le_of_ble_eq_true rfl⟩) hK hP hD hS hA hG [1, 2, 3, 4, 5, 6, 7, 8, 9, 10, 11, 12, 13, 14, 15, 16, 17, 18, 19, 20] hcX5_X0_1 ndX0_1 gtX0_0 rfl rfl rfl hl.1 [] rfl (Nat.le_of_ble_eq_true rfl) dX5_place_129 ⟨(Nat.le_of_ble_eq_true rfl), (Nat.le_of_ble_eq_true rfl)⟩) hP hD hS hA [1, 2, 3, 4, 5, 6, 7, 8, 9, 10, 11, 12, 13, 14, 15, 16, 17, 18, 19, 20] hcX5_X0_1 (fun H locs hP hS => ?_)
      cases hF
      exact hQ _ _ _ _ _ _ (fun _ => 0) dX5_place_132 hP hD hS (Nat.le_of_ble_eq_true rfl) (Nat.le_of_ble_eq_true rfl)
    · replace hF := if_f hF c_6
      refine lv_iload hx hb dX5_place_95 (lv_at hl 0 rfl) ?_
      refine lv_iload_n hx hb dX5_place_97 rfl (lv_at hl 2 rfl) ?_
      refine lv_icmp_eq (tgt := 111) hx hb dX5_place_98 (by decide) (fun c_9 => ?_) (fun c_9 => ?_)
      · replace hF := if_t hF c_9
        refine lv_aload_n hx hb dX5_place_111 rfl (lv_at hl 1 rfl) ?_
        refine va_get (D := D) (C := RX5) (T := TX5) (N := 2) hx hb hts hiX5 hown hK hP 0 gtX5_0 rfl 0 (by decide) hf10 (fun _ h9 => h9) rfl dX5_place_112 ?_
        refine va_getN (host := "RagVats") (D := D) (C := RX0) (T := TX0) (N := 12) hx hb hts hiX0 hown hK hP 1 gtX5_1 rfl 9 (by decide) hn143 (fun _ h9 => h9) rfl dX5_place_115 ?_
        refine lv_iload_n hx hb dX5_place_118 rfl (lv_at hl 2 rfl) ?_
        refine lv_iload_n hx hb dX5_place_119 rfl (lv_at hl 3 rfl) ?_
        refine lv_iload_n hx hb dX5_place_120 rfl (lv_at hl 4 rfl) ?_
        replace hF := bnd_some hF
        obtain ⟨z10, hz_10, hF⟩ := hF
        refine kwVE (kV (As := [.int a1, .int a2, .int a3]) ⟨hx, hb, hml, hown, hts⟩ (kX3_send l D cy sa (fun i => h (i + 12)) m_nT m_skill m_vat m_pair a1 a2 a3 z10 hz_10 _) (cwV 3 hts gX5_place_X3_send rfl rfl rfl (by decide +kernel) ⟨Nat.le_of_ble_eq_true rfl, Nat.le_of_ble_eq_true rfl⟩) hK hP hD hS hA hG [12, 13, 14, 15] hcX5_X3_12 ndX3_12 gtX3_0 rfl rfl rfl hl.1 [] rfl (Nat.le_of_ble_eq_true rfl) dX5_place_121 ⟨(Nat.le_of_ble_eq_true rfl), (Nat.le_of_ble_eq_true rfl)⟩) hP hD hS hA [12, 13, 14, 15] hcX5_X3_12 hmX3 kpX5_X3_12 (fun H locs hP hD hS => ?_)
        refine lv_aload_n hx hb dX5_place_124 rfl (lv_at hl 1 rfl) ?_
        refine va_get (D := D) (C := RX5) (T := TX5) (N := 2) hx hb hts hiX5 hown hK hP 0 gtX5_0 rfl 0 (by decide) hf10 (fun _ h9 => h9) rfl dX5_place_125 ?_
        refine lv_iload_n hx hb dX5_place_128 rfl (lv_at hl 2 rfl) ?_
        replace hF := bnd_some hF
        obtain ⟨z11, hz_11, hF⟩ := hF
        refine krI (kV (As := [.int a1]) ⟨hx, hb, hml, hown, hts⟩ (kX0_sheetsOf l D cy sa (fun i => h (i + 1)) m_day m_coins m_felts m_made m_worth m_rags m_water m_pulp m_beat m_sort m_nM m_mark m_size m_worn m_nT m_skill z10.1 z10.2 m_nQ m_allS m_pmark m_pgrade m_psheets m_loft a1 z11 hz_11 _) (cwV 1 hts gX5_place_X0_sheetsOf rfl rfl rfl (by decide +kernel) ⟨Nat.le_of_ble_eq_true rfl, Nat.le_of_ble_eq_true rfl⟩) hK hP hD hS hA hG [1, 2, 3, 4, 5, 6, 7, 8, 9, 10, 11, 12, 13, 14, 15, 16, 17, 18, 19, 20] hcX5_X0_1 ndX0_1 gtX0_0 rfl rfl rfl hl.1 [] rfl (Nat.le_of_ble_eq_true rfl) dX5_place_129 ⟨(Nat.le_of_ble_eq_true rfl), (Nat.le_of_ble_eq_true rfl)⟩) hP hD hS hA [1, 2, 3, 4, 5, 6, 7, 8, 9, 10, 11, 12, 13, 14, 15, 16, 17, 18, 19, 20] hcX5_X0_1 (fun H locs hP hS => ?_)
        cases hF
        exact hQ _ _ _ _ _ _ (fun _ => 0) dX5_place_132 hP hD hS (Nat.le_of_ble_eq_true rfl) (Nat.le_of_ble_eq_true rfl)
      · replace hF := if_f hF c_9
        cases hF
  have L47 : ∀ (_ : Unit), fX5_place_L47 m_felts m_pulp m_beat m_nM m_size m_nT m_skill m_vat m_pair m_allS a1 a2 a3 = some (.inl z) → ∀ (H : Heap) (locs : List Loc) (ls : Array Slot), va_P D vwCl (wX5 cy h m_day m_coins m_felts m_made m_worth m_rags m_water m_pulp m_beat m_sort m_nM m_mark m_size m_worn m_nT m_skill m_vat m_pair m_nQ m_allS m_pmark m_pgrade m_psheets m_loft t_day t_coins t_felts t_made t_worth t_rags t_water t_pulp t_beat t_sort t_nM t_mark t_size t_worn t_nT t_skill t_vat t_pair t_nQ t_allS t_pmark t_pgrade t_psheets t_loft) H → va_D A (wX5 cy h m_day m_coins m_felts m_made m_worth m_rags m_water m_pulp m_beat m_sort m_nM m_mark m_size m_worn m_nT m_skill m_vat m_pair m_nQ m_allS m_pmark m_pgrade m_psheets m_loft t_day t_coins t_felts t_made t_worth t_rags t_water t_pulp t_beat t_sort t_nM t_mark t_size t_worn t_nT t_skill t_vat t_pair t_nQ t_allS t_pmark t_pgrade t_psheets t_loft) → va_S A s.heap H locs → lv_has ls 5 [(0, .ref (h 0)), (1, .int a1), (2, .int a2), (3, .int a3)] → W p l e rX5_place s m args below meth c H locs 0 0 Q (F0 m 47 ls []) := by
    intro _ hF H locs ls hP hD hS hl
    unfold fX5_place_L47 at hF
    refine lv_iload_n hx hb dX5_place_47 rfl (lv_at hl 3 rfl) ?_
    refine lv_iconst (v := -1) hx hb dX5_place_48 (by decide) ?_
    refine lv_icmp_eq (tgt := 76) hx hb dX5_place_49 (by decide) (fun c_4 => ?_) (fun c_4 => ?_)
    · replace hF := if_t hF c_4
      exact L76 ()  hF _ _ _ hP hD hS (lv_sub hl [0, 1, 2, 3] rfl)
    · replace hF := if_f hF c_4
      refine lv_aload_n hx hb dX5_place_52 rfl (lv_at hl 0 rfl) ?_
      refine va_get (D := D) (C := RX5) (T := TX5) (N := 2) hx hb hts hiX5 hown hK hP 0 gtX5_0 rfl 0 (by decide) hf10 (fun _ h9 => h9) rfl dX5_place_53 ?_
      refine va_getN (host := "RagVats") (D := D) (C := RX0) (T := TX0) (N := 12) hx hb hts hiX0 hown hK hP 1 gtX5_1 rfl 8 (by decide) hn112 (fun _ h9 => h9) rfl dX5_place_56 ?_
      refine lv_iload_n hx hb dX5_place_59 rfl (lv_at hl 3 rfl) ?_
      replace hF := bnd_some hF
      obtain ⟨z12, hz_12, hF⟩ := hF
      refine krI (kV (As := [.int a3]) ⟨hx, hb, hml, hown, hts⟩ (kX1_has l D cy sa (fun i => h (i + 8)) m_nM m_mark m_size m_worn a3 z12 hz_12 _) (cwV 1 hts gX5_place_X1_has rfl rfl rfl (by decide +kernel) ⟨Nat.le_of_ble_eq_true rfl, Nat.le_of_ble_eq_true rfl⟩) hK hP hD hS hA hG [8, 9, 10, 11] hcX5_X1_8 ndX1_8 gtX1_0 rfl rfl rfl hl.1 [] rfl (Nat.le_of_ble_eq_true rfl) dX5_place_60 ⟨(Nat.le_of_ble_eq_true rfl), (Nat.le_of_ble_eq_true rfl)⟩) hP hD hS hA [8, 9, 10, 11] hcX5_X1_8 (fun H locs hP hS => ?_)
      refine lv_if_ne (tgt := 76) hx hb dX5_place_63 (by decide) (fun c_13 => ?_) (fun c_13 => ?_)
      · replace hF := if_f hF c_13
        exact L76 ()  hF _ _ _ hP hD hS (lv_sub hl [0, 1, 2, 3] rfl)
      · replace hF := if_t hF c_13
        cases hF
  unfold fX5_place at hF
  refine lv_aload_n hx hb dX5_place_0 rfl (lv_at hl 0 rfl) ?_
  refine va_get (D := D) (C := RX5) (T := TX5) (N := 2) hx hb hts hiX5 hown hK hP 0 gtX5_0 rfl 0 (by decide) hf10 (fun _ h9 => h9) rfl dX5_place_1 ?_
  refine va_getN (host := "RagVats") (D := D) (C := RX0) (T := TX0) (N := 12) hx hb hts hiX0 hown hK hP 1 gtX5_1 rfl 9 (by decide) hn143 (fun _ h9 => h9) rfl dX5_place_4 ?_
  refine lv_iload_n hx hb dX5_place_7 rfl (lv_at hl 1 rfl) ?_
  replace hF := bnd_some hF
  obtain ⟨z1, hz_1, hF⟩ := hF
  refine krI (kV (As := [.int a1]) ⟨hx, hb, hml, hown, hts⟩ (kX3_has l D cy sa (fun i => h (i + 12)) m_nT m_skill m_vat m_pair a1 z1 hz_1 _) (cwV 1 hts gX5_place_X3_has rfl rfl rfl (by decide +kernel) ⟨Nat.le_of_ble_eq_true rfl, Nat.le_of_ble_eq_true rfl⟩) hK hP hD hS hA hG [12, 13, 14, 15] hcX5_X3_12 ndX3_12 gtX3_0 rfl rfl rfl hl.1 [] rfl (Nat.le_of_ble_eq_true rfl) dX5_place_8 ⟨(Nat.le_of_ble_eq_true rfl), (Nat.le_of_ble_eq_true rfl)⟩) hP hD hS hA [12, 13, 14, 15] hcX5_X3_12 (fun H locs hP hS => ?_)
  refine lv_if_ne (tgt := 24) hx hb dX5_place_11 (by decide) (fun c_2 => ?_) (fun c_2 => ?_)
  · replace hF := if_f hF c_2
    refine lv_iload_n hx hb dX5_place_24 rfl (lv_at hl 2 rfl) ?_
    refine lv_iconst (v := -1) hx hb dX5_place_25 (by decide) ?_
    refine lv_icmp_eq (tgt := 47) hx hb dX5_place_26 (by decide) (fun c_3 => ?_) (fun c_3 => ?_)
    · replace hF := if_t hF c_3
      exact L47 ()  hF _ _ _ hP hD hS (lv_sub hl [0, 1, 2, 3] rfl)
    · replace hF := if_f hF c_3
      refine lv_iload_n hx hb dX5_place_29 rfl (lv_at hl 2 rfl) ?_
      refine lv_iconst (v := 4) hx hb dX5_place_30 (by decide) ?_
      replace hF := bnd_some hF
      obtain ⟨z14, hz_14, hF⟩ := hF
      refine krI (kS (As := [.int a2, .int 4]) ⟨hx, hb, hml, hown, hts⟩ (kX5_isBelow l D cy sa a2 4 z14 hz_14 _) (cwS 2 hts gX5_place_X5_isBelow rfl rfl rfl (by decide +kernel) ⟨Nat.le_of_ble_eq_true rfl, Nat.le_of_ble_eq_true rfl⟩) hK hP hD hS hA hG [] rfl rfl rfl hl.1 [] rfl (Nat.le_of_ble_eq_true rfl) dX5_place_31 ⟨(Nat.le_of_ble_eq_true rfl), (Nat.le_of_ble_eq_true rfl)⟩) hP hD hS hA [] rfl (fun H locs hP hS => ?_)
      refine lv_if_ne (tgt := 47) hx hb dX5_place_34 (by decide) (fun c_15 => ?_) (fun c_15 => ?_)
      · replace hF := if_f hF c_15
        exact L47 ()  hF _ _ _ hP hD hS (lv_sub hl [0, 1, 2, 3] rfl)
      · replace hF := if_t hF c_15
        cases hF
  · replace hF := if_t hF c_2
    cases hF
abbrev rX5_placex : Room := { frames := 6, cells := 1, slots := 6, locals := 98 }
set_option maxHeartbeats 4000000 in
set_option maxRecDepth 100000 in
theorem kX5_placex (l : Launch) (D : va_G) (cy : Nat → ClassId) (sa : SAT) (h : Nat → Nat) (m_day : Int32) (m_coins : Int32) (m_felts : Int32) (m_made : Int32) (m_worth : Int32) (m_rags : FN) (m_water : FN) (m_pulp : FN) (m_beat : FN) (m_sort : FN) (m_nM : Int32) (m_mark : FN) (m_size : FN) (m_worn : FN) (m_nT : Int32) (m_skill : FN) (m_vat : FN) (m_pair : FN) (m_nQ : Int32) (m_allS : Int32) (m_pmark : FN) (m_pgrade : FN) (m_psheets : FN) (m_loft : FN) (t_day : Int32) (t_coins : Int32) (t_felts : Int32) (t_made : Int32) (t_worth : Int32) (t_rags : FN) (t_water : FN) (t_pulp : FN) (t_beat : FN) (t_sort : FN) (t_nM : Int32) (t_mark : FN) (t_size : FN) (t_worn : FN) (t_nT : Int32) (t_skill : FN) (t_vat : FN) (t_pair : FN) (t_nQ : Int32) (t_allS : Int32) (t_pmark : FN) (t_pgrade : FN) (t_psheets : FN) (t_loft : FN) (a1 : Int32) (a2 : Int32) (a3 : Int32) (hst : l.stackTraces = false) (kx : Nat) (hF : fX5_place m_felts m_pulp m_beat m_nM m_size m_nT m_skill m_vat m_pair m_allS a1 a2 a3 = some (.inr kx)) : KX l D (tyW cy) sa yX5_place wsX5_place rX5_placex [.ref (h 0), .int a1, .int a2, .int a3] (wX5 cy h m_day m_coins m_felts m_made m_worth m_rags m_water m_pulp m_beat m_sort m_nM m_mark m_size m_worn m_nT m_skill m_vat m_pair m_nQ m_allS m_pmark m_pgrade m_psheets m_loft t_day t_coins t_felts t_made t_worth t_rags t_water t_pulp t_beat t_sort t_nM t_mark t_size t_worn t_nT t_skill t_vat t_pair t_nQ t_allS t_pmark t_pgrade t_psheets t_loft) (exN kx) 1 6 := by
  refine KX.of (cc := cX5_place) (maxL := 5) (ret := (some .int)) hst (by decide) rfl (Nat.le_of_ble_eq_true rfl) (Nat.le_of_ble_eq_true rfl) (Nat.le_of_ble_eq_true rfl) (Nat.le_refl _) (Nat.le_refl _) ?_
  intro p e s m args below meth c A ls Q hE hQ
  obtain ⟨hx, hb, hml, hown, hts, hA, hP, hK, hD, hG, hl, hnm⟩ := hE
  replace hown : s.vm.findClass RX5 = some m.cls := hown
  have hiX0 : ∀ w ∈ u_ws RX0 TX0 12, w ∈ wsX5_place := by decide +kernel
  have hiX5 : ∀ w ∈ u_ws RX5 TX5 2, w ∈ wsX5_place := by decide +kernel
  have hf10 : (Cond.fieldLink RX5 10 "RagVats" "mill" "LRagVats$Mill;").before args s = true := hts _ (by decide +kernel)
  have hn112 : (Cond.fieldLinkNest RX5 112 "RagVats$Mill" "moulds" "LRagVats$Moulds;" "RagVats").before args s = true := va_Nw.use rfl (hG.1.1 _ (by decide +kernel))
  have hn143 : (Cond.fieldLinkNest RX5 143 "RagVats$Mill" "teams" "LRagVats$Teams;" "RagVats").before args s = true := va_Nw.use rfl (hG.1.1 _ (by decide +kernel))
  have hat27 : ∀ w ∈ vx_atS RX5 27 "java/lang/IndexOutOfBoundsException" exNames, w.before args s = true := vx_hat (B := [.castable "java/lang/IndexOutOfBoundsException" "java/lang/IndexOutOfBoundsException", .declares (Bundle.initS "java/lang/RuntimeException"), .declares (Bundle.initS "java/lang/Exception"), .declares (Bundle.initS "java/lang/Throwable")]) (fun w h => hts w ((by decide +kernel : ∀ w ∈ (vx_atS RX5 27 "java/lang/IndexOutOfBoundsException" exNames).filter goodWord, w ∈ wsX5_place) w h)) (by decide +kernel) (vx_c (va_Nw.use rfl (hG.1.1 _ (by decide +kernel))) (vx_c (va_Nw.use rfl (hG.1.1 _ (by decide +kernel))) (vx_c (va_Nw.use rfl (hG.1.1 _ (by decide +kernel))) (vx_c (va_Nw.use rfl (hG.1.1 _ (by decide +kernel))) vx_n))))
  have hat50 : ∀ w ∈ vx_atS RX5 50 "java/lang/IllegalStateException" exNames, w.before args s = true := vx_hat (B := [.castable "java/lang/IllegalStateException" "java/lang/IllegalStateException", .declares (Bundle.initS "java/lang/RuntimeException"), .declares (Bundle.initS "java/lang/Exception"), .declares (Bundle.initS "java/lang/Throwable")]) (fun w h => hts w ((by decide +kernel : ∀ w ∈ (vx_atS RX5 50 "java/lang/IllegalStateException" exNames).filter goodWord, w ∈ wsX5_place) w h)) (by decide +kernel) (vx_c (va_Nw.use rfl (hG.1.1 _ (by decide +kernel))) (vx_c (va_Nw.use rfl (hG.1.1 _ (by decide +kernel))) (vx_c (va_Nw.use rfl (hG.1.1 _ (by decide +kernel))) (vx_c (va_Nw.use rfl (hG.1.1 _ (by decide +kernel))) vx_n))))
  replace hl : lv_has ls 5 [(0, .ref (h 0)), (1, .int a1), (2, .int a2), (3, .int a3)] := hl
  have hS : va_S A s.heap s.heap [] := va_S.rf
  have L76 : ∀ (_ : Unit), fX5_place_L76 m_felts m_pulp m_beat m_nM m_size m_nT m_skill m_vat m_pair m_allS a1 a2 a3 = some (.inr kx) → ∀ (H : Heap) (locs : List Loc) (ls : Array Slot), va_P D vwCl (wX5 cy h m_day m_coins m_felts m_made m_worth m_rags m_water m_pulp m_beat m_sort m_nM m_mark m_size m_worn m_nT m_skill m_vat m_pair m_nQ m_allS m_pmark m_pgrade m_psheets m_loft t_day t_coins t_felts t_made t_worth t_rags t_water t_pulp t_beat t_sort t_nM t_mark t_size t_worn t_nT t_skill t_vat t_pair t_nQ t_allS t_pmark t_pgrade t_psheets t_loft) H → va_D A (wX5 cy h m_day m_coins m_felts m_made m_worth m_rags m_water m_pulp m_beat m_sort m_nM m_mark m_size m_worn m_nT m_skill m_vat m_pair m_nQ m_allS m_pmark m_pgrade m_psheets m_loft t_day t_coins t_felts t_made t_worth t_rags t_water t_pulp t_beat t_sort t_nM t_mark t_size t_worn t_nT t_skill t_vat t_pair t_nQ t_allS t_pmark t_pgrade t_psheets t_loft) → va_S A s.heap H locs → lv_has ls 5 [(0, .ref (h 0)), (1, .int a1), (2, .int a2), (3, .int a3)] → W p l e rX5_placex s m args below meth c H locs 0 0 Q (F0 m 76 ls []) := by
    intro _ hF H locs ls hP hD hS hl
    unfold fX5_place_L76 at hF
    refine lv_aload_n hx hb dX5_place_76 rfl (lv_at hl 0 rfl) ?_
    refine va_get (D := D) (C := RX5) (T := TX5) (N := 2) hx hb hts hiX5 hown hK hP 0 gtX5_0 rfl 0 (by decide) hf10 (fun _ h9 => h9) rfl dX5_place_77 ?_
    refine va_getN (host := "RagVats") (D := D) (C := RX0) (T := TX0) (N := 12) hx hb hts hiX0 hown hK hP 1 gtX5_1 rfl 9 (by decide) hn143 (fun _ h9 => h9) rfl dX5_place_80 ?_
    refine lv_iload_n hx hb dX5_place_83 rfl (lv_at hl 3 rfl) ?_
    replace hF := bnd_some hF
    obtain ⟨z5, hz_5, hF⟩ := hF
    refine krI (kV (As := [.int a3]) ⟨hx, hb, hml, hown, hts⟩ (kX3_holderOf l D cy sa (fun i => h (i + 12)) m_nT m_skill m_vat m_pair a3 z5 hz_5 _) (cwV 1 hts gX5_place_X3_holderOf rfl rfl rfl (by decide +kernel) ⟨Nat.le_of_ble_eq_true rfl, Nat.le_of_ble_eq_true rfl⟩) hK hP hD hS hA hG [12, 13, 14, 15] hcX5_X3_12 ndX3_12 gtX3_0 rfl rfl rfl hl.1 [] rfl (Nat.le_of_ble_eq_true rfl) dX5_place_84 ⟨(Nat.le_of_ble_eq_true rfl), (Nat.le_of_ble_eq_true rfl)⟩) hP hD hS hA [12, 13, 14, 15] hcX5_X3_12 (fun H locs hP hS => ?_)
    refine lv_istore (lv' := [(4, .int z5), (0, .ref (h 0)), (1, .int a1), (2, .int a2), (3, .int a3)]) hx hb dX5_place_87 hl (by decide) rfl (fun ls hl => ?_)
    refine lv_iload hx hb dX5_place_89 (lv_at hl 0 rfl) ?_
    refine lv_iconst (v := -1) hx hb dX5_place_91 (by decide) ?_
    refine lv_icmp_eq (tgt := 111) hx hb dX5_place_92 (by decide) (fun c_6 => ?_) (fun c_6 => ?_)
    · replace hF := if_t hF c_6
      refine lv_aload_n hx hb dX5_place_111 rfl (lv_at hl 1 rfl) ?_
      refine va_get (D := D) (C := RX5) (T := TX5) (N := 2) hx hb hts hiX5 hown hK hP 0 gtX5_0 rfl 0 (by decide) hf10 (fun _ h9 => h9) rfl dX5_place_112 ?_
      refine va_getN (host := "RagVats") (D := D) (C := RX0) (T := TX0) (N := 12) hx hb hts hiX0 hown hK hP 1 gtX5_1 rfl 9 (by decide) hn143 (fun _ h9 => h9) rfl dX5_place_115 ?_
      refine lv_iload_n hx hb dX5_place_118 rfl (lv_at hl 2 rfl) ?_
      refine lv_iload_n hx hb dX5_place_119 rfl (lv_at hl 3 rfl) ?_
      refine lv_iload_n hx hb dX5_place_120 rfl (lv_at hl 4 rfl) ?_
      replace hF := bnd_some hF
      obtain ⟨z7, hz_7, hF⟩ := hF
      refine kwVE (kV (As := [.int a1, .int a2, .int a3]) ⟨hx, hb, hml, hown, hts⟩ (kX3_send l D cy sa (fun i => h (i + 12)) m_nT m_skill m_vat m_pair a1 a2 a3 z7 hz_7 _) (cwV 3 hts gX5_place_X3_send rfl rfl rfl (by decide +kernel) ⟨Nat.le_of_ble_eq_true rfl, Nat.le_of_ble_eq_true rfl⟩) hK hP hD hS hA hG [12, 13, 14, 15] hcX5_X3_12 ndX3_12 gtX3_0 rfl rfl rfl hl.1 [] rfl (Nat.le_of_ble_eq_true rfl) dX5_place_121 ⟨(Nat.le_of_ble_eq_true rfl), (Nat.le_of_ble_eq_true rfl)⟩) hP hD hS hA [12, 13, 14, 15] hcX5_X3_12 hmX3 kpX5_X3_12 (fun H locs hP hD hS => ?_)
      refine lv_aload_n hx hb dX5_place_124 rfl (lv_at hl 1 rfl) ?_
      refine va_get (D := D) (C := RX5) (T := TX5) (N := 2) hx hb hts hiX5 hown hK hP 0 gtX5_0 rfl 0 (by decide) hf10 (fun _ h9 => h9) rfl dX5_place_125 ?_
      refine lv_iload_n hx hb dX5_place_128 rfl (lv_at hl 2 rfl) ?_
      replace hF := bnd_some hF
      obtain ⟨z8, hz_8, hF⟩ := hF
      refine krI (kV (As := [.int a1]) ⟨hx, hb, hml, hown, hts⟩ (kX0_sheetsOf l D cy sa (fun i => h (i + 1)) m_day m_coins m_felts m_made m_worth m_rags m_water m_pulp m_beat m_sort m_nM m_mark m_size m_worn m_nT m_skill z7.1 z7.2 m_nQ m_allS m_pmark m_pgrade m_psheets m_loft a1 z8 hz_8 _) (cwV 1 hts gX5_place_X0_sheetsOf rfl rfl rfl (by decide +kernel) ⟨Nat.le_of_ble_eq_true rfl, Nat.le_of_ble_eq_true rfl⟩) hK hP hD hS hA hG [1, 2, 3, 4, 5, 6, 7, 8, 9, 10, 11, 12, 13, 14, 15, 16, 17, 18, 19, 20] hcX5_X0_1 ndX0_1 gtX0_0 rfl rfl rfl hl.1 [] rfl (Nat.le_of_ble_eq_true rfl) dX5_place_129 ⟨(Nat.le_of_ble_eq_true rfl), (Nat.le_of_ble_eq_true rfl)⟩) hP hD hS hA [1, 2, 3, 4, 5, 6, 7, 8, 9, 10, 11, 12, 13, 14, 15, 16, 17, 18, 19, 20] hcX5_X0_1 (fun H locs hP hS => ?_)
      cases hF
    · replace hF := if_f hF c_6
      refine lv_iload hx hb dX5_place_95 (lv_at hl 0 rfl) ?_
      refine lv_iload_n hx hb dX5_place_97 rfl (lv_at hl 2 rfl) ?_
      refine lv_icmp_eq (tgt := 111) hx hb dX5_place_98 (by decide) (fun c_9 => ?_) (fun c_9 => ?_)
      · replace hF := if_t hF c_9
        refine lv_aload_n hx hb dX5_place_111 rfl (lv_at hl 1 rfl) ?_
        refine va_get (D := D) (C := RX5) (T := TX5) (N := 2) hx hb hts hiX5 hown hK hP 0 gtX5_0 rfl 0 (by decide) hf10 (fun _ h9 => h9) rfl dX5_place_112 ?_
        refine va_getN (host := "RagVats") (D := D) (C := RX0) (T := TX0) (N := 12) hx hb hts hiX0 hown hK hP 1 gtX5_1 rfl 9 (by decide) hn143 (fun _ h9 => h9) rfl dX5_place_115 ?_
        refine lv_iload_n hx hb dX5_place_118 rfl (lv_at hl 2 rfl) ?_
        refine lv_iload_n hx hb dX5_place_119 rfl (lv_at hl 3 rfl) ?_
        refine lv_iload_n hx hb dX5_place_120 rfl (lv_at hl 4 rfl) ?_
        replace hF := bnd_some hF
        obtain ⟨z10, hz_10, hF⟩ := hF
        refine kwVE (kV (As := [.int a1, .int a2, .int a3]) ⟨hx, hb, hml, hown, hts⟩ (kX3_send l D cy sa (fun i => h (i + 12)) m_nT m_skill m_vat m_pair a1 a2 a3 z10 hz_10 _) (cwV 3 hts gX5_place_X3_send rfl rfl rfl (by decide +kernel) ⟨Nat.le_of_ble_eq_true rfl, Nat.le_of_ble_eq_true rfl⟩) hK hP hD hS hA hG [12, 13, 14, 15] hcX5_X3_12 ndX3_12 gtX3_0 rfl rfl rfl hl.1 [] rfl (Nat.le_of_ble_eq_true rfl) dX5_place_121 ⟨(Nat.le_of_ble_eq_true rfl), (Nat.le_of_ble_eq_true rfl)⟩) hP hD hS hA [12, 13, 14, 15] hcX5_X3_12 hmX3 kpX5_X3_12 (fun H locs hP hD hS => ?_)
        refine lv_aload_n hx hb dX5_place_124 rfl (lv_at hl 1 rfl) ?_
        refine va_get (D := D) (C := RX5) (T := TX5) (N := 2) hx hb hts hiX5 hown hK hP 0 gtX5_0 rfl 0 (by decide) hf10 (fun _ h9 => h9) rfl dX5_place_125 ?_
        refine lv_iload_n hx hb dX5_place_128 rfl (lv_at hl 2 rfl) ?_
        replace hF := bnd_some hF
        obtain ⟨z11, hz_11, hF⟩ := hF
        refine krI (kV (As := [.int a1]) ⟨hx, hb, hml, hown, hts⟩ (kX0_sheetsOf l D cy sa (fun i => h (i + 1)) m_day m_coins m_felts m_made m_worth m_rags m_water m_pulp m_beat m_sort m_nM m_mark m_size m_worn m_nT m_skill z10.1 z10.2 m_nQ m_allS m_pmark m_pgrade m_psheets m_loft a1 z11 hz_11 _) (cwV 1 hts gX5_place_X0_sheetsOf rfl rfl rfl (by decide +kernel) ⟨Nat.le_of_ble_eq_true rfl, Nat.le_of_ble_eq_true rfl⟩) hK hP hD hS hA hG [1, 2, 3, 4, 5, 6, 7, 8, 9, 10, 11, 12, 13, 14, 15, 16, 17, 18, 19, 20] hcX5_X0_1 ndX0_1 gtX0_0 rfl rfl rfl hl.1 [] rfl (Nat.le_of_ble_eq_true rfl) dX5_place_129 ⟨(Nat.le_of_ble_eq_true rfl), (Nat.le_of_ble_eq_true rfl)⟩) hP hD hS hA [1, 2, 3, 4, 5, 6, 7, 8, 9, 10, 11, 12, 13, 14, 15, 16, 17, 18, 19, 20] hcX5_X0_1 (fun H locs hP hS => ?_)
        cases hF
      · replace hF := if_f hF c_9
        cases hF
        exact hQ _ _ _ _ _ 46 160 50 _ _ "another team has this pair" dX5_place_101 dX5_place_104 dX5_place_105 dX5_place_107 dX5_place_110 (hts _ (by decide +kernel)) (hts _ (by decide +kernel)) (by decide +kernel) hat50 ⟨by decide +kernel, by decide +kernel⟩ hP hD hS hl.1 (Nat.le_of_ble_eq_true rfl) (Nat.le_of_ble_eq_true rfl) (Nat.le_of_ble_eq_true rfl)
  have L47 : ∀ (_ : Unit), fX5_place_L47 m_felts m_pulp m_beat m_nM m_size m_nT m_skill m_vat m_pair m_allS a1 a2 a3 = some (.inr kx) → ∀ (H : Heap) (locs : List Loc) (ls : Array Slot), va_P D vwCl (wX5 cy h m_day m_coins m_felts m_made m_worth m_rags m_water m_pulp m_beat m_sort m_nM m_mark m_size m_worn m_nT m_skill m_vat m_pair m_nQ m_allS m_pmark m_pgrade m_psheets m_loft t_day t_coins t_felts t_made t_worth t_rags t_water t_pulp t_beat t_sort t_nM t_mark t_size t_worn t_nT t_skill t_vat t_pair t_nQ t_allS t_pmark t_pgrade t_psheets t_loft) H → va_D A (wX5 cy h m_day m_coins m_felts m_made m_worth m_rags m_water m_pulp m_beat m_sort m_nM m_mark m_size m_worn m_nT m_skill m_vat m_pair m_nQ m_allS m_pmark m_pgrade m_psheets m_loft t_day t_coins t_felts t_made t_worth t_rags t_water t_pulp t_beat t_sort t_nM t_mark t_size t_worn t_nT t_skill t_vat t_pair t_nQ t_allS t_pmark t_pgrade t_psheets t_loft) → va_S A s.heap H locs → lv_has ls 5 [(0, .ref (h 0)), (1, .int a1), (2, .int a2), (3, .int a3)] → W p l e rX5_placex s m args below meth c H locs 0 0 Q (F0 m 47 ls []) := by
    intro _ hF H locs ls hP hD hS hl
    unfold fX5_place_L47 at hF
    refine lv_iload_n hx hb dX5_place_47 rfl (lv_at hl 3 rfl) ?_
    refine lv_iconst (v := -1) hx hb dX5_place_48 (by decide) ?_
    refine lv_icmp_eq (tgt := 76) hx hb dX5_place_49 (by decide) (fun c_4 => ?_) (fun c_4 => ?_)
    · replace hF := if_t hF c_4
      exact L76 ()  hF _ _ _ hP hD hS (lv_sub hl [0, 1, 2, 3] rfl)
    · replace hF := if_f hF c_4
      refine lv_aload_n hx hb dX5_place_52 rfl (lv_at hl 0 rfl) ?_
      refine va_get (D := D) (C := RX5) (T := TX5) (N := 2) hx hb hts hiX5 hown hK hP 0 gtX5_0 rfl 0 (by decide) hf10 (fun _ h9 => h9) rfl dX5_place_53 ?_
      refine va_getN (host := "RagVats") (D := D) (C := RX0) (T := TX0) (N := 12) hx hb hts hiX0 hown hK hP 1 gtX5_1 rfl 8 (by decide) hn112 (fun _ h9 => h9) rfl dX5_place_56 ?_
      refine lv_iload_n hx hb dX5_place_59 rfl (lv_at hl 3 rfl) ?_
      replace hF := bnd_some hF
      obtain ⟨z12, hz_12, hF⟩ := hF
      refine krI (kV (As := [.int a3]) ⟨hx, hb, hml, hown, hts⟩ (kX1_has l D cy sa (fun i => h (i + 8)) m_nM m_mark m_size m_worn a3 z12 hz_12 _) (cwV 1 hts gX5_place_X1_has rfl rfl rfl (by decide +kernel) ⟨Nat.le_of_ble_eq_true rfl, Nat.le_of_ble_eq_true rfl⟩) hK hP hD hS hA hG [8, 9, 10, 11] hcX5_X1_8 ndX1_8 gtX1_0 rfl rfl rfl hl.1 [] rfl (Nat.le_of_ble_eq_true rfl) dX5_place_60 ⟨(Nat.le_of_ble_eq_true rfl), (Nat.le_of_ble_eq_true rfl)⟩) hP hD hS hA [8, 9, 10, 11] hcX5_X1_8 (fun H locs hP hS => ?_)
      refine lv_if_ne (tgt := 76) hx hb dX5_place_63 (by decide) (fun c_13 => ?_) (fun c_13 => ?_)
      · replace hF := if_f hF c_13
        exact L76 ()  hF _ _ _ hP hD hS (lv_sub hl [0, 1, 2, 3] rfl)
      · replace hF := if_t hF c_13
        cases hF
        exact hQ _ _ _ _ _ 23 130 27 _ _ "no such pair" dX5_place_66 dX5_place_69 dX5_place_70 dX5_place_72 dX5_place_75 (hts _ (by decide +kernel)) (hts _ (by decide +kernel)) (by decide +kernel) hat27 ⟨by decide +kernel, by decide +kernel⟩ hP hD hS hl.1 (Nat.le_of_ble_eq_true rfl) (Nat.le_of_ble_eq_true rfl) (Nat.le_of_ble_eq_true rfl)
  unfold fX5_place at hF
  refine lv_aload_n hx hb dX5_place_0 rfl (lv_at hl 0 rfl) ?_
  refine va_get (D := D) (C := RX5) (T := TX5) (N := 2) hx hb hts hiX5 hown hK hP 0 gtX5_0 rfl 0 (by decide) hf10 (fun _ h9 => h9) rfl dX5_place_1 ?_
  refine va_getN (host := "RagVats") (D := D) (C := RX0) (T := TX0) (N := 12) hx hb hts hiX0 hown hK hP 1 gtX5_1 rfl 9 (by decide) hn143 (fun _ h9 => h9) rfl dX5_place_4 ?_
  refine lv_iload_n hx hb dX5_place_7 rfl (lv_at hl 1 rfl) ?_
  replace hF := bnd_some hF
  obtain ⟨z1, hz_1, hF⟩ := hF
  refine krI (kV (As := [.int a1]) ⟨hx, hb, hml, hown, hts⟩ (kX3_has l D cy sa (fun i => h (i + 12)) m_nT m_skill m_vat m_pair a1 z1 hz_1 _) (cwV 1 hts gX5_place_X3_has rfl rfl rfl (by decide +kernel) ⟨Nat.le_of_ble_eq_true rfl, Nat.le_of_ble_eq_true rfl⟩) hK hP hD hS hA hG [12, 13, 14, 15] hcX5_X3_12 ndX3_12 gtX3_0 rfl rfl rfl hl.1 [] rfl (Nat.le_of_ble_eq_true rfl) dX5_place_8 ⟨(Nat.le_of_ble_eq_true rfl), (Nat.le_of_ble_eq_true rfl)⟩) hP hD hS hA [12, 13, 14, 15] hcX5_X3_12 (fun H locs hP hS => ?_)
  refine lv_if_ne (tgt := 24) hx hb dX5_place_11 (by decide) (fun c_2 => ?_) (fun c_2 => ?_)
  · replace hF := if_f hF c_2
    refine lv_iload_n hx hb dX5_place_24 rfl (lv_at hl 2 rfl) ?_
    refine lv_iconst (v := -1) hx hb dX5_place_25 (by decide) ?_
    refine lv_icmp_eq (tgt := 47) hx hb dX5_place_26 (by decide) (fun c_3 => ?_) (fun c_3 => ?_)
    · replace hF := if_t hF c_3
      exact L47 ()  hF _ _ _ hP hD hS (lv_sub hl [0, 1, 2, 3] rfl)
    · replace hF := if_f hF c_3
      refine lv_iload_n hx hb dX5_place_29 rfl (lv_at hl 2 rfl) ?_
      refine lv_iconst (v := 4) hx hb dX5_place_30 (by decide) ?_
      replace hF := bnd_some hF
      obtain ⟨z14, hz_14, hF⟩ := hF
      refine krI (kS (As := [.int a2, .int 4]) ⟨hx, hb, hml, hown, hts⟩ (kX5_isBelow l D cy sa a2 4 z14 hz_14 _) (cwS 2 hts gX5_place_X5_isBelow rfl rfl rfl (by decide +kernel) ⟨Nat.le_of_ble_eq_true rfl, Nat.le_of_ble_eq_true rfl⟩) hK hP hD hS hA hG [] rfl rfl rfl hl.1 [] rfl (Nat.le_of_ble_eq_true rfl) dX5_place_31 ⟨(Nat.le_of_ble_eq_true rfl), (Nat.le_of_ble_eq_true rfl)⟩) hP hD hS hA [] rfl (fun H locs hP hS => ?_)
      refine lv_if_ne (tgt := 47) hx hb dX5_place_34 (by decide) (fun c_15 => ?_) (fun c_15 => ?_)
      · replace hF := if_f hF c_15
        exact L47 ()  hF _ _ _ hP hD hS (lv_sub hl [0, 1, 2, 3] rfl)
      · replace hF := if_t hF c_15
        cases hF
        exact hQ _ _ _ _ _ 23 100 27 _ _ "no such vat" dX5_place_37 dX5_place_40 dX5_place_41 dX5_place_43 dX5_place_46 (hts _ (by decide +kernel)) (hts _ (by decide +kernel)) (by decide +kernel) hat27 ⟨by decide +kernel, by decide +kernel⟩ hP hD hS hl.1 (Nat.le_of_ble_eq_true rfl) (Nat.le_of_ble_eq_true rfl) (Nat.le_of_ble_eq_true rfl)
  · replace hF := if_t hF c_2
    cases hF
    exact hQ _ _ _ _ _ 23 155 27 _ _ "no such team" dX5_place_14 dX5_place_17 dX5_place_18 dX5_place_20 dX5_place_23 (hts _ (by decide +kernel)) (hts _ (by decide +kernel)) (by decide +kernel) hat27 ⟨by decide +kernel, by decide +kernel⟩ hP hD hS hl.1 (Nat.le_of_ble_eq_true rfl) (Nat.le_of_ble_eq_true rfl) (Nat.le_of_ble_eq_true rfl)

def fX5_setWater (m_water : FN) (a1 : Int32) (a2 : Int32) : Option ((Int32 × FN) ⊕ Nat) := (fX5_isBelow a1 7).bind fun z1 => if z1 = 0 then some (.inr 0) else if a2 < 0 then some (.inr 1) else if a2 ≤ 9 then ckI a1 7 (ckI a1 7 (some (.inl (m_water a1.toNatClampNeg, upd m_water a1.toNatClampNeg a2)))) else some (.inr 1)
abbrev rX5_setWater : Room := { frames := 1, cells := 0, slots := 0, locals := 21 }
set_option maxHeartbeats 4000000 in
set_option maxRecDepth 100000 in
theorem kX5_setWater (l : Launch) (D : va_G) (cy : Nat → ClassId) (sa : SAT) (h : Nat → Nat) (m_day : Int32) (m_coins : Int32) (m_felts : Int32) (m_made : Int32) (m_worth : Int32) (m_rags : FN) (m_water : FN) (m_pulp : FN) (m_beat : FN) (m_sort : FN) (m_nM : Int32) (m_mark : FN) (m_size : FN) (m_worn : FN) (m_nT : Int32) (m_skill : FN) (m_vat : FN) (m_pair : FN) (m_nQ : Int32) (m_allS : Int32) (m_pmark : FN) (m_pgrade : FN) (m_psheets : FN) (m_loft : FN) (t_day : Int32) (t_coins : Int32) (t_felts : Int32) (t_made : Int32) (t_worth : Int32) (t_rags : FN) (t_water : FN) (t_pulp : FN) (t_beat : FN) (t_sort : FN) (t_nM : Int32) (t_mark : FN) (t_size : FN) (t_worn : FN) (t_nT : Int32) (t_skill : FN) (t_vat : FN) (t_pair : FN) (t_nQ : Int32) (t_allS : Int32) (t_pmark : FN) (t_pgrade : FN) (t_psheets : FN) (t_loft : FN) (a1 : Int32) (a2 : Int32) (z : Int32 × FN) (hF : fX5_setWater m_water a1 a2 = some (.inl z)) : KI l D (tyW cy) sa yX5_setWater wsX5_setWater rX5_setWater [.ref (h 0), .int a1, .int a2] (wX5 cy h m_day m_coins m_felts m_made m_worth m_rags m_water m_pulp m_beat m_sort m_nM m_mark m_size m_worn m_nT m_skill m_vat m_pair m_nQ m_allS m_pmark m_pgrade m_psheets m_loft t_day t_coins t_felts t_made t_worth t_rags t_water t_pulp t_beat t_sort t_nM t_mark t_size t_worn t_nT t_skill t_vat t_pair t_nQ t_allS t_pmark t_pgrade t_psheets t_loft) z.1 (fun _ => wX5 cy h m_day m_coins m_felts m_made m_worth m_rags z.2 m_pulp m_beat m_sort m_nM m_mark m_size m_worn m_nT m_skill m_vat m_pair m_nQ m_allS m_pmark m_pgrade m_psheets m_loft t_day t_coins t_felts t_made t_worth t_rags t_water t_pulp t_beat t_sort t_nM t_mark t_size t_worn t_nT t_skill t_vat t_pair t_nQ t_allS t_pmark t_pgrade t_psheets t_loft) 0 0 := by
  refine KI.of (cc := cX5_setWater) (maxL := 4) (by decide +kernel) rfl (Nat.le_of_ble_eq_true rfl) ?_
  intro p e s m args below meth c A ls Q hE hQ
  obtain ⟨hx, hb, hml, hown, hts, hA, hP, hK, hD, hG, hl, hnm⟩ := hE
  replace hown : s.vm.findClass RX5 = some m.cls := hown
  have hiX0 : ∀ w ∈ u_ws RX0 TX0 12, w ∈ wsX5_setWater := by decide +kernel
  have hiX5 : ∀ w ∈ u_ws RX5 TX5 2, w ∈ wsX5_setWater := by decide +kernel
  have hf10 : (Cond.fieldLink RX5 10 "RagVats" "mill" "LRagVats$Mill;").before args s = true := hts _ (by decide +kernel)
  have hn172 : (Cond.fieldLinkNest RX5 172 "RagVats$Mill" "water" "[I" "RagVats").before args s = true := va_Nw.use rfl (hG.1.1 _ (by decide +kernel))
  replace hl : lv_has ls 4 [(0, .ref (h 0)), (1, .int a1), (2, .int a2)] := hl
  have hS : va_S A s.heap s.heap [] := va_S.rf
  unfold fX5_setWater at hF
  refine lv_iload_n hx hb dX5_setWater_0 rfl (lv_at hl 1 rfl) ?_
  refine lv_bipush (v := 7) hx hb dX5_setWater_1 (by decide) ?_
  replace hF := bnd_some hF
  obtain ⟨z1, hz_1, hF⟩ := hF
  refine krI (kS (As := [.int a1, .int 7]) ⟨hx, hb, hml, hown, hts⟩ (kX5_isBelow l D cy sa a1 7 z1 hz_1 _) (cwS 2 hts gX5_setWater_X5_isBelow rfl rfl rfl (by decide +kernel) ⟨Nat.le_of_ble_eq_true rfl, Nat.le_of_ble_eq_true rfl⟩) hK hP hD hS hA hG [] rfl rfl rfl hl.1 [] rfl (Nat.le_of_ble_eq_true rfl) dX5_setWater_3 ⟨(Nat.le_of_ble_eq_true rfl), (Nat.le_of_ble_eq_true rfl)⟩) hP hD hS hA [] rfl (fun H locs hP hS => ?_)
  refine lv_if_ne (tgt := 19) hx hb dX5_setWater_6 (by decide) (fun c_2 => ?_) (fun c_2 => ?_)
  · replace hF := if_f hF c_2
    refine lv_iload_n hx hb dX5_setWater_19 rfl (lv_at hl 2 rfl) ?_
    refine lv_if_lt (tgt := 29) hx hb dX5_setWater_20 (by decide) (fun c_3 => ?_) (fun c_3 => ?_)
    · replace hF := if_t hF c_3
      cases hF
    · replace hF := if_f hF c_3
      refine lv_iload_n hx hb dX5_setWater_23 rfl (lv_at hl 2 rfl) ?_
      refine lv_bipush (v := 9) hx hb dX5_setWater_24 (by decide) ?_
      refine lv_icmp_le (tgt := 39) hx hb dX5_setWater_26 (by decide) (fun c_4 => ?_) (fun c_4 => ?_)
      · replace hF := if_t hF c_4
        refine lv_aload_n hx hb dX5_setWater_39 rfl (lv_at hl 0 rfl) ?_
        refine va_get (D := D) (C := RX5) (T := TX5) (N := 2) hx hb hts hiX5 hown hK hP 0 gtX5_0 rfl 0 (by decide) hf10 (fun _ h9 => h9) rfl dX5_setWater_40 ?_
        refine va_getN (host := "RagVats") (D := D) (C := RX0) (T := TX0) (N := 12) hx hb hts hiX0 hown hK hP 1 gtX5_1 rfl 6 (by decide) hn172 (fun _ h9 => h9) rfl dX5_setWater_43 ?_
        refine lv_iload_n hx hb dX5_setWater_46 rfl (lv_at hl 1 rfl) ?_
        replace hF := ckI_some hF
        obtain ⟨hi_5, hF⟩ := hF
        refine va_iald hx hb hK hP 3 0 gtX5_3 rfl hi_5 dX5_setWater_47 ?_
        refine lv_istore_n (lv' := [(3, .int (m_water a1.toNatClampNeg)), (0, .ref (h 0)), (1, .int a1), (2, .int a2)]) hx hb dX5_setWater_48 rfl hl (by decide) rfl (fun ls hl => ?_)
        refine lv_aload_n hx hb dX5_setWater_49 rfl (lv_at hl 1 rfl) ?_
        refine va_get (D := D) (C := RX5) (T := TX5) (N := 2) hx hb hts hiX5 hown hK hP 0 gtX5_0 rfl 0 (by decide) hf10 (fun _ h9 => h9) rfl dX5_setWater_50 ?_
        refine va_getN (host := "RagVats") (D := D) (C := RX0) (T := TX0) (N := 12) hx hb hts hiX0 hown hK hP 1 gtX5_1 rfl 6 (by decide) hn172 (fun _ h9 => h9) rfl dX5_setWater_53 ?_
        refine lv_iload_n hx hb dX5_setWater_56 rfl (lv_at hl 2 rfl) ?_
        refine lv_iload_n hx hb dX5_setWater_57 rfl (lv_at hl 3 rfl) ?_
        replace hF := ckI_some hF
        obtain ⟨hi_6, hF⟩ := hF
        refine va_iast hx hb hK hP hD hS 3 0 gtX5_3 rfl hi_6 dX5_setWater_58 (fun H locs hP hD hS => ?_)
        rw [stX5_3] at hP hD
        refine lv_iload_n hx hb dX5_setWater_59 rfl (lv_at hl 0 rfl) ?_
        cases hF
        exact hQ _ _ _ _ _ _ (fun _ => 0) dX5_setWater_60 hP hD hS (Nat.le_of_ble_eq_true rfl) (Nat.le_of_ble_eq_true rfl)
      · replace hF := if_f hF c_4
        cases hF
  · replace hF := if_t hF c_2
    cases hF
abbrev rX5_setWaterx : Room := { frames := 6, cells := 1, slots := 6, locals := 98 }
set_option maxHeartbeats 4000000 in
set_option maxRecDepth 100000 in
theorem kX5_setWaterx (l : Launch) (D : va_G) (cy : Nat → ClassId) (sa : SAT) (h : Nat → Nat) (m_day : Int32) (m_coins : Int32) (m_felts : Int32) (m_made : Int32) (m_worth : Int32) (m_rags : FN) (m_water : FN) (m_pulp : FN) (m_beat : FN) (m_sort : FN) (m_nM : Int32) (m_mark : FN) (m_size : FN) (m_worn : FN) (m_nT : Int32) (m_skill : FN) (m_vat : FN) (m_pair : FN) (m_nQ : Int32) (m_allS : Int32) (m_pmark : FN) (m_pgrade : FN) (m_psheets : FN) (m_loft : FN) (t_day : Int32) (t_coins : Int32) (t_felts : Int32) (t_made : Int32) (t_worth : Int32) (t_rags : FN) (t_water : FN) (t_pulp : FN) (t_beat : FN) (t_sort : FN) (t_nM : Int32) (t_mark : FN) (t_size : FN) (t_worn : FN) (t_nT : Int32) (t_skill : FN) (t_vat : FN) (t_pair : FN) (t_nQ : Int32) (t_allS : Int32) (t_pmark : FN) (t_pgrade : FN) (t_psheets : FN) (t_loft : FN) (a1 : Int32) (a2 : Int32) (hst : l.stackTraces = false) (kx : Nat) (hF : fX5_setWater m_water a1 a2 = some (.inr kx)) : KX l D (tyW cy) sa yX5_setWater wsX5_setWater rX5_setWaterx [.ref (h 0), .int a1, .int a2] (wX5 cy h m_day m_coins m_felts m_made m_worth m_rags m_water m_pulp m_beat m_sort m_nM m_mark m_size m_worn m_nT m_skill m_vat m_pair m_nQ m_allS m_pmark m_pgrade m_psheets m_loft t_day t_coins t_felts t_made t_worth t_rags t_water t_pulp t_beat t_sort t_nM t_mark t_size t_worn t_nT t_skill t_vat t_pair t_nQ t_allS t_pmark t_pgrade t_psheets t_loft) (exN kx) 1 6 := by
  refine KX.of (cc := cX5_setWater) (maxL := 4) (ret := (some .int)) hst (by decide) rfl (Nat.le_of_ble_eq_true rfl) (Nat.le_of_ble_eq_true rfl) (Nat.le_of_ble_eq_true rfl) (Nat.le_refl _) (Nat.le_refl _) ?_
  intro p e s m args below meth c A ls Q hE hQ
  obtain ⟨hx, hb, hml, hown, hts, hA, hP, hK, hD, hG, hl, hnm⟩ := hE
  replace hown : s.vm.findClass RX5 = some m.cls := hown
  have hiX0 : ∀ w ∈ u_ws RX0 TX0 12, w ∈ wsX5_setWater := by decide +kernel
  have hiX5 : ∀ w ∈ u_ws RX5 TX5 2, w ∈ wsX5_setWater := by decide +kernel
  have hf10 : (Cond.fieldLink RX5 10 "RagVats" "mill" "LRagVats$Mill;").before args s = true := hts _ (by decide +kernel)
  have hn172 : (Cond.fieldLinkNest RX5 172 "RagVats$Mill" "water" "[I" "RagVats").before args s = true := va_Nw.use rfl (hG.1.1 _ (by decide +kernel))
  have hat27 : ∀ w ∈ vx_atS RX5 27 "java/lang/IndexOutOfBoundsException" exNames, w.before args s = true := vx_hat (B := [.castable "java/lang/IndexOutOfBoundsException" "java/lang/IndexOutOfBoundsException", .declares (Bundle.initS "java/lang/RuntimeException"), .declares (Bundle.initS "java/lang/Exception"), .declares (Bundle.initS "java/lang/Throwable")]) (fun w h => hts w ((by decide +kernel : ∀ w ∈ (vx_atS RX5 27 "java/lang/IndexOutOfBoundsException" exNames).filter goodWord, w ∈ wsX5_setWater) w h)) (by decide +kernel) (vx_c (va_Nw.use rfl (hG.1.1 _ (by decide +kernel))) (vx_c (va_Nw.use rfl (hG.1.1 _ (by decide +kernel))) (vx_c (va_Nw.use rfl (hG.1.1 _ (by decide +kernel))) (vx_c (va_Nw.use rfl (hG.1.1 _ (by decide +kernel))) vx_n))))
  have hat37 : ∀ w ∈ vx_atS RX5 37 "java/lang/IllegalArgumentException" exNames, w.before args s = true := vx_hat (B := [.castable "java/lang/IllegalArgumentException" "java/lang/IllegalArgumentException", .declares (Bundle.initS "java/lang/RuntimeException"), .declares (Bundle.initS "java/lang/Exception"), .declares (Bundle.initS "java/lang/Throwable")]) (fun w h => hts w ((by decide +kernel : ∀ w ∈ (vx_atS RX5 37 "java/lang/IllegalArgumentException" exNames).filter goodWord, w ∈ wsX5_setWater) w h)) (by decide +kernel) (vx_c (va_Nw.use rfl (hG.1.1 _ (by decide +kernel))) (vx_c (va_Nw.use rfl (hG.1.1 _ (by decide +kernel))) (vx_c (va_Nw.use rfl (hG.1.1 _ (by decide +kernel))) (vx_c (va_Nw.use rfl (hG.1.1 _ (by decide +kernel))) vx_n))))
  replace hl : lv_has ls 4 [(0, .ref (h 0)), (1, .int a1), (2, .int a2)] := hl
  have hS : va_S A s.heap s.heap [] := va_S.rf
  unfold fX5_setWater at hF
  refine lv_iload_n hx hb dX5_setWater_0 rfl (lv_at hl 1 rfl) ?_
  refine lv_bipush (v := 7) hx hb dX5_setWater_1 (by decide) ?_
  replace hF := bnd_some hF
  obtain ⟨z1, hz_1, hF⟩ := hF
  refine krI (kS (As := [.int a1, .int 7]) ⟨hx, hb, hml, hown, hts⟩ (kX5_isBelow l D cy sa a1 7 z1 hz_1 _) (cwS 2 hts gX5_setWater_X5_isBelow rfl rfl rfl (by decide +kernel) ⟨Nat.le_of_ble_eq_true rfl, Nat.le_of_ble_eq_true rfl⟩) hK hP hD hS hA hG [] rfl rfl rfl hl.1 [] rfl (Nat.le_of_ble_eq_true rfl) dX5_setWater_3 ⟨(Nat.le_of_ble_eq_true rfl), (Nat.le_of_ble_eq_true rfl)⟩) hP hD hS hA [] rfl (fun H locs hP hS => ?_)
  refine lv_if_ne (tgt := 19) hx hb dX5_setWater_6 (by decide) (fun c_2 => ?_) (fun c_2 => ?_)
  · replace hF := if_f hF c_2
    refine lv_iload_n hx hb dX5_setWater_19 rfl (lv_at hl 2 rfl) ?_
    refine lv_if_lt (tgt := 29) hx hb dX5_setWater_20 (by decide) (fun c_3 => ?_) (fun c_3 => ?_)
    · replace hF := if_t hF c_3
      cases hF
      exact hQ _ _ _ _ _ 33 170 37 _ _ "water is not 0 to 9" dX5_setWater_29 dX5_setWater_32 dX5_setWater_33 dX5_setWater_35 dX5_setWater_38 (hts _ (by decide +kernel)) (hts _ (by decide +kernel)) (by decide +kernel) hat37 ⟨by decide +kernel, by decide +kernel⟩ hP hD hS hl.1 (Nat.le_of_ble_eq_true rfl) (Nat.le_of_ble_eq_true rfl) (Nat.le_of_ble_eq_true rfl)
    · replace hF := if_f hF c_3
      refine lv_iload_n hx hb dX5_setWater_23 rfl (lv_at hl 2 rfl) ?_
      refine lv_bipush (v := 9) hx hb dX5_setWater_24 (by decide) ?_
      refine lv_icmp_le (tgt := 39) hx hb dX5_setWater_26 (by decide) (fun c_4 => ?_) (fun c_4 => ?_)
      · replace hF := if_t hF c_4
        refine lv_aload_n hx hb dX5_setWater_39 rfl (lv_at hl 0 rfl) ?_
        refine va_get (D := D) (C := RX5) (T := TX5) (N := 2) hx hb hts hiX5 hown hK hP 0 gtX5_0 rfl 0 (by decide) hf10 (fun _ h9 => h9) rfl dX5_setWater_40 ?_
        refine va_getN (host := "RagVats") (D := D) (C := RX0) (T := TX0) (N := 12) hx hb hts hiX0 hown hK hP 1 gtX5_1 rfl 6 (by decide) hn172 (fun _ h9 => h9) rfl dX5_setWater_43 ?_
        refine lv_iload_n hx hb dX5_setWater_46 rfl (lv_at hl 1 rfl) ?_
        replace hF := ckI_some hF
        obtain ⟨hi_5, hF⟩ := hF
        refine va_iald hx hb hK hP 3 0 gtX5_3 rfl hi_5 dX5_setWater_47 ?_
        refine lv_istore_n (lv' := [(3, .int (m_water a1.toNatClampNeg)), (0, .ref (h 0)), (1, .int a1), (2, .int a2)]) hx hb dX5_setWater_48 rfl hl (by decide) rfl (fun ls hl => ?_)
        refine lv_aload_n hx hb dX5_setWater_49 rfl (lv_at hl 1 rfl) ?_
        refine va_get (D := D) (C := RX5) (T := TX5) (N := 2) hx hb hts hiX5 hown hK hP 0 gtX5_0 rfl 0 (by decide) hf10 (fun _ h9 => h9) rfl dX5_setWater_50 ?_
        refine va_getN (host := "RagVats") (D := D) (C := RX0) (T := TX0) (N := 12) hx hb hts hiX0 hown hK hP 1 gtX5_1 rfl 6 (by decide) hn172 (fun _ h9 => h9) rfl dX5_setWater_53 ?_
        refine lv_iload_n hx hb dX5_setWater_56 rfl (lv_at hl 2 rfl) ?_
        refine lv_iload_n hx hb dX5_setWater_57 rfl (lv_at hl 3 rfl) ?_
        replace hF := ckI_some hF
        obtain ⟨hi_6, hF⟩ := hF
        refine va_iast hx hb hK hP hD hS 3 0 gtX5_3 rfl hi_6 dX5_setWater_58 (fun H locs hP hD hS => ?_)
        rw [stX5_3] at hP hD
        refine lv_iload_n hx hb dX5_setWater_59 rfl (lv_at hl 0 rfl) ?_
        cases hF
      · replace hF := if_f hF c_4
        cases hF
        exact hQ _ _ _ _ _ 33 170 37 _ _ "water is not 0 to 9" dX5_setWater_29 dX5_setWater_32 dX5_setWater_33 dX5_setWater_35 dX5_setWater_38 (hts _ (by decide +kernel)) (hts _ (by decide +kernel)) (by decide +kernel) hat37 ⟨by decide +kernel, by decide +kernel⟩ hP hD hS hl.1 (Nat.le_of_ble_eq_true rfl) (Nat.le_of_ble_eq_true rfl) (Nat.le_of_ble_eq_true rfl)
  · replace hF := if_t hF c_2
    cases hF
    exact hQ _ _ _ _ _ 23 168 27 _ _ "day is not 0 to 6" dX5_setWater_9 dX5_setWater_12 dX5_setWater_13 dX5_setWater_15 dX5_setWater_18 (hts _ (by decide +kernel)) (hts _ (by decide +kernel)) (by decide +kernel) hat27 ⟨by decide +kernel, by decide +kernel⟩ hP hD hS hl.1 (Nat.le_of_ble_eq_true rfl) (Nat.le_of_ble_eq_true rfl) (Nat.le_of_ble_eq_true rfl)
