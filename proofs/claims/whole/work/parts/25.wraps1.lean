abbrev rL_buy : Room := { frames := 7, cells := 1, slots := 6, locals := 121 }
set_option maxHeartbeats 4000000 in
set_option maxRecDepth 100000 in
theorem kL_buy_ok (l : Launch) (D : va_G) (cy : Nat → ClassId) (sa : Nat → Nat) (h : Nat → Nat) (m_day : Int32) (m_coins : Int32) (m_felts : Int32) (m_made : Int32) (m_worth : Int32) (m_rags : FN) (m_water : FN) (m_pulp : FN) (m_beat : FN) (m_sort : FN) (m_nM : Int32) (m_mark : FN) (m_size : FN) (m_worn : FN) (m_nT : Int32) (m_skill : FN) (m_vat : FN) (m_pair : FN) (m_nQ : Int32) (m_allS : Int32) (m_pmark : FN) (m_pgrade : FN) (m_psheets : FN) (m_loft : FN) (t_day : Int32) (t_coins : Int32) (t_felts : Int32) (t_made : Int32) (t_worth : Int32) (t_rags : FN) (t_water : FN) (t_pulp : FN) (t_beat : FN) (t_sort : FN) (t_nM : Int32) (t_mark : FN) (t_size : FN) (t_worn : FN) (t_nT : Int32) (t_skill : FN) (t_vat : FN) (t_pair : FN) (t_nQ : Int32) (t_allS : Int32) (t_pmark : FN) (t_pgrade : FN) (t_psheets : FN) (t_loft : FN) (g : Nat) (lo : Nat → Int64) (a1 : Int32) (a2 : Int32) (z : Int32 × Int32 × Int32 × FN) (hF : fX5_buy m_coins m_felts m_rags a1 a2 = some (.inl z)) : KI l D (tyW cy) sa yL_buy wsL_buy rL_buy [.ref (h 0), .int a1, .int a2, .ref g] (wX5L cy h m_day m_coins m_felts m_made m_worth m_rags m_water m_pulp m_beat m_sort m_nM m_mark m_size m_worn m_nT m_skill m_vat m_pair m_nQ m_allS m_pmark m_pgrade m_psheets m_loft t_day t_coins t_felts t_made t_worth t_rags t_water t_pulp t_beat t_sort t_nM t_mark t_size t_worn t_nT t_skill t_vat t_pair t_nQ t_allS t_pmark t_pgrade t_psheets t_loft g lo) 0 (fun _ => wX5L cy h m_day z.2.1 z.2.2.1 m_made m_worth z.2.2.2 m_water m_pulp m_beat m_sort m_nM m_mark m_size m_worn m_nT m_skill m_vat m_pair m_nQ m_allS m_pmark m_pgrade m_psheets m_loft t_day t_coins t_felts t_made t_worth t_rags t_water t_pulp t_beat t_sort t_nM t_mark t_size t_worn t_nT t_skill t_vat t_pair t_nQ t_allS t_pmark t_pgrade t_psheets t_loft g (vp_updL lo (0 : Int32).toNatClampNeg z.1.toInt64)) 1 6 := by
  refine KI.ofH (cc := cL_buy) (maxL := 5) (hh := [(0, 10, 13, 13), (0, 10, 17, 15), (0, 10, 21, 17)]) (by decide +kernel) rfl (Nat.le_of_ble_eq_true rfl) ?_
  intro p e s m args below meth c A ls Q hE htab hQ
  obtain ⟨hx, hb, hml, hown, hts, hA, hP, hK, hD, hG, hl, hnm⟩ := hE
  replace hown : s.vm.findClass RL = some m.cls := hown
  replace hl : lv_has ls 5 [(0, .ref (h 0)), (1, .int a1), (2, .int a2), (3, .ref g)] := hl
  have hS : va_S A s.heap s.heap [] := va_S.rf
  refine lv_aload_n hx hb dL_buy_0 rfl (lv_at hl 3 rfl) ?_
  refine lv_iconst (v := 0) hx hb dL_buy_1 (by decide) ?_
  refine lv_aload_n hx hb dL_buy_2 rfl (lv_at hl 0 rfl) ?_
  refine lv_iload_n hx hb dL_buy_3 rfl (lv_at hl 1 rfl) ?_
  refine lv_iload_n hx hb dL_buy_4 rfl (lv_at hl 2 rfl) ?_
  refine kwIE (kV (As := [.int a1, .int a2]) ⟨hx, hb, hml, hown, hts⟩ (kX5_buy l D cy sa h m_day m_coins m_felts m_made m_worth m_rags m_water m_pulp m_beat m_sort m_nM m_mark m_size m_worn m_nT m_skill m_vat m_pair m_nQ m_allS m_pmark m_pgrade m_psheets m_loft t_day t_coins t_felts t_made t_worth t_rags t_water t_pulp t_beat t_sort t_nM t_mark t_size t_worn t_nT t_skill t_vat t_pair t_nQ t_allS t_pmark t_pgrade t_psheets t_loft a1 a2 z hF _) (cwV 2 hts gL_buy_X5_buy rfl rfl rfl (by decide +kernel) ⟨Nat.le_of_ble_eq_true rfl, Nat.le_of_ble_eq_true rfl⟩) hK hP hD hS hA hG [0, 1, 2, 3, 4, 5, 6, 7, 8, 9, 10, 11, 12, 13, 14, 15, 16, 17, 18, 19, 20, 21, 22, 23, 24, 25, 26, 27, 28, 29, 30, 31, 32, 33, 34, 35, 36, 37, 38, 39, 40] hcX5L_X5_0 ndX5_0 gtX5_0 rfl rfl rfl hl.1 [.int 0, .ref g] rfl (Nat.le_of_ble_eq_true rfl) dL_buy_5 ⟨Nat.le_of_ble_eq_true rfl, Nat.le_of_ble_eq_true rfl⟩) hP hD hS hA [0, 1, 2, 3, 4, 5, 6, 7, 8, 9, 10, 11, 12, 13, 14, 15, 16, 17, 18, 19, 20, 21, 22, 23, 24, 25, 26, 27, 28, 29, 30, 31, 32, 33, 34, 35, 36, 37, 38, 39, 40] hcX5L_X5_0 hmX5 kpX5L_X5_0 (fun H locs hP hD hS => ?_)
  refine lv_i2l hx hb dL_buy_8 rfl ?_
  refine va_last hx hb hK hP hD hS 41 2 gtX5L_41 rfl (show ¬ ((0 : Int32) < 0 ∨ 1 ≤ (0 : Int32).toNatClampNeg) from by decide) dL_buy_9 (fun H locs hP hD hS => ?_)
  rw [stLX5L] at hP hD
  refine lv_goto (tgt := 25) hx hb dL_buy_10 (by decide) ?_
  refine lv_iconst (v := 0) hx hb dL_buy_25 (by decide) ?_
  exact hQ _ _ _ _ _ _ (fun _ => 0) dL_buy_26 hP hD hS (Nat.le_of_ble_eq_true rfl) (Nat.le_of_ble_eq_true rfl)
set_option maxHeartbeats 4000000 in
set_option maxRecDepth 100000 in
theorem kL_buy_x0 (l : Launch) (D : va_G) (cy : Nat → ClassId) (sa : Nat → Nat) (h : Nat → Nat) (m_day : Int32) (m_coins : Int32) (m_felts : Int32) (m_made : Int32) (m_worth : Int32) (m_rags : FN) (m_water : FN) (m_pulp : FN) (m_beat : FN) (m_sort : FN) (m_nM : Int32) (m_mark : FN) (m_size : FN) (m_worn : FN) (m_nT : Int32) (m_skill : FN) (m_vat : FN) (m_pair : FN) (m_nQ : Int32) (m_allS : Int32) (m_pmark : FN) (m_pgrade : FN) (m_psheets : FN) (m_loft : FN) (t_day : Int32) (t_coins : Int32) (t_felts : Int32) (t_made : Int32) (t_worth : Int32) (t_rags : FN) (t_water : FN) (t_pulp : FN) (t_beat : FN) (t_sort : FN) (t_nM : Int32) (t_mark : FN) (t_size : FN) (t_worn : FN) (t_nT : Int32) (t_skill : FN) (t_vat : FN) (t_pair : FN) (t_nQ : Int32) (t_allS : Int32) (t_pmark : FN) (t_pgrade : FN) (t_psheets : FN) (t_loft : FN) (g : Nat) (lo : Nat → Int64) (a1 : Int32) (a2 : Int32) (hst : l.stackTraces = false) (hF : fX5_buy m_coins m_felts m_rags a1 a2 = some (.inr 0)) : KI l D (tyW cy) sa yL_buy wsL_buy rL_buy [.ref (h 0), .int a1, .int a2, .ref g] (wX5L cy h m_day m_coins m_felts m_made m_worth m_rags m_water m_pulp m_beat m_sort m_nM m_mark m_size m_worn m_nT m_skill m_vat m_pair m_nQ m_allS m_pmark m_pgrade m_psheets m_loft t_day t_coins t_felts t_made t_worth t_rags t_water t_pulp t_beat t_sort t_nM t_mark t_size t_worn t_nT t_skill t_vat t_pair t_nQ t_allS t_pmark t_pgrade t_psheets t_loft g lo) 1 (fun _ => wX5L cy h m_day m_coins m_felts m_made m_worth m_rags m_water m_pulp m_beat m_sort m_nM m_mark m_size m_worn m_nT m_skill m_vat m_pair m_nQ m_allS m_pmark m_pgrade m_psheets m_loft t_day t_coins t_felts t_made t_worth t_rags t_water t_pulp t_beat t_sort t_nM t_mark t_size t_worn t_nT t_skill t_vat t_pair t_nQ t_allS t_pmark t_pgrade t_psheets t_loft g lo) 1 6 := by
  refine KI.ofH (cc := cL_buy) (maxL := 5) (hh := [(0, 10, 13, 13), (0, 10, 17, 15), (0, 10, 21, 17)]) (by decide +kernel) rfl (Nat.le_of_ble_eq_true rfl) ?_
  intro p e s m args below meth c A ls Q hE htab hQ
  obtain ⟨hx, hb, hml, hown, hts, hA, hP, hK, hD, hG, hl, hnm⟩ := hE
  replace hown : s.vm.findClass RL = some m.cls := hown
  replace hl : lv_has ls 5 [(0, .ref (h 0)), (1, .int a1), (2, .int a2), (3, .ref g)] := hl
  have hS : va_S A s.heap s.heap [] := va_S.rf
  refine lv_aload_n hx hb dL_buy_0 rfl (lv_at hl 3 rfl) ?_
  refine lv_iconst (v := 0) hx hb dL_buy_1 (by decide) ?_
  refine lv_aload_n hx hb dL_buy_2 rfl (lv_at hl 0 rfl) ?_
  refine lv_iload_n hx hb dL_buy_3 rfl (lv_at hl 1 rfl) ?_
  refine lv_iload_n hx hb dL_buy_4 rfl (lv_at hl 2 rfl) ?_
  refine kcX (E0 := "java/lang/IndexOutOfBoundsException") (kVX (As := [.int a1, .int a2]) ⟨hx, hb, hml, hown, hts⟩ (kX5_buyx l D cy sa h m_day m_coins m_felts m_made m_worth m_rags m_water m_pulp m_beat m_sort m_nM m_mark m_size m_worn m_nT m_skill m_vat m_pair m_nQ m_allS m_pmark m_pgrade m_psheets m_loft t_day t_coins t_felts t_made t_worth t_rags t_water t_pulp t_beat t_sort t_nM t_mark t_size t_worn t_nT t_skill t_vat t_pair t_nQ t_allS t_pmark t_pgrade t_psheets t_loft a1 a2 hst 0 hF _) (cwV 2 hts gL_buy_X5_buy rfl rfl rfl (by decide +kernel) ⟨Nat.le_of_ble_eq_true rfl, Nat.le_of_ble_eq_true rfl⟩) hK hP hD hS hA hG [0, 1, 2, 3, 4, 5, 6, 7, 8, 9, 10, 11, 12, 13, 14, 15, 16, 17, 18, 19, 20, 21, 22, 23, 24, 25, 26, 27, 28, 29, 30, 31, 32, 33, 34, 35, 36, 37, 38, 39, 40] hcX5L_X5_0 ndX5_0 gtX5_0 rfl rfl rfl hl.1 [.int 0, .ref g] rfl (Nat.le_of_ble_eq_true rfl) dL_buy_5 ⟨Nat.le_of_ble_eq_true rfl, Nat.le_of_ble_eq_true rfl⟩) hP hD hS hA [0, 1, 2, 3, 4, 5, 6, 7, 8, 9, 10, 11, 12, 13, 14, 15, 16, 17, 18, 19, 20, 21, 22, 23, 24, 25, 26, 27, 28, 29, 30, 31, 32, 33, 34, 35, 36, 37, 38, 39, 40] hcX5L_X5_0 (fun ce q9 H locs hP hS hc9 hv9 hE9 => ?_)
  refine vx_catch (own := RL) (name := "java/lang/IndexOutOfBoundsException") (E := "java/lang/IndexOutOfBoundsException") hown [] ⟨0, 10, 13, 13⟩ [⟨0, 10, 17, 15⟩, ⟨0, 10, 21, 17⟩] htab (fun z hz => by cases hz) (by decide) (by decide) (hts (.classLink RL 13 "java/lang/IndexOutOfBoundsException") (by decide +kernel)) (va_Nw.use rfl (hG.1.1 _ (by decide +kernel))) hc9 hv9 hE9 ?_
  refine lv_astore (lv' := [(4, .ref q9), (0, .ref (h 0)), (1, .int a1), (2, .int a2), (3, .ref g)]) hx hb dL_buy_13 hl (by decide) rfl (fun ls hl => ?_)
  refine lv_iconst (v := 1) hx hb dL_buy_15 (by decide) ?_
  exact hQ _ _ _ _ _ _ (fun _ => 0) dL_buy_16 hP hD hS (Nat.le_of_ble_eq_true rfl) (Nat.le_of_ble_eq_true rfl)
set_option maxHeartbeats 4000000 in
set_option maxRecDepth 100000 in
theorem kL_buy_x1 (l : Launch) (D : va_G) (cy : Nat → ClassId) (sa : Nat → Nat) (h : Nat → Nat) (m_day : Int32) (m_coins : Int32) (m_felts : Int32) (m_made : Int32) (m_worth : Int32) (m_rags : FN) (m_water : FN) (m_pulp : FN) (m_beat : FN) (m_sort : FN) (m_nM : Int32) (m_mark : FN) (m_size : FN) (m_worn : FN) (m_nT : Int32) (m_skill : FN) (m_vat : FN) (m_pair : FN) (m_nQ : Int32) (m_allS : Int32) (m_pmark : FN) (m_pgrade : FN) (m_psheets : FN) (m_loft : FN) (t_day : Int32) (t_coins : Int32) (t_felts : Int32) (t_made : Int32) (t_worth : Int32) (t_rags : FN) (t_water : FN) (t_pulp : FN) (t_beat : FN) (t_sort : FN) (t_nM : Int32) (t_mark : FN) (t_size : FN) (t_worn : FN) (t_nT : Int32) (t_skill : FN) (t_vat : FN) (t_pair : FN) (t_nQ : Int32) (t_allS : Int32) (t_pmark : FN) (t_pgrade : FN) (t_psheets : FN) (t_loft : FN) (g : Nat) (lo : Nat → Int64) (a1 : Int32) (a2 : Int32) (hst : l.stackTraces = false) (hF : fX5_buy m_coins m_felts m_rags a1 a2 = some (.inr 1)) : KI l D (tyW cy) sa yL_buy wsL_buy rL_buy [.ref (h 0), .int a1, .int a2, .ref g] (wX5L cy h m_day m_coins m_felts m_made m_worth m_rags m_water m_pulp m_beat m_sort m_nM m_mark m_size m_worn m_nT m_skill m_vat m_pair m_nQ m_allS m_pmark m_pgrade m_psheets m_loft t_day t_coins t_felts t_made t_worth t_rags t_water t_pulp t_beat t_sort t_nM t_mark t_size t_worn t_nT t_skill t_vat t_pair t_nQ t_allS t_pmark t_pgrade t_psheets t_loft g lo) 2 (fun _ => wX5L cy h m_day m_coins m_felts m_made m_worth m_rags m_water m_pulp m_beat m_sort m_nM m_mark m_size m_worn m_nT m_skill m_vat m_pair m_nQ m_allS m_pmark m_pgrade m_psheets m_loft t_day t_coins t_felts t_made t_worth t_rags t_water t_pulp t_beat t_sort t_nM t_mark t_size t_worn t_nT t_skill t_vat t_pair t_nQ t_allS t_pmark t_pgrade t_psheets t_loft g lo) 1 6 := by
  refine KI.ofH (cc := cL_buy) (maxL := 5) (hh := [(0, 10, 13, 13), (0, 10, 17, 15), (0, 10, 21, 17)]) (by decide +kernel) rfl (Nat.le_of_ble_eq_true rfl) ?_
  intro p e s m args below meth c A ls Q hE htab hQ
  obtain ⟨hx, hb, hml, hown, hts, hA, hP, hK, hD, hG, hl, hnm⟩ := hE
  replace hown : s.vm.findClass RL = some m.cls := hown
  replace hl : lv_has ls 5 [(0, .ref (h 0)), (1, .int a1), (2, .int a2), (3, .ref g)] := hl
  have hS : va_S A s.heap s.heap [] := va_S.rf
  refine lv_aload_n hx hb dL_buy_0 rfl (lv_at hl 3 rfl) ?_
  refine lv_iconst (v := 0) hx hb dL_buy_1 (by decide) ?_
  refine lv_aload_n hx hb dL_buy_2 rfl (lv_at hl 0 rfl) ?_
  refine lv_iload_n hx hb dL_buy_3 rfl (lv_at hl 1 rfl) ?_
  refine lv_iload_n hx hb dL_buy_4 rfl (lv_at hl 2 rfl) ?_
  refine kcX (E0 := "java/lang/IllegalArgumentException") (kVX (As := [.int a1, .int a2]) ⟨hx, hb, hml, hown, hts⟩ (kX5_buyx l D cy sa h m_day m_coins m_felts m_made m_worth m_rags m_water m_pulp m_beat m_sort m_nM m_mark m_size m_worn m_nT m_skill m_vat m_pair m_nQ m_allS m_pmark m_pgrade m_psheets m_loft t_day t_coins t_felts t_made t_worth t_rags t_water t_pulp t_beat t_sort t_nM t_mark t_size t_worn t_nT t_skill t_vat t_pair t_nQ t_allS t_pmark t_pgrade t_psheets t_loft a1 a2 hst 1 hF _) (cwV 2 hts gL_buy_X5_buy rfl rfl rfl (by decide +kernel) ⟨Nat.le_of_ble_eq_true rfl, Nat.le_of_ble_eq_true rfl⟩) hK hP hD hS hA hG [0, 1, 2, 3, 4, 5, 6, 7, 8, 9, 10, 11, 12, 13, 14, 15, 16, 17, 18, 19, 20, 21, 22, 23, 24, 25, 26, 27, 28, 29, 30, 31, 32, 33, 34, 35, 36, 37, 38, 39, 40] hcX5L_X5_0 ndX5_0 gtX5_0 rfl rfl rfl hl.1 [.int 0, .ref g] rfl (Nat.le_of_ble_eq_true rfl) dL_buy_5 ⟨Nat.le_of_ble_eq_true rfl, Nat.le_of_ble_eq_true rfl⟩) hP hD hS hA [0, 1, 2, 3, 4, 5, 6, 7, 8, 9, 10, 11, 12, 13, 14, 15, 16, 17, 18, 19, 20, 21, 22, 23, 24, 25, 26, 27, 28, 29, 30, 31, 32, 33, 34, 35, 36, 37, 38, 39, 40] hcX5L_X5_0 (fun ce q9 H locs hP hS hc9 hv9 hE9 => ?_)
  refine vx_catch (own := RL) (name := "java/lang/IllegalArgumentException") (E := "java/lang/IllegalArgumentException") hown [⟨0, 10, 13, 13⟩] ⟨0, 10, 17, 15⟩ [⟨0, 10, 21, 17⟩] htab (List.forall_mem_cons.mpr ⟨Or.inr ⟨by decide, "java/lang/IndexOutOfBoundsException", hts _ (by decide +kernel), hG.1.2.1 ("java/lang/IllegalArgumentException", "java/lang/IndexOutOfBoundsException") (by decide +kernel)⟩, fun _ h9 => absurd h9 List.not_mem_nil⟩) (by decide) (by decide) (hts (.classLink RL 15 "java/lang/IllegalArgumentException") (by decide +kernel)) (va_Nw.use rfl (hG.1.1 _ (by decide +kernel))) hc9 hv9 hE9 ?_
  refine lv_astore (lv' := [(4, .ref q9), (0, .ref (h 0)), (1, .int a1), (2, .int a2), (3, .ref g)]) hx hb dL_buy_17 hl (by decide) rfl (fun ls hl => ?_)
  refine lv_iconst (v := 2) hx hb dL_buy_19 (by decide) ?_
  exact hQ _ _ _ _ _ _ (fun _ => 0) dL_buy_20 hP hD hS (Nat.le_of_ble_eq_true rfl) (Nat.le_of_ble_eq_true rfl)
set_option maxHeartbeats 4000000 in
set_option maxRecDepth 100000 in
theorem kL_buy_x2 (l : Launch) (D : va_G) (cy : Nat → ClassId) (sa : Nat → Nat) (h : Nat → Nat) (m_day : Int32) (m_coins : Int32) (m_felts : Int32) (m_made : Int32) (m_worth : Int32) (m_rags : FN) (m_water : FN) (m_pulp : FN) (m_beat : FN) (m_sort : FN) (m_nM : Int32) (m_mark : FN) (m_size : FN) (m_worn : FN) (m_nT : Int32) (m_skill : FN) (m_vat : FN) (m_pair : FN) (m_nQ : Int32) (m_allS : Int32) (m_pmark : FN) (m_pgrade : FN) (m_psheets : FN) (m_loft : FN) (t_day : Int32) (t_coins : Int32) (t_felts : Int32) (t_made : Int32) (t_worth : Int32) (t_rags : FN) (t_water : FN) (t_pulp : FN) (t_beat : FN) (t_sort : FN) (t_nM : Int32) (t_mark : FN) (t_size : FN) (t_worn : FN) (t_nT : Int32) (t_skill : FN) (t_vat : FN) (t_pair : FN) (t_nQ : Int32) (t_allS : Int32) (t_pmark : FN) (t_pgrade : FN) (t_psheets : FN) (t_loft : FN) (g : Nat) (lo : Nat → Int64) (a1 : Int32) (a2 : Int32) (hst : l.stackTraces = false) (hF : fX5_buy m_coins m_felts m_rags a1 a2 = some (.inr 2)) : KI l D (tyW cy) sa yL_buy wsL_buy rL_buy [.ref (h 0), .int a1, .int a2, .ref g] (wX5L cy h m_day m_coins m_felts m_made m_worth m_rags m_water m_pulp m_beat m_sort m_nM m_mark m_size m_worn m_nT m_skill m_vat m_pair m_nQ m_allS m_pmark m_pgrade m_psheets m_loft t_day t_coins t_felts t_made t_worth t_rags t_water t_pulp t_beat t_sort t_nM t_mark t_size t_worn t_nT t_skill t_vat t_pair t_nQ t_allS t_pmark t_pgrade t_psheets t_loft g lo) 3 (fun _ => wX5L cy h m_day m_coins m_felts m_made m_worth m_rags m_water m_pulp m_beat m_sort m_nM m_mark m_size m_worn m_nT m_skill m_vat m_pair m_nQ m_allS m_pmark m_pgrade m_psheets m_loft t_day t_coins t_felts t_made t_worth t_rags t_water t_pulp t_beat t_sort t_nM t_mark t_size t_worn t_nT t_skill t_vat t_pair t_nQ t_allS t_pmark t_pgrade t_psheets t_loft g lo) 1 6 := by
  refine KI.ofH (cc := cL_buy) (maxL := 5) (hh := [(0, 10, 13, 13), (0, 10, 17, 15), (0, 10, 21, 17)]) (by decide +kernel) rfl (Nat.le_of_ble_eq_true rfl) ?_
  intro p e s m args below meth c A ls Q hE htab hQ
  obtain ⟨hx, hb, hml, hown, hts, hA, hP, hK, hD, hG, hl, hnm⟩ := hE
  replace hown : s.vm.findClass RL = some m.cls := hown
  replace hl : lv_has ls 5 [(0, .ref (h 0)), (1, .int a1), (2, .int a2), (3, .ref g)] := hl
  have hS : va_S A s.heap s.heap [] := va_S.rf
  refine lv_aload_n hx hb dL_buy_0 rfl (lv_at hl 3 rfl) ?_
  refine lv_iconst (v := 0) hx hb dL_buy_1 (by decide) ?_
  refine lv_aload_n hx hb dL_buy_2 rfl (lv_at hl 0 rfl) ?_
  refine lv_iload_n hx hb dL_buy_3 rfl (lv_at hl 1 rfl) ?_
  refine lv_iload_n hx hb dL_buy_4 rfl (lv_at hl 2 rfl) ?_
  refine kcX (E0 := "java/lang/IllegalStateException") (kVX (As := [.int a1, .int a2]) ⟨hx, hb, hml, hown, hts⟩ (kX5_buyx l D cy sa h m_day m_coins m_felts m_made m_worth m_rags m_water m_pulp m_beat m_sort m_nM m_mark m_size m_worn m_nT m_skill m_vat m_pair m_nQ m_allS m_pmark m_pgrade m_psheets m_loft t_day t_coins t_felts t_made t_worth t_rags t_water t_pulp t_beat t_sort t_nM t_mark t_size t_worn t_nT t_skill t_vat t_pair t_nQ t_allS t_pmark t_pgrade t_psheets t_loft a1 a2 hst 2 hF _) (cwV 2 hts gL_buy_X5_buy rfl rfl rfl (by decide +kernel) ⟨Nat.le_of_ble_eq_true rfl, Nat.le_of_ble_eq_true rfl⟩) hK hP hD hS hA hG [0, 1, 2, 3, 4, 5, 6, 7, 8, 9, 10, 11, 12, 13, 14, 15, 16, 17, 18, 19, 20, 21, 22, 23, 24, 25, 26, 27, 28, 29, 30, 31, 32, 33, 34, 35, 36, 37, 38, 39, 40] hcX5L_X5_0 ndX5_0 gtX5_0 rfl rfl rfl hl.1 [.int 0, .ref g] rfl (Nat.le_of_ble_eq_true rfl) dL_buy_5 ⟨Nat.le_of_ble_eq_true rfl, Nat.le_of_ble_eq_true rfl⟩) hP hD hS hA [0, 1, 2, 3, 4, 5, 6, 7, 8, 9, 10, 11, 12, 13, 14, 15, 16, 17, 18, 19, 20, 21, 22, 23, 24, 25, 26, 27, 28, 29, 30, 31, 32, 33, 34, 35, 36, 37, 38, 39, 40] hcX5L_X5_0 (fun ce q9 H locs hP hS hc9 hv9 hE9 => ?_)
  refine vx_catch (own := RL) (name := "java/lang/IllegalStateException") (E := "java/lang/IllegalStateException") hown [⟨0, 10, 13, 13⟩, ⟨0, 10, 17, 15⟩] ⟨0, 10, 21, 17⟩ [] htab (List.forall_mem_cons.mpr ⟨Or.inr ⟨by decide, "java/lang/IndexOutOfBoundsException", hts _ (by decide +kernel), hG.1.2.1 ("java/lang/IllegalStateException", "java/lang/IndexOutOfBoundsException") (by decide +kernel)⟩, List.forall_mem_cons.mpr ⟨Or.inr ⟨by decide, "java/lang/IllegalArgumentException", hts _ (by decide +kernel), hG.1.2.1 ("java/lang/IllegalStateException", "java/lang/IllegalArgumentException") (by decide +kernel)⟩, fun _ h9 => absurd h9 List.not_mem_nil⟩⟩) (by decide) (by decide) (hts (.classLink RL 17 "java/lang/IllegalStateException") (by decide +kernel)) (va_Nw.use rfl (hG.1.1 _ (by decide +kernel))) hc9 hv9 hE9 ?_
  refine lv_astore (lv' := [(4, .ref q9), (0, .ref (h 0)), (1, .int a1), (2, .int a2), (3, .ref g)]) hx hb dL_buy_21 hl (by decide) rfl (fun ls hl => ?_)
  refine lv_iconst (v := 3) hx hb dL_buy_23 (by decide) ?_
  exact hQ _ _ _ _ _ _ (fun _ => 0) dL_buy_24 hP hD hS (Nat.le_of_ble_eq_true rfl) (Nat.le_of_ble_eq_true rfl)
def fL_buy (m_coins : Int32) (m_felts : Int32) (m_rags : FN) (a1 : Int32) (a2 : Int32) (lo : Nat → Int64) : Option (Int32 × Int32 × Int32 × FN × (Nat → Int64)) := match fX5_buy m_coins m_felts m_rags a1 a2 with
  | some (.inl z) => some (0, z.2.1, z.2.2.1, z.2.2.2, vp_updL lo (0 : Int32).toNatClampNeg z.1.toInt64)
  | some (.inr kx) => if kx = 0 then some (1, m_coins, m_felts, m_rags, lo) else if kx = 1 then some (2, m_coins, m_felts, m_rags, lo) else if kx = 2 then some (3, m_coins, m_felts, m_rags, lo) else none
  | none => none
set_option maxHeartbeats 4000000 in
set_option maxRecDepth 100000 in
theorem kL_buy (l : Launch) (D : va_G) (cy : Nat → ClassId) (sa : Nat → Nat) (h : Nat → Nat) (m_day : Int32) (m_coins : Int32) (m_felts : Int32) (m_made : Int32) (m_worth : Int32) (m_rags : FN) (m_water : FN) (m_pulp : FN) (m_beat : FN) (m_sort : FN) (m_nM : Int32) (m_mark : FN) (m_size : FN) (m_worn : FN) (m_nT : Int32) (m_skill : FN) (m_vat : FN) (m_pair : FN) (m_nQ : Int32) (m_allS : Int32) (m_pmark : FN) (m_pgrade : FN) (m_psheets : FN) (m_loft : FN) (t_day : Int32) (t_coins : Int32) (t_felts : Int32) (t_made : Int32) (t_worth : Int32) (t_rags : FN) (t_water : FN) (t_pulp : FN) (t_beat : FN) (t_sort : FN) (t_nM : Int32) (t_mark : FN) (t_size : FN) (t_worn : FN) (t_nT : Int32) (t_skill : FN) (t_vat : FN) (t_pair : FN) (t_nQ : Int32) (t_allS : Int32) (t_pmark : FN) (t_pgrade : FN) (t_psheets : FN) (t_loft : FN) (g : Nat) (lo : Nat → Int64) (a1 : Int32) (a2 : Int32) (hst : l.stackTraces = false) (z : Int32 × Int32 × Int32 × FN × (Nat → Int64)) (hF : fL_buy m_coins m_felts m_rags a1 a2 lo = some z) : KI l D (tyW cy) sa yL_buy wsL_buy rL_buy [.ref (h 0), .int a1, .int a2, .ref g] (wX5L cy h m_day m_coins m_felts m_made m_worth m_rags m_water m_pulp m_beat m_sort m_nM m_mark m_size m_worn m_nT m_skill m_vat m_pair m_nQ m_allS m_pmark m_pgrade m_psheets m_loft t_day t_coins t_felts t_made t_worth t_rags t_water t_pulp t_beat t_sort t_nM t_mark t_size t_worn t_nT t_skill t_vat t_pair t_nQ t_allS t_pmark t_pgrade t_psheets t_loft g lo) z.1 (fun _ => wX5L cy h m_day z.2.1 z.2.2.1 m_made m_worth z.2.2.2.1 m_water m_pulp m_beat m_sort m_nM m_mark m_size m_worn m_nT m_skill m_vat m_pair m_nQ m_allS m_pmark m_pgrade m_psheets m_loft t_day t_coins t_felts t_made t_worth t_rags t_water t_pulp t_beat t_sort t_nM t_mark t_size t_worn t_nT t_skill t_vat t_pair t_nQ t_allS t_pmark t_pgrade t_psheets t_loft g z.2.2.2.2) 1 6 := by
  unfold fL_buy at hF
  cases ho : fX5_buy m_coins m_felts m_rags a1 a2 with
  | none =>
    rw [ho] at hF
    cases hF
  | some o =>
    cases o with
    | inl z0 =>
      rw [ho] at hF
      cases hF
      exact kL_buy_ok l D cy sa h m_day m_coins m_felts m_made m_worth m_rags m_water m_pulp m_beat m_sort m_nM m_mark m_size m_worn m_nT m_skill m_vat m_pair m_nQ m_allS m_pmark m_pgrade m_psheets m_loft t_day t_coins t_felts t_made t_worth t_rags t_water t_pulp t_beat t_sort t_nM t_mark t_size t_worn t_nT t_skill t_vat t_pair t_nQ t_allS t_pmark t_pgrade t_psheets t_loft g lo a1 a2 z0 ho
    | inr kx =>
      rw [ho] at hF
      replace hF : (if kx = 0 then some (1, m_coins, m_felts, m_rags, lo) else if kx = 1 then some (2, m_coins, m_felts, m_rags, lo) else if kx = 2 then some (3, m_coins, m_felts, m_rags, lo) else none) = some z := hF
      by_cases c0 : kx = 0
      · subst c0
        replace hF := if_t hF rfl
        cases hF
        exact kL_buy_x0 l D cy sa h m_day m_coins m_felts m_made m_worth m_rags m_water m_pulp m_beat m_sort m_nM m_mark m_size m_worn m_nT m_skill m_vat m_pair m_nQ m_allS m_pmark m_pgrade m_psheets m_loft t_day t_coins t_felts t_made t_worth t_rags t_water t_pulp t_beat t_sort t_nM t_mark t_size t_worn t_nT t_skill t_vat t_pair t_nQ t_allS t_pmark t_pgrade t_psheets t_loft g lo a1 a2 hst ho
      · replace hF := if_f hF c0
        by_cases c1 : kx = 1
        · subst c1
          replace hF := if_t hF rfl
          cases hF
          exact kL_buy_x1 l D cy sa h m_day m_coins m_felts m_made m_worth m_rags m_water m_pulp m_beat m_sort m_nM m_mark m_size m_worn m_nT m_skill m_vat m_pair m_nQ m_allS m_pmark m_pgrade m_psheets m_loft t_day t_coins t_felts t_made t_worth t_rags t_water t_pulp t_beat t_sort t_nM t_mark t_size t_worn t_nT t_skill t_vat t_pair t_nQ t_allS t_pmark t_pgrade t_psheets t_loft g lo a1 a2 hst ho
        · replace hF := if_f hF c1
          by_cases c2 : kx = 2
          · subst c2
            replace hF := if_t hF rfl
            cases hF
            exact kL_buy_x2 l D cy sa h m_day m_coins m_felts m_made m_worth m_rags m_water m_pulp m_beat m_sort m_nM m_mark m_size m_worn m_nT m_skill m_vat m_pair m_nQ m_allS m_pmark m_pgrade m_psheets m_loft t_day t_coins t_felts t_made t_worth t_rags t_water t_pulp t_beat t_sort t_nM t_mark t_size t_worn t_nT t_skill t_vat t_pair t_nQ t_allS t_pmark t_pgrade t_psheets t_loft g lo a1 a2 hst ho
          · replace hF := if_f hF c2
            cases hF

abbrev rL_sell : Room := { frames := 7, cells := 1, slots := 6, locals := 123 }
set_option maxHeartbeats 4000000 in
set_option maxRecDepth 100000 in
theorem kL_sell_ok (l : Launch) (D : va_G) (cy : Nat → ClassId) (sa : Nat → Nat) (h : Nat → Nat) (m_day : Int32) (m_coins : Int32) (m_felts : Int32) (m_made : Int32) (m_worth : Int32) (m_rags : FN) (m_water : FN) (m_pulp : FN) (m_beat : FN) (m_sort : FN) (m_nM : Int32) (m_mark : FN) (m_size : FN) (m_worn : FN) (m_nT : Int32) (m_skill : FN) (m_vat : FN) (m_pair : FN) (m_nQ : Int32) (m_allS : Int32) (m_pmark : FN) (m_pgrade : FN) (m_psheets : FN) (m_loft : FN) (t_day : Int32) (t_coins : Int32) (t_felts : Int32) (t_made : Int32) (t_worth : Int32) (t_rags : FN) (t_water : FN) (t_pulp : FN) (t_beat : FN) (t_sort : FN) (t_nM : Int32) (t_mark : FN) (t_size : FN) (t_worn : FN) (t_nT : Int32) (t_skill : FN) (t_vat : FN) (t_pair : FN) (t_nQ : Int32) (t_allS : Int32) (t_pmark : FN) (t_pgrade : FN) (t_psheets : FN) (t_loft : FN) (g : Nat) (lo : Nat → Int64) (a1 : Int32) (a2 : Int32) (a3 : Int32) (z : Int32 × Int32 × FN) (hF : fX5_sell m_coins m_loft a1 a2 a3 = some (.inl z)) : KI l D (tyW cy) sa yL_sell wsL_sell rL_sell [.ref (h 0), .int a1, .int a2, .int a3, .ref g] (wX5L cy h m_day m_coins m_felts m_made m_worth m_rags m_water m_pulp m_beat m_sort m_nM m_mark m_size m_worn m_nT m_skill m_vat m_pair m_nQ m_allS m_pmark m_pgrade m_psheets m_loft t_day t_coins t_felts t_made t_worth t_rags t_water t_pulp t_beat t_sort t_nM t_mark t_size t_worn t_nT t_skill t_vat t_pair t_nQ t_allS t_pmark t_pgrade t_psheets t_loft g lo) 0 (fun _ => wX5L cy h m_day z.2.1 m_felts m_made m_worth m_rags m_water m_pulp m_beat m_sort m_nM m_mark m_size m_worn m_nT m_skill m_vat m_pair m_nQ m_allS m_pmark m_pgrade m_psheets z.2.2 t_day t_coins t_felts t_made t_worth t_rags t_water t_pulp t_beat t_sort t_nM t_mark t_size t_worn t_nT t_skill t_vat t_pair t_nQ t_allS t_pmark t_pgrade t_psheets t_loft g (vp_updL lo (0 : Int32).toNatClampNeg z.1.toInt64)) 1 6 := by
  refine KI.ofH (cc := cL_sell) (maxL := 6) (hh := [(0, 12, 15, 13), (0, 12, 19, 15), (0, 12, 23, 17)]) (by decide +kernel) rfl (Nat.le_of_ble_eq_true rfl) ?_
  intro p e s m args below meth c A ls Q hE htab hQ
  obtain ⟨hx, hb, hml, hown, hts, hA, hP, hK, hD, hG, hl, hnm⟩ := hE
  replace hown : s.vm.findClass RL = some m.cls := hown
  replace hl : lv_has ls 6 [(0, .ref (h 0)), (1, .int a1), (2, .int a2), (3, .int a3), (4, .ref g)] := hl
  have hS : va_S A s.heap s.heap [] := va_S.rf
  refine lv_aload hx hb dL_sell_0 (lv_at hl 4 rfl) ?_
  refine lv_iconst (v := 0) hx hb dL_sell_2 (by decide) ?_
  refine lv_aload_n hx hb dL_sell_3 rfl (lv_at hl 0 rfl) ?_
  refine lv_iload_n hx hb dL_sell_4 rfl (lv_at hl 1 rfl) ?_
  refine lv_iload_n hx hb dL_sell_5 rfl (lv_at hl 2 rfl) ?_
  refine lv_iload_n hx hb dL_sell_6 rfl (lv_at hl 3 rfl) ?_
  refine kwIE (kV (As := [.int a1, .int a2, .int a3]) ⟨hx, hb, hml, hown, hts⟩ (kX5_sell l D cy sa h m_day m_coins m_felts m_made m_worth m_rags m_water m_pulp m_beat m_sort m_nM m_mark m_size m_worn m_nT m_skill m_vat m_pair m_nQ m_allS m_pmark m_pgrade m_psheets m_loft t_day t_coins t_felts t_made t_worth t_rags t_water t_pulp t_beat t_sort t_nM t_mark t_size t_worn t_nT t_skill t_vat t_pair t_nQ t_allS t_pmark t_pgrade t_psheets t_loft a1 a2 a3 z hF _) (cwV 3 hts gL_sell_X5_sell rfl rfl rfl (by decide +kernel) ⟨Nat.le_of_ble_eq_true rfl, Nat.le_of_ble_eq_true rfl⟩) hK hP hD hS hA hG [0, 1, 2, 3, 4, 5, 6, 7, 8, 9, 10, 11, 12, 13, 14, 15, 16, 17, 18, 19, 20, 21, 22, 23, 24, 25, 26, 27, 28, 29, 30, 31, 32, 33, 34, 35, 36, 37, 38, 39, 40] hcX5L_X5_0 ndX5_0 gtX5_0 rfl rfl rfl hl.1 [.int 0, .ref g] rfl (Nat.le_of_ble_eq_true rfl) dL_sell_7 ⟨Nat.le_of_ble_eq_true rfl, Nat.le_of_ble_eq_true rfl⟩) hP hD hS hA [0, 1, 2, 3, 4, 5, 6, 7, 8, 9, 10, 11, 12, 13, 14, 15, 16, 17, 18, 19, 20, 21, 22, 23, 24, 25, 26, 27, 28, 29, 30, 31, 32, 33, 34, 35, 36, 37, 38, 39, 40] hcX5L_X5_0 hmX5 kpX5L_X5_0 (fun H locs hP hD hS => ?_)
  refine lv_i2l hx hb dL_sell_10 rfl ?_
  refine va_last hx hb hK hP hD hS 41 2 gtX5L_41 rfl (show ¬ ((0 : Int32) < 0 ∨ 1 ≤ (0 : Int32).toNatClampNeg) from by decide) dL_sell_11 (fun H locs hP hD hS => ?_)
  rw [stLX5L] at hP hD
  refine lv_goto (tgt := 27) hx hb dL_sell_12 (by decide) ?_
  refine lv_iconst (v := 0) hx hb dL_sell_27 (by decide) ?_
  exact hQ _ _ _ _ _ _ (fun _ => 0) dL_sell_28 hP hD hS (Nat.le_of_ble_eq_true rfl) (Nat.le_of_ble_eq_true rfl)
set_option maxHeartbeats 4000000 in
set_option maxRecDepth 100000 in
theorem kL_sell_x0 (l : Launch) (D : va_G) (cy : Nat → ClassId) (sa : Nat → Nat) (h : Nat → Nat) (m_day : Int32) (m_coins : Int32) (m_felts : Int32) (m_made : Int32) (m_worth : Int32) (m_rags : FN) (m_water : FN) (m_pulp : FN) (m_beat : FN) (m_sort : FN) (m_nM : Int32) (m_mark : FN) (m_size : FN) (m_worn : FN) (m_nT : Int32) (m_skill : FN) (m_vat : FN) (m_pair : FN) (m_nQ : Int32) (m_allS : Int32) (m_pmark : FN) (m_pgrade : FN) (m_psheets : FN) (m_loft : FN) (t_day : Int32) (t_coins : Int32) (t_felts : Int32) (t_made : Int32) (t_worth : Int32) (t_rags : FN) (t_water : FN) (t_pulp : FN) (t_beat : FN) (t_sort : FN) (t_nM : Int32) (t_mark : FN) (t_size : FN) (t_worn : FN) (t_nT : Int32) (t_skill : FN) (t_vat : FN) (t_pair : FN) (t_nQ : Int32) (t_allS : Int32) (t_pmark : FN) (t_pgrade : FN) (t_psheets : FN) (t_loft : FN) (g : Nat) (lo : Nat → Int64) (a1 : Int32) (a2 : Int32) (a3 : Int32) (hst : l.stackTraces = false) (hF : fX5_sell m_coins m_loft a1 a2 a3 = some (.inr 0)) : KI l D (tyW cy) sa yL_sell wsL_sell rL_sell [.ref (h 0), .int a1, .int a2, .int a3, .ref g] (wX5L cy h m_day m_coins m_felts m_made m_worth m_rags m_water m_pulp m_beat m_sort m_nM m_mark m_size m_worn m_nT m_skill m_vat m_pair m_nQ m_allS m_pmark m_pgrade m_psheets m_loft t_day t_coins t_felts t_made t_worth t_rags t_water t_pulp t_beat t_sort t_nM t_mark t_size t_worn t_nT t_skill t_vat t_pair t_nQ t_allS t_pmark t_pgrade t_psheets t_loft g lo) 1 (fun _ => wX5L cy h m_day m_coins m_felts m_made m_worth m_rags m_water m_pulp m_beat m_sort m_nM m_mark m_size m_worn m_nT m_skill m_vat m_pair m_nQ m_allS m_pmark m_pgrade m_psheets m_loft t_day t_coins t_felts t_made t_worth t_rags t_water t_pulp t_beat t_sort t_nM t_mark t_size t_worn t_nT t_skill t_vat t_pair t_nQ t_allS t_pmark t_pgrade t_psheets t_loft g lo) 1 6 := by
  refine KI.ofH (cc := cL_sell) (maxL := 6) (hh := [(0, 12, 15, 13), (0, 12, 19, 15), (0, 12, 23, 17)]) (by decide +kernel) rfl (Nat.le_of_ble_eq_true rfl) ?_
  intro p e s m args below meth c A ls Q hE htab hQ
  obtain ⟨hx, hb, hml, hown, hts, hA, hP, hK, hD, hG, hl, hnm⟩ := hE
  replace hown : s.vm.findClass RL = some m.cls := hown
  replace hl : lv_has ls 6 [(0, .ref (h 0)), (1, .int a1), (2, .int a2), (3, .int a3), (4, .ref g)] := hl
  have hS : va_S A s.heap s.heap [] := va_S.rf
  refine lv_aload hx hb dL_sell_0 (lv_at hl 4 rfl) ?_
  refine lv_iconst (v := 0) hx hb dL_sell_2 (by decide) ?_
  refine lv_aload_n hx hb dL_sell_3 rfl (lv_at hl 0 rfl) ?_
  refine lv_iload_n hx hb dL_sell_4 rfl (lv_at hl 1 rfl) ?_
  refine lv_iload_n hx hb dL_sell_5 rfl (lv_at hl 2 rfl) ?_
  refine lv_iload_n hx hb dL_sell_6 rfl (lv_at hl 3 rfl) ?_
  refine kcX (E0 := "java/lang/IndexOutOfBoundsException") (kVX (As := [.int a1, .int a2, .int a3]) ⟨hx, hb, hml, hown, hts⟩ (kX5_sellx l D cy sa h m_day m_coins m_felts m_made m_worth m_rags m_water m_pulp m_beat m_sort m_nM m_mark m_size m_worn m_nT m_skill m_vat m_pair m_nQ m_allS m_pmark m_pgrade m_psheets m_loft t_day t_coins t_felts t_made t_worth t_rags t_water t_pulp t_beat t_sort t_nM t_mark t_size t_worn t_nT t_skill t_vat t_pair t_nQ t_allS t_pmark t_pgrade t_psheets t_loft a1 a2 a3 hst 0 hF _) (cwV 3 hts gL_sell_X5_sell rfl rfl rfl (by decide +kernel) ⟨Nat.le_of_ble_eq_true rfl, Nat.le_of_ble_eq_true rfl⟩) hK hP hD hS hA hG [0, 1, 2, 3, 4, 5, 6, 7, 8, 9, 10, 11, 12, 13, 14, 15, 16, 17, 18, 19, 20, 21, 22, 23, 24, 25, 26, 27, 28, 29, 30, 31, 32, 33, 34, 35, 36, 37, 38, 39, 40] hcX5L_X5_0 ndX5_0 gtX5_0 rfl rfl rfl hl.1 [.int 0, .ref g] rfl (Nat.le_of_ble_eq_true rfl) dL_sell_7 ⟨Nat.le_of_ble_eq_true rfl, Nat.le_of_ble_eq_true rfl⟩) hP hD hS hA [0, 1, 2, 3, 4, 5, 6, 7, 8, 9, 10, 11, 12, 13, 14, 15, 16, 17, 18, 19, 20, 21, 22, 23, 24, 25, 26, 27, 28, 29, 30, 31, 32, 33, 34, 35, 36, 37, 38, 39, 40] hcX5L_X5_0 (fun ce q9 H locs hP hS hc9 hv9 hE9 => ?_)
  refine vx_catch (own := RL) (name := "java/lang/IndexOutOfBoundsException") (E := "java/lang/IndexOutOfBoundsException") hown [] ⟨0, 12, 15, 13⟩ [⟨0, 12, 19, 15⟩, ⟨0, 12, 23, 17⟩] htab (fun z hz => by cases hz) (by decide) (by decide) (hts (.classLink RL 13 "java/lang/IndexOutOfBoundsException") (by decide +kernel)) (va_Nw.use rfl (hG.1.1 _ (by decide +kernel))) hc9 hv9 hE9 ?_
  refine lv_astore (lv' := [(5, .ref q9), (0, .ref (h 0)), (1, .int a1), (2, .int a2), (3, .int a3), (4, .ref g)]) hx hb dL_sell_15 hl (by decide) rfl (fun ls hl => ?_)
  refine lv_iconst (v := 1) hx hb dL_sell_17 (by decide) ?_
  exact hQ _ _ _ _ _ _ (fun _ => 0) dL_sell_18 hP hD hS (Nat.le_of_ble_eq_true rfl) (Nat.le_of_ble_eq_true rfl)
set_option maxHeartbeats 4000000 in
set_option maxRecDepth 100000 in
theorem kL_sell_x1 (l : Launch) (D : va_G) (cy : Nat → ClassId) (sa : Nat → Nat) (h : Nat → Nat) (m_day : Int32) (m_coins : Int32) (m_felts : Int32) (m_made : Int32) (m_worth : Int32) (m_rags : FN) (m_water : FN) (m_pulp : FN) (m_beat : FN) (m_sort : FN) (m_nM : Int32) (m_mark : FN) (m_size : FN) (m_worn : FN) (m_nT : Int32) (m_skill : FN) (m_vat : FN) (m_pair : FN) (m_nQ : Int32) (m_allS : Int32) (m_pmark : FN) (m_pgrade : FN) (m_psheets : FN) (m_loft : FN) (t_day : Int32) (t_coins : Int32) (t_felts : Int32) (t_made : Int32) (t_worth : Int32) (t_rags : FN) (t_water : FN) (t_pulp : FN) (t_beat : FN) (t_sort : FN) (t_nM : Int32) (t_mark : FN) (t_size : FN) (t_worn : FN) (t_nT : Int32) (t_skill : FN) (t_vat : FN) (t_pair : FN) (t_nQ : Int32) (t_allS : Int32) (t_pmark : FN) (t_pgrade : FN) (t_psheets : FN) (t_loft : FN) (g : Nat) (lo : Nat → Int64) (a1 : Int32) (a2 : Int32) (a3 : Int32) (hst : l.stackTraces = false) (hF : fX5_sell m_coins m_loft a1 a2 a3 = some (.inr 1)) : KI l D (tyW cy) sa yL_sell wsL_sell rL_sell [.ref (h 0), .int a1, .int a2, .int a3, .ref g] (wX5L cy h m_day m_coins m_felts m_made m_worth m_rags m_water m_pulp m_beat m_sort m_nM m_mark m_size m_worn m_nT m_skill m_vat m_pair m_nQ m_allS m_pmark m_pgrade m_psheets m_loft t_day t_coins t_felts t_made t_worth t_rags t_water t_pulp t_beat t_sort t_nM t_mark t_size t_worn t_nT t_skill t_vat t_pair t_nQ t_allS t_pmark t_pgrade t_psheets t_loft g lo) 2 (fun _ => wX5L cy h m_day m_coins m_felts m_made m_worth m_rags m_water m_pulp m_beat m_sort m_nM m_mark m_size m_worn m_nT m_skill m_vat m_pair m_nQ m_allS m_pmark m_pgrade m_psheets m_loft t_day t_coins t_felts t_made t_worth t_rags t_water t_pulp t_beat t_sort t_nM t_mark t_size t_worn t_nT t_skill t_vat t_pair t_nQ t_allS t_pmark t_pgrade t_psheets t_loft g lo) 1 6 := by
  refine KI.ofH (cc := cL_sell) (maxL := 6) (hh := [(0, 12, 15, 13), (0, 12, 19, 15), (0, 12, 23, 17)]) (by decide +kernel) rfl (Nat.le_of_ble_eq_true rfl) ?_
  intro p e s m args below meth c A ls Q hE htab hQ
  obtain ⟨hx, hb, hml, hown, hts, hA, hP, hK, hD, hG, hl, hnm⟩ := hE
  replace hown : s.vm.findClass RL = some m.cls := hown
  replace hl : lv_has ls 6 [(0, .ref (h 0)), (1, .int a1), (2, .int a2), (3, .int a3), (4, .ref g)] := hl
  have hS : va_S A s.heap s.heap [] := va_S.rf
  refine lv_aload hx hb dL_sell_0 (lv_at hl 4 rfl) ?_
  refine lv_iconst (v := 0) hx hb dL_sell_2 (by decide) ?_
  refine lv_aload_n hx hb dL_sell_3 rfl (lv_at hl 0 rfl) ?_
  refine lv_iload_n hx hb dL_sell_4 rfl (lv_at hl 1 rfl) ?_
  refine lv_iload_n hx hb dL_sell_5 rfl (lv_at hl 2 rfl) ?_
  refine lv_iload_n hx hb dL_sell_6 rfl (lv_at hl 3 rfl) ?_
  refine kcX (E0 := "java/lang/IllegalArgumentException") (kVX (As := [.int a1, .int a2, .int a3]) ⟨hx, hb, hml, hown, hts⟩ (kX5_sellx l D cy sa h m_day m_coins m_felts m_made m_worth m_rags m_water m_pulp m_beat m_sort m_nM m_mark m_size m_worn m_nT m_skill m_vat m_pair m_nQ m_allS m_pmark m_pgrade m_psheets m_loft t_day t_coins t_felts t_made t_worth t_rags t_water t_pulp t_beat t_sort t_nM t_mark t_size t_worn t_nT t_skill t_vat t_pair t_nQ t_allS t_pmark t_pgrade t_psheets t_loft a1 a2 a3 hst 1 hF _) (cwV 3 hts gL_sell_X5_sell rfl rfl rfl (by decide +kernel) ⟨Nat.le_of_ble_eq_true rfl, Nat.le_of_ble_eq_true rfl⟩) hK hP hD hS hA hG [0, 1, 2, 3, 4, 5, 6, 7, 8, 9, 10, 11, 12, 13, 14, 15, 16, 17, 18, 19, 20, 21, 22, 23, 24, 25, 26, 27, 28, 29, 30, 31, 32, 33, 34, 35, 36, 37, 38, 39, 40] hcX5L_X5_0 ndX5_0 gtX5_0 rfl rfl rfl hl.1 [.int 0, .ref g] rfl (Nat.le_of_ble_eq_true rfl) dL_sell_7 ⟨Nat.le_of_ble_eq_true rfl, Nat.le_of_ble_eq_true rfl⟩) hP hD hS hA [0, 1, 2, 3, 4, 5, 6, 7, 8, 9, 10, 11, 12, 13, 14, 15, 16, 17, 18, 19, 20, 21, 22, 23, 24, 25, 26, 27, 28, 29, 30, 31, 32, 33, 34, 35, 36, 37, 38, 39, 40] hcX5L_X5_0 (fun ce q9 H locs hP hS hc9 hv9 hE9 => ?_)
  refine vx_catch (own := RL) (name := "java/lang/IllegalArgumentException") (E := "java/lang/IllegalArgumentException") hown [⟨0, 12, 15, 13⟩] ⟨0, 12, 19, 15⟩ [⟨0, 12, 23, 17⟩] htab (List.forall_mem_cons.mpr ⟨Or.inr ⟨by decide, "java/lang/IndexOutOfBoundsException", hts _ (by decide +kernel), hG.1.2.1 ("java/lang/IllegalArgumentException", "java/lang/IndexOutOfBoundsException") (by decide +kernel)⟩, fun _ h9 => absurd h9 List.not_mem_nil⟩) (by decide) (by decide) (hts (.classLink RL 15 "java/lang/IllegalArgumentException") (by decide +kernel)) (va_Nw.use rfl (hG.1.1 _ (by decide +kernel))) hc9 hv9 hE9 ?_
  refine lv_astore (lv' := [(5, .ref q9), (0, .ref (h 0)), (1, .int a1), (2, .int a2), (3, .int a3), (4, .ref g)]) hx hb dL_sell_19 hl (by decide) rfl (fun ls hl => ?_)
  refine lv_iconst (v := 2) hx hb dL_sell_21 (by decide) ?_
  exact hQ _ _ _ _ _ _ (fun _ => 0) dL_sell_22 hP hD hS (Nat.le_of_ble_eq_true rfl) (Nat.le_of_ble_eq_true rfl)
set_option maxHeartbeats 4000000 in
set_option maxRecDepth 100000 in
theorem kL_sell_x2 (l : Launch) (D : va_G) (cy : Nat → ClassId) (sa : Nat → Nat) (h : Nat → Nat) (m_day : Int32) (m_coins : Int32) (m_felts : Int32) (m_made : Int32) (m_worth : Int32) (m_rags : FN) (m_water : FN) (m_pulp : FN) (m_beat : FN) (m_sort : FN) (m_nM : Int32) (m_mark : FN) (m_size : FN) (m_worn : FN) (m_nT : Int32) (m_skill : FN) (m_vat : FN) (m_pair : FN) (m_nQ : Int32) (m_allS : Int32) (m_pmark : FN) (m_pgrade : FN) (m_psheets : FN) (m_loft : FN) (t_day : Int32) (t_coins : Int32) (t_felts : Int32) (t_made : Int32) (t_worth : Int32) (t_rags : FN) (t_water : FN) (t_pulp : FN) (t_beat : FN) (t_sort : FN) (t_nM : Int32) (t_mark : FN) (t_size : FN) (t_worn : FN) (t_nT : Int32) (t_skill : FN) (t_vat : FN) (t_pair : FN) (t_nQ : Int32) (t_allS : Int32) (t_pmark : FN) (t_pgrade : FN) (t_psheets : FN) (t_loft : FN) (g : Nat) (lo : Nat → Int64) (a1 : Int32) (a2 : Int32) (a3 : Int32) (hst : l.stackTraces = false) (hF : fX5_sell m_coins m_loft a1 a2 a3 = some (.inr 2)) : KI l D (tyW cy) sa yL_sell wsL_sell rL_sell [.ref (h 0), .int a1, .int a2, .int a3, .ref g] (wX5L cy h m_day m_coins m_felts m_made m_worth m_rags m_water m_pulp m_beat m_sort m_nM m_mark m_size m_worn m_nT m_skill m_vat m_pair m_nQ m_allS m_pmark m_pgrade m_psheets m_loft t_day t_coins t_felts t_made t_worth t_rags t_water t_pulp t_beat t_sort t_nM t_mark t_size t_worn t_nT t_skill t_vat t_pair t_nQ t_allS t_pmark t_pgrade t_psheets t_loft g lo) 3 (fun _ => wX5L cy h m_day m_coins m_felts m_made m_worth m_rags m_water m_pulp m_beat m_sort m_nM m_mark m_size m_worn m_nT m_skill m_vat m_pair m_nQ m_allS m_pmark m_pgrade m_psheets m_loft t_day t_coins t_felts t_made t_worth t_rags t_water t_pulp t_beat t_sort t_nM t_mark t_size t_worn t_nT t_skill t_vat t_pair t_nQ t_allS t_pmark t_pgrade t_psheets t_loft g lo) 1 6 := by
  refine KI.ofH (cc := cL_sell) (maxL := 6) (hh := [(0, 12, 15, 13), (0, 12, 19, 15), (0, 12, 23, 17)]) (by decide +kernel) rfl (Nat.le_of_ble_eq_true rfl) ?_
  intro p e s m args below meth c A ls Q hE htab hQ
  obtain ⟨hx, hb, hml, hown, hts, hA, hP, hK, hD, hG, hl, hnm⟩ := hE
  replace hown : s.vm.findClass RL = some m.cls := hown
  replace hl : lv_has ls 6 [(0, .ref (h 0)), (1, .int a1), (2, .int a2), (3, .int a3), (4, .ref g)] := hl
  have hS : va_S A s.heap s.heap [] := va_S.rf
  refine lv_aload hx hb dL_sell_0 (lv_at hl 4 rfl) ?_
  refine lv_iconst (v := 0) hx hb dL_sell_2 (by decide) ?_
  refine lv_aload_n hx hb dL_sell_3 rfl (lv_at hl 0 rfl) ?_
  refine lv_iload_n hx hb dL_sell_4 rfl (lv_at hl 1 rfl) ?_
  refine lv_iload_n hx hb dL_sell_5 rfl (lv_at hl 2 rfl) ?_
  refine lv_iload_n hx hb dL_sell_6 rfl (lv_at hl 3 rfl) ?_
  refine kcX (E0 := "java/lang/IllegalStateException") (kVX (As := [.int a1, .int a2, .int a3]) ⟨hx, hb, hml, hown, hts⟩ (kX5_sellx l D cy sa h m_day m_coins m_felts m_made m_worth m_rags m_water m_pulp m_beat m_sort m_nM m_mark m_size m_worn m_nT m_skill m_vat m_pair m_nQ m_allS m_pmark m_pgrade m_psheets m_loft t_day t_coins t_felts t_made t_worth t_rags t_water t_pulp t_beat t_sort t_nM t_mark t_size t_worn t_nT t_skill t_vat t_pair t_nQ t_allS t_pmark t_pgrade t_psheets t_loft a1 a2 a3 hst 2 hF _) (cwV 3 hts gL_sell_X5_sell rfl rfl rfl (by decide +kernel) ⟨Nat.le_of_ble_eq_true rfl, Nat.le_of_ble_eq_true rfl⟩) hK hP hD hS hA hG [0, 1, 2, 3, 4, 5, 6, 7, 8, 9, 10, 11, 12, 13, 14, 15, 16, 17, 18, 19, 20, 21, 22, 23, 24, 25, 26, 27, 28, 29, 30, 31, 32, 33, 34, 35, 36, 37, 38, 39, 40] hcX5L_X5_0 ndX5_0 gtX5_0 rfl rfl rfl hl.1 [.int 0, .ref g] rfl (Nat.le_of_ble_eq_true rfl) dL_sell_7 ⟨Nat.le_of_ble_eq_true rfl, Nat.le_of_ble_eq_true rfl⟩) hP hD hS hA [0, 1, 2, 3, 4, 5, 6, 7, 8, 9, 10, 11, 12, 13, 14, 15, 16, 17, 18, 19, 20, 21, 22, 23, 24, 25, 26, 27, 28, 29, 30, 31, 32, 33, 34, 35, 36, 37, 38, 39, 40] hcX5L_X5_0 (fun ce q9 H locs hP hS hc9 hv9 hE9 => ?_)
  refine vx_catch (own := RL) (name := "java/lang/IllegalStateException") (E := "java/lang/IllegalStateException") hown [⟨0, 12, 15, 13⟩, ⟨0, 12, 19, 15⟩] ⟨0, 12, 23, 17⟩ [] htab (List.forall_mem_cons.mpr ⟨Or.inr ⟨by decide, "java/lang/IndexOutOfBoundsException", hts _ (by decide +kernel), hG.1.2.1 ("java/lang/IllegalStateException", "java/lang/IndexOutOfBoundsException") (by decide +kernel)⟩, List.forall_mem_cons.mpr ⟨Or.inr ⟨by decide, "java/lang/IllegalArgumentException", hts _ (by decide +kernel), hG.1.2.1 ("java/lang/IllegalStateException", "java/lang/IllegalArgumentException") (by decide +kernel)⟩, fun _ h9 => absurd h9 List.not_mem_nil⟩⟩) (by decide) (by decide) (hts (.classLink RL 17 "java/lang/IllegalStateException") (by decide +kernel)) (va_Nw.use rfl (hG.1.1 _ (by decide +kernel))) hc9 hv9 hE9 ?_
  refine lv_astore (lv' := [(5, .ref q9), (0, .ref (h 0)), (1, .int a1), (2, .int a2), (3, .int a3), (4, .ref g)]) hx hb dL_sell_23 hl (by decide) rfl (fun ls hl => ?_)
  refine lv_iconst (v := 3) hx hb dL_sell_25 (by decide) ?_
  exact hQ _ _ _ _ _ _ (fun _ => 0) dL_sell_26 hP hD hS (Nat.le_of_ble_eq_true rfl) (Nat.le_of_ble_eq_true rfl)
def fL_sell (m_coins : Int32) (m_loft : FN) (a1 : Int32) (a2 : Int32) (a3 : Int32) (lo : Nat → Int64) : Option (Int32 × Int32 × FN × (Nat → Int64)) := match fX5_sell m_coins m_loft a1 a2 a3 with
  | some (.inl z) => some (0, z.2.1, z.2.2, vp_updL lo (0 : Int32).toNatClampNeg z.1.toInt64)
  | some (.inr kx) => if kx = 0 then some (1, m_coins, m_loft, lo) else if kx = 1 then some (2, m_coins, m_loft, lo) else if kx = 2 then some (3, m_coins, m_loft, lo) else none
  | none => none
set_option maxHeartbeats 4000000 in
set_option maxRecDepth 100000 in
theorem kL_sell (l : Launch) (D : va_G) (cy : Nat → ClassId) (sa : Nat → Nat) (h : Nat → Nat) (m_day : Int32) (m_coins : Int32) (m_felts : Int32) (m_made : Int32) (m_worth : Int32) (m_rags : FN) (m_water : FN) (m_pulp : FN) (m_beat : FN) (m_sort : FN) (m_nM : Int32) (m_mark : FN) (m_size : FN) (m_worn : FN) (m_nT : Int32) (m_skill : FN) (m_vat : FN) (m_pair : FN) (m_nQ : Int32) (m_allS : Int32) (m_pmark : FN) (m_pgrade : FN) (m_psheets : FN) (m_loft : FN) (t_day : Int32) (t_coins : Int32) (t_felts : Int32) (t_made : Int32) (t_worth : Int32) (t_rags : FN) (t_water : FN) (t_pulp : FN) (t_beat : FN) (t_sort : FN) (t_nM : Int32) (t_mark : FN) (t_size : FN) (t_worn : FN) (t_nT : Int32) (t_skill : FN) (t_vat : FN) (t_pair : FN) (t_nQ : Int32) (t_allS : Int32) (t_pmark : FN) (t_pgrade : FN) (t_psheets : FN) (t_loft : FN) (g : Nat) (lo : Nat → Int64) (a1 : Int32) (a2 : Int32) (a3 : Int32) (hst : l.stackTraces = false) (z : Int32 × Int32 × FN × (Nat → Int64)) (hF : fL_sell m_coins m_loft a1 a2 a3 lo = some z) : KI l D (tyW cy) sa yL_sell wsL_sell rL_sell [.ref (h 0), .int a1, .int a2, .int a3, .ref g] (wX5L cy h m_day m_coins m_felts m_made m_worth m_rags m_water m_pulp m_beat m_sort m_nM m_mark m_size m_worn m_nT m_skill m_vat m_pair m_nQ m_allS m_pmark m_pgrade m_psheets m_loft t_day t_coins t_felts t_made t_worth t_rags t_water t_pulp t_beat t_sort t_nM t_mark t_size t_worn t_nT t_skill t_vat t_pair t_nQ t_allS t_pmark t_pgrade t_psheets t_loft g lo) z.1 (fun _ => wX5L cy h m_day z.2.1 m_felts m_made m_worth m_rags m_water m_pulp m_beat m_sort m_nM m_mark m_size m_worn m_nT m_skill m_vat m_pair m_nQ m_allS m_pmark m_pgrade m_psheets z.2.2.1 t_day t_coins t_felts t_made t_worth t_rags t_water t_pulp t_beat t_sort t_nM t_mark t_size t_worn t_nT t_skill t_vat t_pair t_nQ t_allS t_pmark t_pgrade t_psheets t_loft g z.2.2.2) 1 6 := by
  unfold fL_sell at hF
  cases ho : fX5_sell m_coins m_loft a1 a2 a3 with
  | none =>
    rw [ho] at hF
    cases hF
  | some o =>
    cases o with
    | inl z0 =>
      rw [ho] at hF
      cases hF
      exact kL_sell_ok l D cy sa h m_day m_coins m_felts m_made m_worth m_rags m_water m_pulp m_beat m_sort m_nM m_mark m_size m_worn m_nT m_skill m_vat m_pair m_nQ m_allS m_pmark m_pgrade m_psheets m_loft t_day t_coins t_felts t_made t_worth t_rags t_water t_pulp t_beat t_sort t_nM t_mark t_size t_worn t_nT t_skill t_vat t_pair t_nQ t_allS t_pmark t_pgrade t_psheets t_loft g lo a1 a2 a3 z0 ho
    | inr kx =>
      rw [ho] at hF
      replace hF : (if kx = 0 then some (1, m_coins, m_loft, lo) else if kx = 1 then some (2, m_coins, m_loft, lo) else if kx = 2 then some (3, m_coins, m_loft, lo) else none) = some z := hF
      by_cases c0 : kx = 0
      · subst c0
        replace hF := if_t hF rfl
        cases hF
        exact kL_sell_x0 l D cy sa h m_day m_coins m_felts m_made m_worth m_rags m_water m_pulp m_beat m_sort m_nM m_mark m_size m_worn m_nT m_skill m_vat m_pair m_nQ m_allS m_pmark m_pgrade m_psheets m_loft t_day t_coins t_felts t_made t_worth t_rags t_water t_pulp t_beat t_sort t_nM t_mark t_size t_worn t_nT t_skill t_vat t_pair t_nQ t_allS t_pmark t_pgrade t_psheets t_loft g lo a1 a2 a3 hst ho
      · replace hF := if_f hF c0
        by_cases c1 : kx = 1
        · subst c1
          replace hF := if_t hF rfl
          cases hF
          exact kL_sell_x1 l D cy sa h m_day m_coins m_felts m_made m_worth m_rags m_water m_pulp m_beat m_sort m_nM m_mark m_size m_worn m_nT m_skill m_vat m_pair m_nQ m_allS m_pmark m_pgrade m_psheets m_loft t_day t_coins t_felts t_made t_worth t_rags t_water t_pulp t_beat t_sort t_nM t_mark t_size t_worn t_nT t_skill t_vat t_pair t_nQ t_allS t_pmark t_pgrade t_psheets t_loft g lo a1 a2 a3 hst ho
        · replace hF := if_f hF c1
          by_cases c2 : kx = 2
          · subst c2
            replace hF := if_t hF rfl
            cases hF
            exact kL_sell_x2 l D cy sa h m_day m_coins m_felts m_made m_worth m_rags m_water m_pulp m_beat m_sort m_nM m_mark m_size m_worn m_nT m_skill m_vat m_pair m_nQ m_allS m_pmark m_pgrade m_psheets m_loft t_day t_coins t_felts t_made t_worth t_rags t_water t_pulp t_beat t_sort t_nM t_mark t_size t_worn t_nT t_skill t_vat t_pair t_nQ t_allS t_pmark t_pgrade t_psheets t_loft g lo a1 a2 a3 hst ho
          · replace hF := if_f hF c2
            cases hF

abbrev rL_fill : Room := { frames := 7, cells := 1, slots := 6, locals := 121 }
set_option maxHeartbeats 4000000 in
set_option maxRecDepth 100000 in
theorem kL_fill_ok (l : Launch) (D : va_G) (cy : Nat → ClassId) (sa : Nat → Nat) (h : Nat → Nat) (m_day : Int32) (m_coins : Int32) (m_felts : Int32) (m_made : Int32) (m_worth : Int32) (m_rags : FN) (m_water : FN) (m_pulp : FN) (m_beat : FN) (m_sort : FN) (m_nM : Int32) (m_mark : FN) (m_size : FN) (m_worn : FN) (m_nT : Int32) (m_skill : FN) (m_vat : FN) (m_pair : FN) (m_nQ : Int32) (m_allS : Int32) (m_pmark : FN) (m_pgrade : FN) (m_psheets : FN) (m_loft : FN) (t_day : Int32) (t_coins : Int32) (t_felts : Int32) (t_made : Int32) (t_worth : Int32) (t_rags : FN) (t_water : FN) (t_pulp : FN) (t_beat : FN) (t_sort : FN) (t_nM : Int32) (t_mark : FN) (t_size : FN) (t_worn : FN) (t_nT : Int32) (t_skill : FN) (t_vat : FN) (t_pair : FN) (t_nQ : Int32) (t_allS : Int32) (t_pmark : FN) (t_pgrade : FN) (t_psheets : FN) (t_loft : FN) (g : Nat) (lo : Nat → Int64) (a1 : Int32) (a2 : Int32) (a3 : Int32) (z : Int32 × FN × FN × FN × FN) (hF : fX5_fill m_rags m_pulp m_beat m_sort a1 a2 a3 = some (.inl z)) : KI l D (tyW cy) sa yL_fill wsL_fill rL_fill [.ref (h 0), .int a1, .int a2, .int a3, .ref g] (wX5L cy h m_day m_coins m_felts m_made m_worth m_rags m_water m_pulp m_beat m_sort m_nM m_mark m_size m_worn m_nT m_skill m_vat m_pair m_nQ m_allS m_pmark m_pgrade m_psheets m_loft t_day t_coins t_felts t_made t_worth t_rags t_water t_pulp t_beat t_sort t_nM t_mark t_size t_worn t_nT t_skill t_vat t_pair t_nQ t_allS t_pmark t_pgrade t_psheets t_loft g lo) 0 (fun _ => wX5L cy h m_day m_coins m_felts m_made m_worth z.2.1 m_water z.2.2.1 z.2.2.2.1 z.2.2.2.2 m_nM m_mark m_size m_worn m_nT m_skill m_vat m_pair m_nQ m_allS m_pmark m_pgrade m_psheets m_loft t_day t_coins t_felts t_made t_worth t_rags t_water t_pulp t_beat t_sort t_nM t_mark t_size t_worn t_nT t_skill t_vat t_pair t_nQ t_allS t_pmark t_pgrade t_psheets t_loft g (vp_updL lo (0 : Int32).toNatClampNeg z.1.toInt64)) 1 6 := by
  refine KI.ofH (cc := cL_fill) (maxL := 6) (hh := [(0, 12, 15, 13), (0, 12, 19, 15), (0, 12, 23, 17)]) (by decide +kernel) rfl (Nat.le_of_ble_eq_true rfl) ?_
  intro p e s m args below meth c A ls Q hE htab hQ
  obtain ⟨hx, hb, hml, hown, hts, hA, hP, hK, hD, hG, hl, hnm⟩ := hE
  replace hown : s.vm.findClass RL = some m.cls := hown
  replace hl : lv_has ls 6 [(0, .ref (h 0)), (1, .int a1), (2, .int a2), (3, .int a3), (4, .ref g)] := hl
  have hS : va_S A s.heap s.heap [] := va_S.rf
  refine lv_aload hx hb dL_fill_0 (lv_at hl 4 rfl) ?_
  refine lv_iconst (v := 0) hx hb dL_fill_2 (by decide) ?_
  refine lv_aload_n hx hb dL_fill_3 rfl (lv_at hl 0 rfl) ?_
  refine lv_iload_n hx hb dL_fill_4 rfl (lv_at hl 1 rfl) ?_
  refine lv_iload_n hx hb dL_fill_5 rfl (lv_at hl 2 rfl) ?_
  refine lv_iload_n hx hb dL_fill_6 rfl (lv_at hl 3 rfl) ?_
  refine kwIE (kV (As := [.int a1, .int a2, .int a3]) ⟨hx, hb, hml, hown, hts⟩ (kX5_fill l D cy sa h m_day m_coins m_felts m_made m_worth m_rags m_water m_pulp m_beat m_sort m_nM m_mark m_size m_worn m_nT m_skill m_vat m_pair m_nQ m_allS m_pmark m_pgrade m_psheets m_loft t_day t_coins t_felts t_made t_worth t_rags t_water t_pulp t_beat t_sort t_nM t_mark t_size t_worn t_nT t_skill t_vat t_pair t_nQ t_allS t_pmark t_pgrade t_psheets t_loft a1 a2 a3 z hF _) (cwV 3 hts gL_fill_X5_fill rfl rfl rfl (by decide +kernel) ⟨Nat.le_of_ble_eq_true rfl, Nat.le_of_ble_eq_true rfl⟩) hK hP hD hS hA hG [0, 1, 2, 3, 4, 5, 6, 7, 8, 9, 10, 11, 12, 13, 14, 15, 16, 17, 18, 19, 20, 21, 22, 23, 24, 25, 26, 27, 28, 29, 30, 31, 32, 33, 34, 35, 36, 37, 38, 39, 40] hcX5L_X5_0 ndX5_0 gtX5_0 rfl rfl rfl hl.1 [.int 0, .ref g] rfl (Nat.le_of_ble_eq_true rfl) dL_fill_7 ⟨Nat.le_of_ble_eq_true rfl, Nat.le_of_ble_eq_true rfl⟩) hP hD hS hA [0, 1, 2, 3, 4, 5, 6, 7, 8, 9, 10, 11, 12, 13, 14, 15, 16, 17, 18, 19, 20, 21, 22, 23, 24, 25, 26, 27, 28, 29, 30, 31, 32, 33, 34, 35, 36, 37, 38, 39, 40] hcX5L_X5_0 hmX5 kpX5L_X5_0 (fun H locs hP hD hS => ?_)
  refine lv_i2l hx hb dL_fill_10 rfl ?_
  refine va_last hx hb hK hP hD hS 41 2 gtX5L_41 rfl (show ¬ ((0 : Int32) < 0 ∨ 1 ≤ (0 : Int32).toNatClampNeg) from by decide) dL_fill_11 (fun H locs hP hD hS => ?_)
  rw [stLX5L] at hP hD
  refine lv_goto (tgt := 27) hx hb dL_fill_12 (by decide) ?_
  refine lv_iconst (v := 0) hx hb dL_fill_27 (by decide) ?_
  exact hQ _ _ _ _ _ _ (fun _ => 0) dL_fill_28 hP hD hS (Nat.le_of_ble_eq_true rfl) (Nat.le_of_ble_eq_true rfl)
set_option maxHeartbeats 4000000 in
set_option maxRecDepth 100000 in
theorem kL_fill_x0 (l : Launch) (D : va_G) (cy : Nat → ClassId) (sa : Nat → Nat) (h : Nat → Nat) (m_day : Int32) (m_coins : Int32) (m_felts : Int32) (m_made : Int32) (m_worth : Int32) (m_rags : FN) (m_water : FN) (m_pulp : FN) (m_beat : FN) (m_sort : FN) (m_nM : Int32) (m_mark : FN) (m_size : FN) (m_worn : FN) (m_nT : Int32) (m_skill : FN) (m_vat : FN) (m_pair : FN) (m_nQ : Int32) (m_allS : Int32) (m_pmark : FN) (m_pgrade : FN) (m_psheets : FN) (m_loft : FN) (t_day : Int32) (t_coins : Int32) (t_felts : Int32) (t_made : Int32) (t_worth : Int32) (t_rags : FN) (t_water : FN) (t_pulp : FN) (t_beat : FN) (t_sort : FN) (t_nM : Int32) (t_mark : FN) (t_size : FN) (t_worn : FN) (t_nT : Int32) (t_skill : FN) (t_vat : FN) (t_pair : FN) (t_nQ : Int32) (t_allS : Int32) (t_pmark : FN) (t_pgrade : FN) (t_psheets : FN) (t_loft : FN) (g : Nat) (lo : Nat → Int64) (a1 : Int32) (a2 : Int32) (a3 : Int32) (hst : l.stackTraces = false) (hF : fX5_fill m_rags m_pulp m_beat m_sort a1 a2 a3 = some (.inr 0)) : KI l D (tyW cy) sa yL_fill wsL_fill rL_fill [.ref (h 0), .int a1, .int a2, .int a3, .ref g] (wX5L cy h m_day m_coins m_felts m_made m_worth m_rags m_water m_pulp m_beat m_sort m_nM m_mark m_size m_worn m_nT m_skill m_vat m_pair m_nQ m_allS m_pmark m_pgrade m_psheets m_loft t_day t_coins t_felts t_made t_worth t_rags t_water t_pulp t_beat t_sort t_nM t_mark t_size t_worn t_nT t_skill t_vat t_pair t_nQ t_allS t_pmark t_pgrade t_psheets t_loft g lo) 1 (fun _ => wX5L cy h m_day m_coins m_felts m_made m_worth m_rags m_water m_pulp m_beat m_sort m_nM m_mark m_size m_worn m_nT m_skill m_vat m_pair m_nQ m_allS m_pmark m_pgrade m_psheets m_loft t_day t_coins t_felts t_made t_worth t_rags t_water t_pulp t_beat t_sort t_nM t_mark t_size t_worn t_nT t_skill t_vat t_pair t_nQ t_allS t_pmark t_pgrade t_psheets t_loft g lo) 1 6 := by
  refine KI.ofH (cc := cL_fill) (maxL := 6) (hh := [(0, 12, 15, 13), (0, 12, 19, 15), (0, 12, 23, 17)]) (by decide +kernel) rfl (Nat.le_of_ble_eq_true rfl) ?_
  intro p e s m args below meth c A ls Q hE htab hQ
  obtain ⟨hx, hb, hml, hown, hts, hA, hP, hK, hD, hG, hl, hnm⟩ := hE
  replace hown : s.vm.findClass RL = some m.cls := hown
  replace hl : lv_has ls 6 [(0, .ref (h 0)), (1, .int a1), (2, .int a2), (3, .int a3), (4, .ref g)] := hl
  have hS : va_S A s.heap s.heap [] := va_S.rf
  refine lv_aload hx hb dL_fill_0 (lv_at hl 4 rfl) ?_
  refine lv_iconst (v := 0) hx hb dL_fill_2 (by decide) ?_
  refine lv_aload_n hx hb dL_fill_3 rfl (lv_at hl 0 rfl) ?_
  refine lv_iload_n hx hb dL_fill_4 rfl (lv_at hl 1 rfl) ?_
  refine lv_iload_n hx hb dL_fill_5 rfl (lv_at hl 2 rfl) ?_
  refine lv_iload_n hx hb dL_fill_6 rfl (lv_at hl 3 rfl) ?_
  refine kcX (E0 := "java/lang/IndexOutOfBoundsException") (kVX (As := [.int a1, .int a2, .int a3]) ⟨hx, hb, hml, hown, hts⟩ (kX5_fillx l D cy sa h m_day m_coins m_felts m_made m_worth m_rags m_water m_pulp m_beat m_sort m_nM m_mark m_size m_worn m_nT m_skill m_vat m_pair m_nQ m_allS m_pmark m_pgrade m_psheets m_loft t_day t_coins t_felts t_made t_worth t_rags t_water t_pulp t_beat t_sort t_nM t_mark t_size t_worn t_nT t_skill t_vat t_pair t_nQ t_allS t_pmark t_pgrade t_psheets t_loft a1 a2 a3 hst 0 hF _) (cwV 3 hts gL_fill_X5_fill rfl rfl rfl (by decide +kernel) ⟨Nat.le_of_ble_eq_true rfl, Nat.le_of_ble_eq_true rfl⟩) hK hP hD hS hA hG [0, 1, 2, 3, 4, 5, 6, 7, 8, 9, 10, 11, 12, 13, 14, 15, 16, 17, 18, 19, 20, 21, 22, 23, 24, 25, 26, 27, 28, 29, 30, 31, 32, 33, 34, 35, 36, 37, 38, 39, 40] hcX5L_X5_0 ndX5_0 gtX5_0 rfl rfl rfl hl.1 [.int 0, .ref g] rfl (Nat.le_of_ble_eq_true rfl) dL_fill_7 ⟨Nat.le_of_ble_eq_true rfl, Nat.le_of_ble_eq_true rfl⟩) hP hD hS hA [0, 1, 2, 3, 4, 5, 6, 7, 8, 9, 10, 11, 12, 13, 14, 15, 16, 17, 18, 19, 20, 21, 22, 23, 24, 25, 26, 27, 28, 29, 30, 31, 32, 33, 34, 35, 36, 37, 38, 39, 40] hcX5L_X5_0 (fun ce q9 H locs hP hS hc9 hv9 hE9 => ?_)
  refine vx_catch (own := RL) (name := "java/lang/IndexOutOfBoundsException") (E := "java/lang/IndexOutOfBoundsException") hown [] ⟨0, 12, 15, 13⟩ [⟨0, 12, 19, 15⟩, ⟨0, 12, 23, 17⟩] htab (fun z hz => by cases hz) (by decide) (by decide) (hts (.classLink RL 13 "java/lang/IndexOutOfBoundsException") (by decide +kernel)) (va_Nw.use rfl (hG.1.1 _ (by decide +kernel))) hc9 hv9 hE9 ?_
  refine lv_astore (lv' := [(5, .ref q9), (0, .ref (h 0)), (1, .int a1), (2, .int a2), (3, .int a3), (4, .ref g)]) hx hb dL_fill_15 hl (by decide) rfl (fun ls hl => ?_)
  refine lv_iconst (v := 1) hx hb dL_fill_17 (by decide) ?_
  exact hQ _ _ _ _ _ _ (fun _ => 0) dL_fill_18 hP hD hS (Nat.le_of_ble_eq_true rfl) (Nat.le_of_ble_eq_true rfl)
set_option maxHeartbeats 4000000 in
set_option maxRecDepth 100000 in
theorem kL_fill_x1 (l : Launch) (D : va_G) (cy : Nat → ClassId) (sa : Nat → Nat) (h : Nat → Nat) (m_day : Int32) (m_coins : Int32) (m_felts : Int32) (m_made : Int32) (m_worth : Int32) (m_rags : FN) (m_water : FN) (m_pulp : FN) (m_beat : FN) (m_sort : FN) (m_nM : Int32) (m_mark : FN) (m_size : FN) (m_worn : FN) (m_nT : Int32) (m_skill : FN) (m_vat : FN) (m_pair : FN) (m_nQ : Int32) (m_allS : Int32) (m_pmark : FN) (m_pgrade : FN) (m_psheets : FN) (m_loft : FN) (t_day : Int32) (t_coins : Int32) (t_felts : Int32) (t_made : Int32) (t_worth : Int32) (t_rags : FN) (t_water : FN) (t_pulp : FN) (t_beat : FN) (t_sort : FN) (t_nM : Int32) (t_mark : FN) (t_size : FN) (t_worn : FN) (t_nT : Int32) (t_skill : FN) (t_vat : FN) (t_pair : FN) (t_nQ : Int32) (t_allS : Int32) (t_pmark : FN) (t_pgrade : FN) (t_psheets : FN) (t_loft : FN) (g : Nat) (lo : Nat → Int64) (a1 : Int32) (a2 : Int32) (a3 : Int32) (hst : l.stackTraces = false) (hF : fX5_fill m_rags m_pulp m_beat m_sort a1 a2 a3 = some (.inr 1)) : KI l D (tyW cy) sa yL_fill wsL_fill rL_fill [.ref (h 0), .int a1, .int a2, .int a3, .ref g] (wX5L cy h m_day m_coins m_felts m_made m_worth m_rags m_water m_pulp m_beat m_sort m_nM m_mark m_size m_worn m_nT m_skill m_vat m_pair m_nQ m_allS m_pmark m_pgrade m_psheets m_loft t_day t_coins t_felts t_made t_worth t_rags t_water t_pulp t_beat t_sort t_nM t_mark t_size t_worn t_nT t_skill t_vat t_pair t_nQ t_allS t_pmark t_pgrade t_psheets t_loft g lo) 2 (fun _ => wX5L cy h m_day m_coins m_felts m_made m_worth m_rags m_water m_pulp m_beat m_sort m_nM m_mark m_size m_worn m_nT m_skill m_vat m_pair m_nQ m_allS m_pmark m_pgrade m_psheets m_loft t_day t_coins t_felts t_made t_worth t_rags t_water t_pulp t_beat t_sort t_nM t_mark t_size t_worn t_nT t_skill t_vat t_pair t_nQ t_allS t_pmark t_pgrade t_psheets t_loft g lo) 1 6 := by
  refine KI.ofH (cc := cL_fill) (maxL := 6) (hh := [(0, 12, 15, 13), (0, 12, 19, 15), (0, 12, 23, 17)]) (by decide +kernel) rfl (Nat.le_of_ble_eq_true rfl) ?_
  intro p e s m args below meth c A ls Q hE htab hQ
  obtain ⟨hx, hb, hml, hown, hts, hA, hP, hK, hD, hG, hl, hnm⟩ := hE
  replace hown : s.vm.findClass RL = some m.cls := hown
  replace hl : lv_has ls 6 [(0, .ref (h 0)), (1, .int a1), (2, .int a2), (3, .int a3), (4, .ref g)] := hl
  have hS : va_S A s.heap s.heap [] := va_S.rf
  refine lv_aload hx hb dL_fill_0 (lv_at hl 4 rfl) ?_
  refine lv_iconst (v := 0) hx hb dL_fill_2 (by decide) ?_
  refine lv_aload_n hx hb dL_fill_3 rfl (lv_at hl 0 rfl) ?_
  refine lv_iload_n hx hb dL_fill_4 rfl (lv_at hl 1 rfl) ?_
  refine lv_iload_n hx hb dL_fill_5 rfl (lv_at hl 2 rfl) ?_
  refine lv_iload_n hx hb dL_fill_6 rfl (lv_at hl 3 rfl) ?_
  refine kcX (E0 := "java/lang/IllegalArgumentException") (kVX (As := [.int a1, .int a2, .int a3]) ⟨hx, hb, hml, hown, hts⟩ (kX5_fillx l D cy sa h m_day m_coins m_felts m_made m_worth m_rags m_water m_pulp m_beat m_sort m_nM m_mark m_size m_worn m_nT m_skill m_vat m_pair m_nQ m_allS m_pmark m_pgrade m_psheets m_loft t_day t_coins t_felts t_made t_worth t_rags t_water t_pulp t_beat t_sort t_nM t_mark t_size t_worn t_nT t_skill t_vat t_pair t_nQ t_allS t_pmark t_pgrade t_psheets t_loft a1 a2 a3 hst 1 hF _) (cwV 3 hts gL_fill_X5_fill rfl rfl rfl (by decide +kernel) ⟨Nat.le_of_ble_eq_true rfl, Nat.le_of_ble_eq_true rfl⟩) hK hP hD hS hA hG [0, 1, 2, 3, 4, 5, 6, 7, 8, 9, 10, 11, 12, 13, 14, 15, 16, 17, 18, 19, 20, 21, 22, 23, 24, 25, 26, 27, 28, 29, 30, 31, 32, 33, 34, 35, 36, 37, 38, 39, 40] hcX5L_X5_0 ndX5_0 gtX5_0 rfl rfl rfl hl.1 [.int 0, .ref g] rfl (Nat.le_of_ble_eq_true rfl) dL_fill_7 ⟨Nat.le_of_ble_eq_true rfl, Nat.le_of_ble_eq_true rfl⟩) hP hD hS hA [0, 1, 2, 3, 4, 5, 6, 7, 8, 9, 10, 11, 12, 13, 14, 15, 16, 17, 18, 19, 20, 21, 22, 23, 24, 25, 26, 27, 28, 29, 30, 31, 32, 33, 34, 35, 36, 37, 38, 39, 40] hcX5L_X5_0 (fun ce q9 H locs hP hS hc9 hv9 hE9 => ?_)
  refine vx_catch (own := RL) (name := "java/lang/IllegalArgumentException") (E := "java/lang/IllegalArgumentException") hown [⟨0, 12, 15, 13⟩] ⟨0, 12, 19, 15⟩ [⟨0, 12, 23, 17⟩] htab (List.forall_mem_cons.mpr ⟨Or.inr ⟨by decide, "java/lang/IndexOutOfBoundsException", hts _ (by decide +kernel), hG.1.2.1 ("java/lang/IllegalArgumentException", "java/lang/IndexOutOfBoundsException") (by decide +kernel)⟩, fun _ h9 => absurd h9 List.not_mem_nil⟩) (by decide) (by decide) (hts (.classLink RL 15 "java/lang/IllegalArgumentException") (by decide +kernel)) (va_Nw.use rfl (hG.1.1 _ (by decide +kernel))) hc9 hv9 hE9 ?_
  refine lv_astore (lv' := [(5, .ref q9), (0, .ref (h 0)), (1, .int a1), (2, .int a2), (3, .int a3), (4, .ref g)]) hx hb dL_fill_19 hl (by decide) rfl (fun ls hl => ?_)
  refine lv_iconst (v := 2) hx hb dL_fill_21 (by decide) ?_
  exact hQ _ _ _ _ _ _ (fun _ => 0) dL_fill_22 hP hD hS (Nat.le_of_ble_eq_true rfl) (Nat.le_of_ble_eq_true rfl)
set_option maxHeartbeats 4000000 in
set_option maxRecDepth 100000 in
theorem kL_fill_x2 (l : Launch) (D : va_G) (cy : Nat → ClassId) (sa : Nat → Nat) (h : Nat → Nat) (m_day : Int32) (m_coins : Int32) (m_felts : Int32) (m_made : Int32) (m_worth : Int32) (m_rags : FN) (m_water : FN) (m_pulp : FN) (m_beat : FN) (m_sort : FN) (m_nM : Int32) (m_mark : FN) (m_size : FN) (m_worn : FN) (m_nT : Int32) (m_skill : FN) (m_vat : FN) (m_pair : FN) (m_nQ : Int32) (m_allS : Int32) (m_pmark : FN) (m_pgrade : FN) (m_psheets : FN) (m_loft : FN) (t_day : Int32) (t_coins : Int32) (t_felts : Int32) (t_made : Int32) (t_worth : Int32) (t_rags : FN) (t_water : FN) (t_pulp : FN) (t_beat : FN) (t_sort : FN) (t_nM : Int32) (t_mark : FN) (t_size : FN) (t_worn : FN) (t_nT : Int32) (t_skill : FN) (t_vat : FN) (t_pair : FN) (t_nQ : Int32) (t_allS : Int32) (t_pmark : FN) (t_pgrade : FN) (t_psheets : FN) (t_loft : FN) (g : Nat) (lo : Nat → Int64) (a1 : Int32) (a2 : Int32) (a3 : Int32) (hst : l.stackTraces = false) (hF : fX5_fill m_rags m_pulp m_beat m_sort a1 a2 a3 = some (.inr 2)) : KI l D (tyW cy) sa yL_fill wsL_fill rL_fill [.ref (h 0), .int a1, .int a2, .int a3, .ref g] (wX5L cy h m_day m_coins m_felts m_made m_worth m_rags m_water m_pulp m_beat m_sort m_nM m_mark m_size m_worn m_nT m_skill m_vat m_pair m_nQ m_allS m_pmark m_pgrade m_psheets m_loft t_day t_coins t_felts t_made t_worth t_rags t_water t_pulp t_beat t_sort t_nM t_mark t_size t_worn t_nT t_skill t_vat t_pair t_nQ t_allS t_pmark t_pgrade t_psheets t_loft g lo) 3 (fun _ => wX5L cy h m_day m_coins m_felts m_made m_worth m_rags m_water m_pulp m_beat m_sort m_nM m_mark m_size m_worn m_nT m_skill m_vat m_pair m_nQ m_allS m_pmark m_pgrade m_psheets m_loft t_day t_coins t_felts t_made t_worth t_rags t_water t_pulp t_beat t_sort t_nM t_mark t_size t_worn t_nT t_skill t_vat t_pair t_nQ t_allS t_pmark t_pgrade t_psheets t_loft g lo) 1 6 := by
  refine KI.ofH (cc := cL_fill) (maxL := 6) (hh := [(0, 12, 15, 13), (0, 12, 19, 15), (0, 12, 23, 17)]) (by decide +kernel) rfl (Nat.le_of_ble_eq_true rfl) ?_
  intro p e s m args below meth c A ls Q hE htab hQ
  obtain ⟨hx, hb, hml, hown, hts, hA, hP, hK, hD, hG, hl, hnm⟩ := hE
  replace hown : s.vm.findClass RL = some m.cls := hown
  replace hl : lv_has ls 6 [(0, .ref (h 0)), (1, .int a1), (2, .int a2), (3, .int a3), (4, .ref g)] := hl
  have hS : va_S A s.heap s.heap [] := va_S.rf
  refine lv_aload hx hb dL_fill_0 (lv_at hl 4 rfl) ?_
  refine lv_iconst (v := 0) hx hb dL_fill_2 (by decide) ?_
  refine lv_aload_n hx hb dL_fill_3 rfl (lv_at hl 0 rfl) ?_
  refine lv_iload_n hx hb dL_fill_4 rfl (lv_at hl 1 rfl) ?_
  refine lv_iload_n hx hb dL_fill_5 rfl (lv_at hl 2 rfl) ?_
  refine lv_iload_n hx hb dL_fill_6 rfl (lv_at hl 3 rfl) ?_
  refine kcX (E0 := "java/lang/IllegalStateException") (kVX (As := [.int a1, .int a2, .int a3]) ⟨hx, hb, hml, hown, hts⟩ (kX5_fillx l D cy sa h m_day m_coins m_felts m_made m_worth m_rags m_water m_pulp m_beat m_sort m_nM m_mark m_size m_worn m_nT m_skill m_vat m_pair m_nQ m_allS m_pmark m_pgrade m_psheets m_loft t_day t_coins t_felts t_made t_worth t_rags t_water t_pulp t_beat t_sort t_nM t_mark t_size t_worn t_nT t_skill t_vat t_pair t_nQ t_allS t_pmark t_pgrade t_psheets t_loft a1 a2 a3 hst 2 hF _) (cwV 3 hts gL_fill_X5_fill rfl rfl rfl (by decide +kernel) ⟨Nat.le_of_ble_eq_true rfl, Nat.le_of_ble_eq_true rfl⟩) hK hP hD hS hA hG [0, 1, 2, 3, 4, 5, 6, 7, 8, 9, 10, 11, 12, 13, 14, 15, 16, 17, 18, 19, 20, 21, 22, 23, 24, 25, 26, 27, 28, 29, 30, 31, 32, 33, 34, 35, 36, 37, 38, 39, 40] hcX5L_X5_0 ndX5_0 gtX5_0 rfl rfl rfl hl.1 [.int 0, .ref g] rfl (Nat.le_of_ble_eq_true rfl) dL_fill_7 ⟨Nat.le_of_ble_eq_true rfl, Nat.le_of_ble_eq_true rfl⟩) hP hD hS hA [0, 1, 2, 3, 4, 5, 6, 7, 8, 9, 10, 11, 12, 13, 14, 15, 16, 17, 18, 19, 20, 21, 22, 23, 24, 25, 26, 27, 28, 29, 30, 31, 32, 33, 34, 35, 36, 37, 38, 39, 40] hcX5L_X5_0 (fun ce q9 H locs hP hS hc9 hv9 hE9 => ?_)
  refine vx_catch (own := RL) (name := "java/lang/IllegalStateException") (E := "java/lang/IllegalStateException") hown [⟨0, 12, 15, 13⟩, ⟨0, 12, 19, 15⟩] ⟨0, 12, 23, 17⟩ [] htab (List.forall_mem_cons.mpr ⟨Or.inr ⟨by decide, "java/lang/IndexOutOfBoundsException", hts _ (by decide +kernel), hG.1.2.1 ("java/lang/IllegalStateException", "java/lang/IndexOutOfBoundsException") (by decide +kernel)⟩, List.forall_mem_cons.mpr ⟨Or.inr ⟨by decide, "java/lang/IllegalArgumentException", hts _ (by decide +kernel), hG.1.2.1 ("java/lang/IllegalStateException", "java/lang/IllegalArgumentException") (by decide +kernel)⟩, fun _ h9 => absurd h9 List.not_mem_nil⟩⟩) (by decide) (by decide) (hts (.classLink RL 17 "java/lang/IllegalStateException") (by decide +kernel)) (va_Nw.use rfl (hG.1.1 _ (by decide +kernel))) hc9 hv9 hE9 ?_
  refine lv_astore (lv' := [(5, .ref q9), (0, .ref (h 0)), (1, .int a1), (2, .int a2), (3, .int a3), (4, .ref g)]) hx hb dL_fill_23 hl (by decide) rfl (fun ls hl => ?_)
  refine lv_iconst (v := 3) hx hb dL_fill_25 (by decide) ?_
  exact hQ _ _ _ _ _ _ (fun _ => 0) dL_fill_26 hP hD hS (Nat.le_of_ble_eq_true rfl) (Nat.le_of_ble_eq_true rfl)
def fL_fill (m_rags : FN) (m_pulp : FN) (m_beat : FN) (m_sort : FN) (a1 : Int32) (a2 : Int32) (a3 : Int32) (lo : Nat → Int64) : Option (Int32 × FN × FN × FN × FN × (Nat → Int64)) := match fX5_fill m_rags m_pulp m_beat m_sort a1 a2 a3 with
  | some (.inl z) => some (0, z.2.1, z.2.2.1, z.2.2.2.1, z.2.2.2.2, vp_updL lo (0 : Int32).toNatClampNeg z.1.toInt64)
  | some (.inr kx) => if kx = 0 then some (1, m_rags, m_pulp, m_beat, m_sort, lo) else if kx = 1 then some (2, m_rags, m_pulp, m_beat, m_sort, lo) else if kx = 2 then some (3, m_rags, m_pulp, m_beat, m_sort, lo) else none
  | none => none
set_option maxHeartbeats 4000000 in
set_option maxRecDepth 100000 in
theorem kL_fill (l : Launch) (D : va_G) (cy : Nat → ClassId) (sa : Nat → Nat) (h : Nat → Nat) (m_day : Int32) (m_coins : Int32) (m_felts : Int32) (m_made : Int32) (m_worth : Int32) (m_rags : FN) (m_water : FN) (m_pulp : FN) (m_beat : FN) (m_sort : FN) (m_nM : Int32) (m_mark : FN) (m_size : FN) (m_worn : FN) (m_nT : Int32) (m_skill : FN) (m_vat : FN) (m_pair : FN) (m_nQ : Int32) (m_allS : Int32) (m_pmark : FN) (m_pgrade : FN) (m_psheets : FN) (m_loft : FN) (t_day : Int32) (t_coins : Int32) (t_felts : Int32) (t_made : Int32) (t_worth : Int32) (t_rags : FN) (t_water : FN) (t_pulp : FN) (t_beat : FN) (t_sort : FN) (t_nM : Int32) (t_mark : FN) (t_size : FN) (t_worn : FN) (t_nT : Int32) (t_skill : FN) (t_vat : FN) (t_pair : FN) (t_nQ : Int32) (t_allS : Int32) (t_pmark : FN) (t_pgrade : FN) (t_psheets : FN) (t_loft : FN) (g : Nat) (lo : Nat → Int64) (a1 : Int32) (a2 : Int32) (a3 : Int32) (hst : l.stackTraces = false) (z : Int32 × FN × FN × FN × FN × (Nat → Int64)) (hF : fL_fill m_rags m_pulp m_beat m_sort a1 a2 a3 lo = some z) : KI l D (tyW cy) sa yL_fill wsL_fill rL_fill [.ref (h 0), .int a1, .int a2, .int a3, .ref g] (wX5L cy h m_day m_coins m_felts m_made m_worth m_rags m_water m_pulp m_beat m_sort m_nM m_mark m_size m_worn m_nT m_skill m_vat m_pair m_nQ m_allS m_pmark m_pgrade m_psheets m_loft t_day t_coins t_felts t_made t_worth t_rags t_water t_pulp t_beat t_sort t_nM t_mark t_size t_worn t_nT t_skill t_vat t_pair t_nQ t_allS t_pmark t_pgrade t_psheets t_loft g lo) z.1 (fun _ => wX5L cy h m_day m_coins m_felts m_made m_worth z.2.1 m_water z.2.2.1 z.2.2.2.1 z.2.2.2.2.1 m_nM m_mark m_size m_worn m_nT m_skill m_vat m_pair m_nQ m_allS m_pmark m_pgrade m_psheets m_loft t_day t_coins t_felts t_made t_worth t_rags t_water t_pulp t_beat t_sort t_nM t_mark t_size t_worn t_nT t_skill t_vat t_pair t_nQ t_allS t_pmark t_pgrade t_psheets t_loft g z.2.2.2.2.2) 1 6 := by
  unfold fL_fill at hF
  cases ho : fX5_fill m_rags m_pulp m_beat m_sort a1 a2 a3 with
  | none =>
    rw [ho] at hF
    cases hF
  | some o =>
    cases o with
    | inl z0 =>
      rw [ho] at hF
      cases hF
      exact kL_fill_ok l D cy sa h m_day m_coins m_felts m_made m_worth m_rags m_water m_pulp m_beat m_sort m_nM m_mark m_size m_worn m_nT m_skill m_vat m_pair m_nQ m_allS m_pmark m_pgrade m_psheets m_loft t_day t_coins t_felts t_made t_worth t_rags t_water t_pulp t_beat t_sort t_nM t_mark t_size t_worn t_nT t_skill t_vat t_pair t_nQ t_allS t_pmark t_pgrade t_psheets t_loft g lo a1 a2 a3 z0 ho
    | inr kx =>
      rw [ho] at hF
      replace hF : (if kx = 0 then some (1, m_rags, m_pulp, m_beat, m_sort, lo) else if kx = 1 then some (2, m_rags, m_pulp, m_beat, m_sort, lo) else if kx = 2 then some (3, m_rags, m_pulp, m_beat, m_sort, lo) else none) = some z := hF
      by_cases c0 : kx = 0
      · subst c0
        replace hF := if_t hF rfl
        cases hF
        exact kL_fill_x0 l D cy sa h m_day m_coins m_felts m_made m_worth m_rags m_water m_pulp m_beat m_sort m_nM m_mark m_size m_worn m_nT m_skill m_vat m_pair m_nQ m_allS m_pmark m_pgrade m_psheets m_loft t_day t_coins t_felts t_made t_worth t_rags t_water t_pulp t_beat t_sort t_nM t_mark t_size t_worn t_nT t_skill t_vat t_pair t_nQ t_allS t_pmark t_pgrade t_psheets t_loft g lo a1 a2 a3 hst ho
      · replace hF := if_f hF c0
        by_cases c1 : kx = 1
        · subst c1
          replace hF := if_t hF rfl
          cases hF
          exact kL_fill_x1 l D cy sa h m_day m_coins m_felts m_made m_worth m_rags m_water m_pulp m_beat m_sort m_nM m_mark m_size m_worn m_nT m_skill m_vat m_pair m_nQ m_allS m_pmark m_pgrade m_psheets m_loft t_day t_coins t_felts t_made t_worth t_rags t_water t_pulp t_beat t_sort t_nM t_mark t_size t_worn t_nT t_skill t_vat t_pair t_nQ t_allS t_pmark t_pgrade t_psheets t_loft g lo a1 a2 a3 hst ho
        · replace hF := if_f hF c1
          by_cases c2 : kx = 2
          · subst c2
            replace hF := if_t hF rfl
            cases hF
            exact kL_fill_x2 l D cy sa h m_day m_coins m_felts m_made m_worth m_rags m_water m_pulp m_beat m_sort m_nM m_mark m_size m_worn m_nT m_skill m_vat m_pair m_nQ m_allS m_pmark m_pgrade m_psheets m_loft t_day t_coins t_felts t_made t_worth t_rags t_water t_pulp t_beat t_sort t_nM t_mark t_size t_worn t_nT t_skill t_vat t_pair t_nQ t_allS t_pmark t_pgrade t_psheets t_loft g lo a1 a2 a3 hst ho
          · replace hF := if_f hF c2
            cases hF

abbrev rL_drain : Room := { frames := 7, cells := 1, slots := 6, locals := 120 }
set_option maxHeartbeats 4000000 in
set_option maxRecDepth 100000 in
theorem kL_drain_ok (l : Launch) (D : va_G) (cy : Nat → ClassId) (sa : Nat → Nat) (h : Nat → Nat) (m_day : Int32) (m_coins : Int32) (m_felts : Int32) (m_made : Int32) (m_worth : Int32) (m_rags : FN) (m_water : FN) (m_pulp : FN) (m_beat : FN) (m_sort : FN) (m_nM : Int32) (m_mark : FN) (m_size : FN) (m_worn : FN) (m_nT : Int32) (m_skill : FN) (m_vat : FN) (m_pair : FN) (m_nQ : Int32) (m_allS : Int32) (m_pmark : FN) (m_pgrade : FN) (m_psheets : FN) (m_loft : FN) (t_day : Int32) (t_coins : Int32) (t_felts : Int32) (t_made : Int32) (t_worth : Int32) (t_rags : FN) (t_water : FN) (t_pulp : FN) (t_beat : FN) (t_sort : FN) (t_nM : Int32) (t_mark : FN) (t_size : FN) (t_worn : FN) (t_nT : Int32) (t_skill : FN) (t_vat : FN) (t_pair : FN) (t_nQ : Int32) (t_allS : Int32) (t_pmark : FN) (t_pgrade : FN) (t_psheets : FN) (t_loft : FN) (g : Nat) (lo : Nat → Int64) (a1 : Int32) (z : Int32 × FN × FN × FN) (hF : fX5_drain m_pulp m_beat m_sort a1 = some (.inl z)) : KI l D (tyW cy) sa yL_drain wsL_drain rL_drain [.ref (h 0), .int a1, .ref g] (wX5L cy h m_day m_coins m_felts m_made m_worth m_rags m_water m_pulp m_beat m_sort m_nM m_mark m_size m_worn m_nT m_skill m_vat m_pair m_nQ m_allS m_pmark m_pgrade m_psheets m_loft t_day t_coins t_felts t_made t_worth t_rags t_water t_pulp t_beat t_sort t_nM t_mark t_size t_worn t_nT t_skill t_vat t_pair t_nQ t_allS t_pmark t_pgrade t_psheets t_loft g lo) 0 (fun _ => wX5L cy h m_day m_coins m_felts m_made m_worth m_rags m_water z.2.1 z.2.2.1 z.2.2.2 m_nM m_mark m_size m_worn m_nT m_skill m_vat m_pair m_nQ m_allS m_pmark m_pgrade m_psheets m_loft t_day t_coins t_felts t_made t_worth t_rags t_water t_pulp t_beat t_sort t_nM t_mark t_size t_worn t_nT t_skill t_vat t_pair t_nQ t_allS t_pmark t_pgrade t_psheets t_loft g (vp_updL lo (0 : Int32).toNatClampNeg z.1.toInt64)) 1 6 := by
  refine KI.ofH (cc := cL_drain) (maxL := 4) (hh := [(0, 9, 12, 13), (0, 9, 15, 17)]) (by decide +kernel) rfl (Nat.le_of_ble_eq_true rfl) ?_
  intro p e s m args below meth c A ls Q hE htab hQ
  obtain ⟨hx, hb, hml, hown, hts, hA, hP, hK, hD, hG, hl, hnm⟩ := hE
  replace hown : s.vm.findClass RL = some m.cls := hown
  replace hl : lv_has ls 4 [(0, .ref (h 0)), (1, .int a1), (2, .ref g)] := hl
  have hS : va_S A s.heap s.heap [] := va_S.rf
  refine lv_aload_n hx hb dL_drain_0 rfl (lv_at hl 2 rfl) ?_
  refine lv_iconst (v := 0) hx hb dL_drain_1 (by decide) ?_
  refine lv_aload_n hx hb dL_drain_2 rfl (lv_at hl 0 rfl) ?_
  refine lv_iload_n hx hb dL_drain_3 rfl (lv_at hl 1 rfl) ?_
  refine kwIE (kV (As := [.int a1]) ⟨hx, hb, hml, hown, hts⟩ (kX5_drain l D cy sa h m_day m_coins m_felts m_made m_worth m_rags m_water m_pulp m_beat m_sort m_nM m_mark m_size m_worn m_nT m_skill m_vat m_pair m_nQ m_allS m_pmark m_pgrade m_psheets m_loft t_day t_coins t_felts t_made t_worth t_rags t_water t_pulp t_beat t_sort t_nM t_mark t_size t_worn t_nT t_skill t_vat t_pair t_nQ t_allS t_pmark t_pgrade t_psheets t_loft a1 z hF _) (cwV 1 hts gL_drain_X5_drain rfl rfl rfl (by decide +kernel) ⟨Nat.le_of_ble_eq_true rfl, Nat.le_of_ble_eq_true rfl⟩) hK hP hD hS hA hG [0, 1, 2, 3, 4, 5, 6, 7, 8, 9, 10, 11, 12, 13, 14, 15, 16, 17, 18, 19, 20, 21, 22, 23, 24, 25, 26, 27, 28, 29, 30, 31, 32, 33, 34, 35, 36, 37, 38, 39, 40] hcX5L_X5_0 ndX5_0 gtX5_0 rfl rfl rfl hl.1 [.int 0, .ref g] rfl (Nat.le_of_ble_eq_true rfl) dL_drain_4 ⟨Nat.le_of_ble_eq_true rfl, Nat.le_of_ble_eq_true rfl⟩) hP hD hS hA [0, 1, 2, 3, 4, 5, 6, 7, 8, 9, 10, 11, 12, 13, 14, 15, 16, 17, 18, 19, 20, 21, 22, 23, 24, 25, 26, 27, 28, 29, 30, 31, 32, 33, 34, 35, 36, 37, 38, 39, 40] hcX5L_X5_0 hmX5 kpX5L_X5_0 (fun H locs hP hD hS => ?_)
  refine lv_i2l hx hb dL_drain_7 rfl ?_
  refine va_last hx hb hK hP hD hS 41 2 gtX5L_41 rfl (show ¬ ((0 : Int32) < 0 ∨ 1 ≤ (0 : Int32).toNatClampNeg) from by decide) dL_drain_8 (fun H locs hP hD hS => ?_)
  rw [stLX5L] at hP hD
  refine lv_goto (tgt := 18) hx hb dL_drain_9 (by decide) ?_
  refine lv_iconst (v := 0) hx hb dL_drain_18 (by decide) ?_
  exact hQ _ _ _ _ _ _ (fun _ => 0) dL_drain_19 hP hD hS (Nat.le_of_ble_eq_true rfl) (Nat.le_of_ble_eq_true rfl)
set_option maxHeartbeats 4000000 in
set_option maxRecDepth 100000 in
theorem kL_drain_x0 (l : Launch) (D : va_G) (cy : Nat → ClassId) (sa : Nat → Nat) (h : Nat → Nat) (m_day : Int32) (m_coins : Int32) (m_felts : Int32) (m_made : Int32) (m_worth : Int32) (m_rags : FN) (m_water : FN) (m_pulp : FN) (m_beat : FN) (m_sort : FN) (m_nM : Int32) (m_mark : FN) (m_size : FN) (m_worn : FN) (m_nT : Int32) (m_skill : FN) (m_vat : FN) (m_pair : FN) (m_nQ : Int32) (m_allS : Int32) (m_pmark : FN) (m_pgrade : FN) (m_psheets : FN) (m_loft : FN) (t_day : Int32) (t_coins : Int32) (t_felts : Int32) (t_made : Int32) (t_worth : Int32) (t_rags : FN) (t_water : FN) (t_pulp : FN) (t_beat : FN) (t_sort : FN) (t_nM : Int32) (t_mark : FN) (t_size : FN) (t_worn : FN) (t_nT : Int32) (t_skill : FN) (t_vat : FN) (t_pair : FN) (t_nQ : Int32) (t_allS : Int32) (t_pmark : FN) (t_pgrade : FN) (t_psheets : FN) (t_loft : FN) (g : Nat) (lo : Nat → Int64) (a1 : Int32) (hst : l.stackTraces = false) (hF : fX5_drain m_pulp m_beat m_sort a1 = some (.inr 0)) : KI l D (tyW cy) sa yL_drain wsL_drain rL_drain [.ref (h 0), .int a1, .ref g] (wX5L cy h m_day m_coins m_felts m_made m_worth m_rags m_water m_pulp m_beat m_sort m_nM m_mark m_size m_worn m_nT m_skill m_vat m_pair m_nQ m_allS m_pmark m_pgrade m_psheets m_loft t_day t_coins t_felts t_made t_worth t_rags t_water t_pulp t_beat t_sort t_nM t_mark t_size t_worn t_nT t_skill t_vat t_pair t_nQ t_allS t_pmark t_pgrade t_psheets t_loft g lo) 1 (fun _ => wX5L cy h m_day m_coins m_felts m_made m_worth m_rags m_water m_pulp m_beat m_sort m_nM m_mark m_size m_worn m_nT m_skill m_vat m_pair m_nQ m_allS m_pmark m_pgrade m_psheets m_loft t_day t_coins t_felts t_made t_worth t_rags t_water t_pulp t_beat t_sort t_nM t_mark t_size t_worn t_nT t_skill t_vat t_pair t_nQ t_allS t_pmark t_pgrade t_psheets t_loft g lo) 1 6 := by
  refine KI.ofH (cc := cL_drain) (maxL := 4) (hh := [(0, 9, 12, 13), (0, 9, 15, 17)]) (by decide +kernel) rfl (Nat.le_of_ble_eq_true rfl) ?_
  intro p e s m args below meth c A ls Q hE htab hQ
  obtain ⟨hx, hb, hml, hown, hts, hA, hP, hK, hD, hG, hl, hnm⟩ := hE
  replace hown : s.vm.findClass RL = some m.cls := hown
  replace hl : lv_has ls 4 [(0, .ref (h 0)), (1, .int a1), (2, .ref g)] := hl
  have hS : va_S A s.heap s.heap [] := va_S.rf
  refine lv_aload_n hx hb dL_drain_0 rfl (lv_at hl 2 rfl) ?_
  refine lv_iconst (v := 0) hx hb dL_drain_1 (by decide) ?_
  refine lv_aload_n hx hb dL_drain_2 rfl (lv_at hl 0 rfl) ?_
  refine lv_iload_n hx hb dL_drain_3 rfl (lv_at hl 1 rfl) ?_
  refine kcX (E0 := "java/lang/IndexOutOfBoundsException") (kVX (As := [.int a1]) ⟨hx, hb, hml, hown, hts⟩ (kX5_drainx l D cy sa h m_day m_coins m_felts m_made m_worth m_rags m_water m_pulp m_beat m_sort m_nM m_mark m_size m_worn m_nT m_skill m_vat m_pair m_nQ m_allS m_pmark m_pgrade m_psheets m_loft t_day t_coins t_felts t_made t_worth t_rags t_water t_pulp t_beat t_sort t_nM t_mark t_size t_worn t_nT t_skill t_vat t_pair t_nQ t_allS t_pmark t_pgrade t_psheets t_loft a1 hst 0 hF _) (cwV 1 hts gL_drain_X5_drain rfl rfl rfl (by decide +kernel) ⟨Nat.le_of_ble_eq_true rfl, Nat.le_of_ble_eq_true rfl⟩) hK hP hD hS hA hG [0, 1, 2, 3, 4, 5, 6, 7, 8, 9, 10, 11, 12, 13, 14, 15, 16, 17, 18, 19, 20, 21, 22, 23, 24, 25, 26, 27, 28, 29, 30, 31, 32, 33, 34, 35, 36, 37, 38, 39, 40] hcX5L_X5_0 ndX5_0 gtX5_0 rfl rfl rfl hl.1 [.int 0, .ref g] rfl (Nat.le_of_ble_eq_true rfl) dL_drain_4 ⟨Nat.le_of_ble_eq_true rfl, Nat.le_of_ble_eq_true rfl⟩) hP hD hS hA [0, 1, 2, 3, 4, 5, 6, 7, 8, 9, 10, 11, 12, 13, 14, 15, 16, 17, 18, 19, 20, 21, 22, 23, 24, 25, 26, 27, 28, 29, 30, 31, 32, 33, 34, 35, 36, 37, 38, 39, 40] hcX5L_X5_0 (fun ce q9 H locs hP hS hc9 hv9 hE9 => ?_)
  refine vx_catch (own := RL) (name := "java/lang/IndexOutOfBoundsException") (E := "java/lang/IndexOutOfBoundsException") hown [] ⟨0, 9, 12, 13⟩ [⟨0, 9, 15, 17⟩] htab (fun z hz => by cases hz) (by decide) (by decide) (hts (.classLink RL 13 "java/lang/IndexOutOfBoundsException") (by decide +kernel)) (va_Nw.use rfl (hG.1.1 _ (by decide +kernel))) hc9 hv9 hE9 ?_
  refine lv_astore_n (lv' := [(3, .ref q9), (0, .ref (h 0)), (1, .int a1), (2, .ref g)]) hx hb dL_drain_12 rfl hl (by decide) rfl (fun ls hl => ?_)
  refine lv_iconst (v := 1) hx hb dL_drain_13 (by decide) ?_
  exact hQ _ _ _ _ _ _ (fun _ => 0) dL_drain_14 hP hD hS (Nat.le_of_ble_eq_true rfl) (Nat.le_of_ble_eq_true rfl)
set_option maxHeartbeats 4000000 in
set_option maxRecDepth 100000 in
theorem kL_drain_x2 (l : Launch) (D : va_G) (cy : Nat → ClassId) (sa : Nat → Nat) (h : Nat → Nat) (m_day : Int32) (m_coins : Int32) (m_felts : Int32) (m_made : Int32) (m_worth : Int32) (m_rags : FN) (m_water : FN) (m_pulp : FN) (m_beat : FN) (m_sort : FN) (m_nM : Int32) (m_mark : FN) (m_size : FN) (m_worn : FN) (m_nT : Int32) (m_skill : FN) (m_vat : FN) (m_pair : FN) (m_nQ : Int32) (m_allS : Int32) (m_pmark : FN) (m_pgrade : FN) (m_psheets : FN) (m_loft : FN) (t_day : Int32) (t_coins : Int32) (t_felts : Int32) (t_made : Int32) (t_worth : Int32) (t_rags : FN) (t_water : FN) (t_pulp : FN) (t_beat : FN) (t_sort : FN) (t_nM : Int32) (t_mark : FN) (t_size : FN) (t_worn : FN) (t_nT : Int32) (t_skill : FN) (t_vat : FN) (t_pair : FN) (t_nQ : Int32) (t_allS : Int32) (t_pmark : FN) (t_pgrade : FN) (t_psheets : FN) (t_loft : FN) (g : Nat) (lo : Nat → Int64) (a1 : Int32) (hst : l.stackTraces = false) (hF : fX5_drain m_pulp m_beat m_sort a1 = some (.inr 2)) : KI l D (tyW cy) sa yL_drain wsL_drain rL_drain [.ref (h 0), .int a1, .ref g] (wX5L cy h m_day m_coins m_felts m_made m_worth m_rags m_water m_pulp m_beat m_sort m_nM m_mark m_size m_worn m_nT m_skill m_vat m_pair m_nQ m_allS m_pmark m_pgrade m_psheets m_loft t_day t_coins t_felts t_made t_worth t_rags t_water t_pulp t_beat t_sort t_nM t_mark t_size t_worn t_nT t_skill t_vat t_pair t_nQ t_allS t_pmark t_pgrade t_psheets t_loft g lo) 2 (fun _ => wX5L cy h m_day m_coins m_felts m_made m_worth m_rags m_water m_pulp m_beat m_sort m_nM m_mark m_size m_worn m_nT m_skill m_vat m_pair m_nQ m_allS m_pmark m_pgrade m_psheets m_loft t_day t_coins t_felts t_made t_worth t_rags t_water t_pulp t_beat t_sort t_nM t_mark t_size t_worn t_nT t_skill t_vat t_pair t_nQ t_allS t_pmark t_pgrade t_psheets t_loft g lo) 1 6 := by
  refine KI.ofH (cc := cL_drain) (maxL := 4) (hh := [(0, 9, 12, 13), (0, 9, 15, 17)]) (by decide +kernel) rfl (Nat.le_of_ble_eq_true rfl) ?_
  intro p e s m args below meth c A ls Q hE htab hQ
  obtain ⟨hx, hb, hml, hown, hts, hA, hP, hK, hD, hG, hl, hnm⟩ := hE
  replace hown : s.vm.findClass RL = some m.cls := hown
  replace hl : lv_has ls 4 [(0, .ref (h 0)), (1, .int a1), (2, .ref g)] := hl
  have hS : va_S A s.heap s.heap [] := va_S.rf
  refine lv_aload_n hx hb dL_drain_0 rfl (lv_at hl 2 rfl) ?_
  refine lv_iconst (v := 0) hx hb dL_drain_1 (by decide) ?_
  refine lv_aload_n hx hb dL_drain_2 rfl (lv_at hl 0 rfl) ?_
  refine lv_iload_n hx hb dL_drain_3 rfl (lv_at hl 1 rfl) ?_
  refine kcX (E0 := "java/lang/IllegalStateException") (kVX (As := [.int a1]) ⟨hx, hb, hml, hown, hts⟩ (kX5_drainx l D cy sa h m_day m_coins m_felts m_made m_worth m_rags m_water m_pulp m_beat m_sort m_nM m_mark m_size m_worn m_nT m_skill m_vat m_pair m_nQ m_allS m_pmark m_pgrade m_psheets m_loft t_day t_coins t_felts t_made t_worth t_rags t_water t_pulp t_beat t_sort t_nM t_mark t_size t_worn t_nT t_skill t_vat t_pair t_nQ t_allS t_pmark t_pgrade t_psheets t_loft a1 hst 2 hF _) (cwV 1 hts gL_drain_X5_drain rfl rfl rfl (by decide +kernel) ⟨Nat.le_of_ble_eq_true rfl, Nat.le_of_ble_eq_true rfl⟩) hK hP hD hS hA hG [0, 1, 2, 3, 4, 5, 6, 7, 8, 9, 10, 11, 12, 13, 14, 15, 16, 17, 18, 19, 20, 21, 22, 23, 24, 25, 26, 27, 28, 29, 30, 31, 32, 33, 34, 35, 36, 37, 38, 39, 40] hcX5L_X5_0 ndX5_0 gtX5_0 rfl rfl rfl hl.1 [.int 0, .ref g] rfl (Nat.le_of_ble_eq_true rfl) dL_drain_4 ⟨Nat.le_of_ble_eq_true rfl, Nat.le_of_ble_eq_true rfl⟩) hP hD hS hA [0, 1, 2, 3, 4, 5, 6, 7, 8, 9, 10, 11, 12, 13, 14, 15, 16, 17, 18, 19, 20, 21, 22, 23, 24, 25, 26, 27, 28, 29, 30, 31, 32, 33, 34, 35, 36, 37, 38, 39, 40] hcX5L_X5_0 (fun ce q9 H locs hP hS hc9 hv9 hE9 => ?_)
  refine vx_catch (own := RL) (name := "java/lang/IllegalStateException") (E := "java/lang/IllegalStateException") hown [⟨0, 9, 12, 13⟩] ⟨0, 9, 15, 17⟩ [] htab (List.forall_mem_cons.mpr ⟨Or.inr ⟨by decide, "java/lang/IndexOutOfBoundsException", hts _ (by decide +kernel), hG.1.2.1 ("java/lang/IllegalStateException", "java/lang/IndexOutOfBoundsException") (by decide +kernel)⟩, fun _ h9 => absurd h9 List.not_mem_nil⟩) (by decide) (by decide) (hts (.classLink RL 17 "java/lang/IllegalStateException") (by decide +kernel)) (va_Nw.use rfl (hG.1.1 _ (by decide +kernel))) hc9 hv9 hE9 ?_
  refine lv_astore_n (lv' := [(3, .ref q9), (0, .ref (h 0)), (1, .int a1), (2, .ref g)]) hx hb dL_drain_15 rfl hl (by decide) rfl (fun ls hl => ?_)
  refine lv_iconst (v := 2) hx hb dL_drain_16 (by decide) ?_
  exact hQ _ _ _ _ _ _ (fun _ => 0) dL_drain_17 hP hD hS (Nat.le_of_ble_eq_true rfl) (Nat.le_of_ble_eq_true rfl)
def fL_drain (m_pulp : FN) (m_beat : FN) (m_sort : FN) (a1 : Int32) (lo : Nat → Int64) : Option (Int32 × FN × FN × FN × (Nat → Int64)) := match fX5_drain m_pulp m_beat m_sort a1 with
  | some (.inl z) => some (0, z.2.1, z.2.2.1, z.2.2.2, vp_updL lo (0 : Int32).toNatClampNeg z.1.toInt64)
  | some (.inr kx) => if kx = 0 then some (1, m_pulp, m_beat, m_sort, lo) else if kx = 2 then some (2, m_pulp, m_beat, m_sort, lo) else none
  | none => none
set_option maxHeartbeats 4000000 in
set_option maxRecDepth 100000 in
theorem kL_drain (l : Launch) (D : va_G) (cy : Nat → ClassId) (sa : Nat → Nat) (h : Nat → Nat) (m_day : Int32) (m_coins : Int32) (m_felts : Int32) (m_made : Int32) (m_worth : Int32) (m_rags : FN) (m_water : FN) (m_pulp : FN) (m_beat : FN) (m_sort : FN) (m_nM : Int32) (m_mark : FN) (m_size : FN) (m_worn : FN) (m_nT : Int32) (m_skill : FN) (m_vat : FN) (m_pair : FN) (m_nQ : Int32) (m_allS : Int32) (m_pmark : FN) (m_pgrade : FN) (m_psheets : FN) (m_loft : FN) (t_day : Int32) (t_coins : Int32) (t_felts : Int32) (t_made : Int32) (t_worth : Int32) (t_rags : FN) (t_water : FN) (t_pulp : FN) (t_beat : FN) (t_sort : FN) (t_nM : Int32) (t_mark : FN) (t_size : FN) (t_worn : FN) (t_nT : Int32) (t_skill : FN) (t_vat : FN) (t_pair : FN) (t_nQ : Int32) (t_allS : Int32) (t_pmark : FN) (t_pgrade : FN) (t_psheets : FN) (t_loft : FN) (g : Nat) (lo : Nat → Int64) (a1 : Int32) (hst : l.stackTraces = false) (z : Int32 × FN × FN × FN × (Nat → Int64)) (hF : fL_drain m_pulp m_beat m_sort a1 lo = some z) : KI l D (tyW cy) sa yL_drain wsL_drain rL_drain [.ref (h 0), .int a1, .ref g] (wX5L cy h m_day m_coins m_felts m_made m_worth m_rags m_water m_pulp m_beat m_sort m_nM m_mark m_size m_worn m_nT m_skill m_vat m_pair m_nQ m_allS m_pmark m_pgrade m_psheets m_loft t_day t_coins t_felts t_made t_worth t_rags t_water t_pulp t_beat t_sort t_nM t_mark t_size t_worn t_nT t_skill t_vat t_pair t_nQ t_allS t_pmark t_pgrade t_psheets t_loft g lo) z.1 (fun _ => wX5L cy h m_day m_coins m_felts m_made m_worth m_rags m_water z.2.1 z.2.2.1 z.2.2.2.1 m_nM m_mark m_size m_worn m_nT m_skill m_vat m_pair m_nQ m_allS m_pmark m_pgrade m_psheets m_loft t_day t_coins t_felts t_made t_worth t_rags t_water t_pulp t_beat t_sort t_nM t_mark t_size t_worn t_nT t_skill t_vat t_pair t_nQ t_allS t_pmark t_pgrade t_psheets t_loft g z.2.2.2.2) 1 6 := by
  unfold fL_drain at hF
  cases ho : fX5_drain m_pulp m_beat m_sort a1 with
  | none =>
    rw [ho] at hF
    cases hF
  | some o =>
    cases o with
    | inl z0 =>
      rw [ho] at hF
      cases hF
      exact kL_drain_ok l D cy sa h m_day m_coins m_felts m_made m_worth m_rags m_water m_pulp m_beat m_sort m_nM m_mark m_size m_worn m_nT m_skill m_vat m_pair m_nQ m_allS m_pmark m_pgrade m_psheets m_loft t_day t_coins t_felts t_made t_worth t_rags t_water t_pulp t_beat t_sort t_nM t_mark t_size t_worn t_nT t_skill t_vat t_pair t_nQ t_allS t_pmark t_pgrade t_psheets t_loft g lo a1 z0 ho
    | inr kx =>
      rw [ho] at hF
      replace hF : (if kx = 0 then some (1, m_pulp, m_beat, m_sort, lo) else if kx = 2 then some (2, m_pulp, m_beat, m_sort, lo) else none) = some z := hF
      by_cases c0 : kx = 0
      · subst c0
        replace hF := if_t hF rfl
        cases hF
        exact kL_drain_x0 l D cy sa h m_day m_coins m_felts m_made m_worth m_rags m_water m_pulp m_beat m_sort m_nM m_mark m_size m_worn m_nT m_skill m_vat m_pair m_nQ m_allS m_pmark m_pgrade m_psheets m_loft t_day t_coins t_felts t_made t_worth t_rags t_water t_pulp t_beat t_sort t_nM t_mark t_size t_worn t_nT t_skill t_vat t_pair t_nQ t_allS t_pmark t_pgrade t_psheets t_loft g lo a1 hst ho
      · replace hF := if_f hF c0
        by_cases c2 : kx = 2
        · subst c2
          replace hF := if_t hF rfl
          cases hF
          exact kL_drain_x2 l D cy sa h m_day m_coins m_felts m_made m_worth m_rags m_water m_pulp m_beat m_sort m_nM m_mark m_size m_worn m_nT m_skill m_vat m_pair m_nQ m_allS m_pmark m_pgrade m_psheets m_loft t_day t_coins t_felts t_made t_worth t_rags t_water t_pulp t_beat t_sort t_nM t_mark t_size t_worn t_nT t_skill t_vat t_pair t_nQ t_allS t_pmark t_pgrade t_psheets t_loft g lo a1 hst ho
        · replace hF := if_f hF c2
          cases hF

abbrev rL_pair : Room := { frames := 7, cells := 1, slots := 6, locals := 120 }
set_option maxHeartbeats 4000000 in
set_option maxRecDepth 100000 in
theorem kL_pair_ok (l : Launch) (D : va_G) (cy : Nat → ClassId) (sa : Nat → Nat) (h : Nat → Nat) (m_day : Int32) (m_coins : Int32) (m_felts : Int32) (m_made : Int32) (m_worth : Int32) (m_rags : FN) (m_water : FN) (m_pulp : FN) (m_beat : FN) (m_sort : FN) (m_nM : Int32) (m_mark : FN) (m_size : FN) (m_worn : FN) (m_nT : Int32) (m_skill : FN) (m_vat : FN) (m_pair : FN) (m_nQ : Int32) (m_allS : Int32) (m_pmark : FN) (m_pgrade : FN) (m_psheets : FN) (m_loft : FN) (t_day : Int32) (t_coins : Int32) (t_felts : Int32) (t_made : Int32) (t_worth : Int32) (t_rags : FN) (t_water : FN) (t_pulp : FN) (t_beat : FN) (t_sort : FN) (t_nM : Int32) (t_mark : FN) (t_size : FN) (t_worn : FN) (t_nT : Int32) (t_skill : FN) (t_vat : FN) (t_pair : FN) (t_nQ : Int32) (t_allS : Int32) (t_pmark : FN) (t_pgrade : FN) (t_psheets : FN) (t_loft : FN) (g : Nat) (lo : Nat → Int64) (a1 : Int32) (a2 : Int32) (z : Int32 × Int32 × FN × FN × FN) (hF : fX5_pair m_nM m_mark m_size m_worn a1 a2 = some (.inl z)) : KI l D (tyW cy) sa yL_pair wsL_pair rL_pair [.ref (h 0), .int a1, .int a2, .ref g] (wX5L cy h m_day m_coins m_felts m_made m_worth m_rags m_water m_pulp m_beat m_sort m_nM m_mark m_size m_worn m_nT m_skill m_vat m_pair m_nQ m_allS m_pmark m_pgrade m_psheets m_loft t_day t_coins t_felts t_made t_worth t_rags t_water t_pulp t_beat t_sort t_nM t_mark t_size t_worn t_nT t_skill t_vat t_pair t_nQ t_allS t_pmark t_pgrade t_psheets t_loft g lo) 0 (fun _ => wX5L cy h m_day m_coins m_felts m_made m_worth m_rags m_water m_pulp m_beat m_sort z.2.1 z.2.2.1 z.2.2.2.1 z.2.2.2.2 m_nT m_skill m_vat m_pair m_nQ m_allS m_pmark m_pgrade m_psheets m_loft t_day t_coins t_felts t_made t_worth t_rags t_water t_pulp t_beat t_sort t_nM t_mark t_size t_worn t_nT t_skill t_vat t_pair t_nQ t_allS t_pmark t_pgrade t_psheets t_loft g (vp_updL lo (0 : Int32).toNatClampNeg z.1.toInt64)) 1 6 := by
  refine KI.ofH (cc := cL_pair) (maxL := 5) (hh := [(0, 10, 13, 13), (0, 10, 17, 15), (0, 10, 21, 17)]) (by decide +kernel) rfl (Nat.le_of_ble_eq_true rfl) ?_
  intro p e s m args below meth c A ls Q hE htab hQ
  obtain ⟨hx, hb, hml, hown, hts, hA, hP, hK, hD, hG, hl, hnm⟩ := hE
  replace hown : s.vm.findClass RL = some m.cls := hown
  replace hl : lv_has ls 5 [(0, .ref (h 0)), (1, .int a1), (2, .int a2), (3, .ref g)] := hl
  have hS : va_S A s.heap s.heap [] := va_S.rf
  refine lv_aload_n hx hb dL_pair_0 rfl (lv_at hl 3 rfl) ?_
  refine lv_iconst (v := 0) hx hb dL_pair_1 (by decide) ?_
  refine lv_aload_n hx hb dL_pair_2 rfl (lv_at hl 0 rfl) ?_
  refine lv_iload_n hx hb dL_pair_3 rfl (lv_at hl 1 rfl) ?_
  refine lv_iload_n hx hb dL_pair_4 rfl (lv_at hl 2 rfl) ?_
  refine kwIE (kV (As := [.int a1, .int a2]) ⟨hx, hb, hml, hown, hts⟩ (kX5_pair l D cy sa h m_day m_coins m_felts m_made m_worth m_rags m_water m_pulp m_beat m_sort m_nM m_mark m_size m_worn m_nT m_skill m_vat m_pair m_nQ m_allS m_pmark m_pgrade m_psheets m_loft t_day t_coins t_felts t_made t_worth t_rags t_water t_pulp t_beat t_sort t_nM t_mark t_size t_worn t_nT t_skill t_vat t_pair t_nQ t_allS t_pmark t_pgrade t_psheets t_loft a1 a2 z hF _) (cwV 2 hts gL_pair_X5_pair rfl rfl rfl (by decide +kernel) ⟨Nat.le_of_ble_eq_true rfl, Nat.le_of_ble_eq_true rfl⟩) hK hP hD hS hA hG [0, 1, 2, 3, 4, 5, 6, 7, 8, 9, 10, 11, 12, 13, 14, 15, 16, 17, 18, 19, 20, 21, 22, 23, 24, 25, 26, 27, 28, 29, 30, 31, 32, 33, 34, 35, 36, 37, 38, 39, 40] hcX5L_X5_0 ndX5_0 gtX5_0 rfl rfl rfl hl.1 [.int 0, .ref g] rfl (Nat.le_of_ble_eq_true rfl) dL_pair_5 ⟨Nat.le_of_ble_eq_true rfl, Nat.le_of_ble_eq_true rfl⟩) hP hD hS hA [0, 1, 2, 3, 4, 5, 6, 7, 8, 9, 10, 11, 12, 13, 14, 15, 16, 17, 18, 19, 20, 21, 22, 23, 24, 25, 26, 27, 28, 29, 30, 31, 32, 33, 34, 35, 36, 37, 38, 39, 40] hcX5L_X5_0 hmX5 kpX5L_X5_0 (fun H locs hP hD hS => ?_)
  refine lv_i2l hx hb dL_pair_8 rfl ?_
  refine va_last hx hb hK hP hD hS 41 2 gtX5L_41 rfl (show ¬ ((0 : Int32) < 0 ∨ 1 ≤ (0 : Int32).toNatClampNeg) from by decide) dL_pair_9 (fun H locs hP hD hS => ?_)
  rw [stLX5L] at hP hD
  refine lv_goto (tgt := 25) hx hb dL_pair_10 (by decide) ?_
  refine lv_iconst (v := 0) hx hb dL_pair_25 (by decide) ?_
  exact hQ _ _ _ _ _ _ (fun _ => 0) dL_pair_26 hP hD hS (Nat.le_of_ble_eq_true rfl) (Nat.le_of_ble_eq_true rfl)
set_option maxHeartbeats 4000000 in
set_option maxRecDepth 100000 in
theorem kL_pair_x0 (l : Launch) (D : va_G) (cy : Nat → ClassId) (sa : Nat → Nat) (h : Nat → Nat) (m_day : Int32) (m_coins : Int32) (m_felts : Int32) (m_made : Int32) (m_worth : Int32) (m_rags : FN) (m_water : FN) (m_pulp : FN) (m_beat : FN) (m_sort : FN) (m_nM : Int32) (m_mark : FN) (m_size : FN) (m_worn : FN) (m_nT : Int32) (m_skill : FN) (m_vat : FN) (m_pair : FN) (m_nQ : Int32) (m_allS : Int32) (m_pmark : FN) (m_pgrade : FN) (m_psheets : FN) (m_loft : FN) (t_day : Int32) (t_coins : Int32) (t_felts : Int32) (t_made : Int32) (t_worth : Int32) (t_rags : FN) (t_water : FN) (t_pulp : FN) (t_beat : FN) (t_sort : FN) (t_nM : Int32) (t_mark : FN) (t_size : FN) (t_worn : FN) (t_nT : Int32) (t_skill : FN) (t_vat : FN) (t_pair : FN) (t_nQ : Int32) (t_allS : Int32) (t_pmark : FN) (t_pgrade : FN) (t_psheets : FN) (t_loft : FN) (g : Nat) (lo : Nat → Int64) (a1 : Int32) (a2 : Int32) (hst : l.stackTraces = false) (hF : fX5_pair m_nM m_mark m_size m_worn a1 a2 = some (.inr 0)) : KI l D (tyW cy) sa yL_pair wsL_pair rL_pair [.ref (h 0), .int a1, .int a2, .ref g] (wX5L cy h m_day m_coins m_felts m_made m_worth m_rags m_water m_pulp m_beat m_sort m_nM m_mark m_size m_worn m_nT m_skill m_vat m_pair m_nQ m_allS m_pmark m_pgrade m_psheets m_loft t_day t_coins t_felts t_made t_worth t_rags t_water t_pulp t_beat t_sort t_nM t_mark t_size t_worn t_nT t_skill t_vat t_pair t_nQ t_allS t_pmark t_pgrade t_psheets t_loft g lo) 1 (fun _ => wX5L cy h m_day m_coins m_felts m_made m_worth m_rags m_water m_pulp m_beat m_sort m_nM m_mark m_size m_worn m_nT m_skill m_vat m_pair m_nQ m_allS m_pmark m_pgrade m_psheets m_loft t_day t_coins t_felts t_made t_worth t_rags t_water t_pulp t_beat t_sort t_nM t_mark t_size t_worn t_nT t_skill t_vat t_pair t_nQ t_allS t_pmark t_pgrade t_psheets t_loft g lo) 1 6 := by
  refine KI.ofH (cc := cL_pair) (maxL := 5) (hh := [(0, 10, 13, 13), (0, 10, 17, 15), (0, 10, 21, 17)]) (by decide +kernel) rfl (Nat.le_of_ble_eq_true rfl) ?_
  intro p e s m args below meth c A ls Q hE htab hQ
  obtain ⟨hx, hb, hml, hown, hts, hA, hP, hK, hD, hG, hl, hnm⟩ := hE
  replace hown : s.vm.findClass RL = some m.cls := hown
  replace hl : lv_has ls 5 [(0, .ref (h 0)), (1, .int a1), (2, .int a2), (3, .ref g)] := hl
  have hS : va_S A s.heap s.heap [] := va_S.rf
  refine lv_aload_n hx hb dL_pair_0 rfl (lv_at hl 3 rfl) ?_
  refine lv_iconst (v := 0) hx hb dL_pair_1 (by decide) ?_
  refine lv_aload_n hx hb dL_pair_2 rfl (lv_at hl 0 rfl) ?_
  refine lv_iload_n hx hb dL_pair_3 rfl (lv_at hl 1 rfl) ?_
  refine lv_iload_n hx hb dL_pair_4 rfl (lv_at hl 2 rfl) ?_
  refine kcX (E0 := "java/lang/IndexOutOfBoundsException") (kVX (As := [.int a1, .int a2]) ⟨hx, hb, hml, hown, hts⟩ (kX5_pairx l D cy sa h m_day m_coins m_felts m_made m_worth m_rags m_water m_pulp m_beat m_sort m_nM m_mark m_size m_worn m_nT m_skill m_vat m_pair m_nQ m_allS m_pmark m_pgrade m_psheets m_loft t_day t_coins t_felts t_made t_worth t_rags t_water t_pulp t_beat t_sort t_nM t_mark t_size t_worn t_nT t_skill t_vat t_pair t_nQ t_allS t_pmark t_pgrade t_psheets t_loft a1 a2 hst 0 hF _) (cwV 2 hts gL_pair_X5_pair rfl rfl rfl (by decide +kernel) ⟨Nat.le_of_ble_eq_true rfl, Nat.le_of_ble_eq_true rfl⟩) hK hP hD hS hA hG [0, 1, 2, 3, 4, 5, 6, 7, 8, 9, 10, 11, 12, 13, 14, 15, 16, 17, 18, 19, 20, 21, 22, 23, 24, 25, 26, 27, 28, 29, 30, 31, 32, 33, 34, 35, 36, 37, 38, 39, 40] hcX5L_X5_0 ndX5_0 gtX5_0 rfl rfl rfl hl.1 [.int 0, .ref g] rfl (Nat.le_of_ble_eq_true rfl) dL_pair_5 ⟨Nat.le_of_ble_eq_true rfl, Nat.le_of_ble_eq_true rfl⟩) hP hD hS hA [0, 1, 2, 3, 4, 5, 6, 7, 8, 9, 10, 11, 12, 13, 14, 15, 16, 17, 18, 19, 20, 21, 22, 23, 24, 25, 26, 27, 28, 29, 30, 31, 32, 33, 34, 35, 36, 37, 38, 39, 40] hcX5L_X5_0 (fun ce q9 H locs hP hS hc9 hv9 hE9 => ?_)
  refine vx_catch (own := RL) (name := "java/lang/IndexOutOfBoundsException") (E := "java/lang/IndexOutOfBoundsException") hown [] ⟨0, 10, 13, 13⟩ [⟨0, 10, 17, 15⟩, ⟨0, 10, 21, 17⟩] htab (fun z hz => by cases hz) (by decide) (by decide) (hts (.classLink RL 13 "java/lang/IndexOutOfBoundsException") (by decide +kernel)) (va_Nw.use rfl (hG.1.1 _ (by decide +kernel))) hc9 hv9 hE9 ?_
  refine lv_astore (lv' := [(4, .ref q9), (0, .ref (h 0)), (1, .int a1), (2, .int a2), (3, .ref g)]) hx hb dL_pair_13 hl (by decide) rfl (fun ls hl => ?_)
  refine lv_iconst (v := 1) hx hb dL_pair_15 (by decide) ?_
  exact hQ _ _ _ _ _ _ (fun _ => 0) dL_pair_16 hP hD hS (Nat.le_of_ble_eq_true rfl) (Nat.le_of_ble_eq_true rfl)
set_option maxHeartbeats 4000000 in
set_option maxRecDepth 100000 in
theorem kL_pair_x1 (l : Launch) (D : va_G) (cy : Nat → ClassId) (sa : Nat → Nat) (h : Nat → Nat) (m_day : Int32) (m_coins : Int32) (m_felts : Int32) (m_made : Int32) (m_worth : Int32) (m_rags : FN) (m_water : FN) (m_pulp : FN) (m_beat : FN) (m_sort : FN) (m_nM : Int32) (m_mark : FN) (m_size : FN) (m_worn : FN) (m_nT : Int32) (m_skill : FN) (m_vat : FN) (m_pair : FN) (m_nQ : Int32) (m_allS : Int32) (m_pmark : FN) (m_pgrade : FN) (m_psheets : FN) (m_loft : FN) (t_day : Int32) (t_coins : Int32) (t_felts : Int32) (t_made : Int32) (t_worth : Int32) (t_rags : FN) (t_water : FN) (t_pulp : FN) (t_beat : FN) (t_sort : FN) (t_nM : Int32) (t_mark : FN) (t_size : FN) (t_worn : FN) (t_nT : Int32) (t_skill : FN) (t_vat : FN) (t_pair : FN) (t_nQ : Int32) (t_allS : Int32) (t_pmark : FN) (t_pgrade : FN) (t_psheets : FN) (t_loft : FN) (g : Nat) (lo : Nat → Int64) (a1 : Int32) (a2 : Int32) (hst : l.stackTraces = false) (hF : fX5_pair m_nM m_mark m_size m_worn a1 a2 = some (.inr 1)) : KI l D (tyW cy) sa yL_pair wsL_pair rL_pair [.ref (h 0), .int a1, .int a2, .ref g] (wX5L cy h m_day m_coins m_felts m_made m_worth m_rags m_water m_pulp m_beat m_sort m_nM m_mark m_size m_worn m_nT m_skill m_vat m_pair m_nQ m_allS m_pmark m_pgrade m_psheets m_loft t_day t_coins t_felts t_made t_worth t_rags t_water t_pulp t_beat t_sort t_nM t_mark t_size t_worn t_nT t_skill t_vat t_pair t_nQ t_allS t_pmark t_pgrade t_psheets t_loft g lo) 2 (fun _ => wX5L cy h m_day m_coins m_felts m_made m_worth m_rags m_water m_pulp m_beat m_sort m_nM m_mark m_size m_worn m_nT m_skill m_vat m_pair m_nQ m_allS m_pmark m_pgrade m_psheets m_loft t_day t_coins t_felts t_made t_worth t_rags t_water t_pulp t_beat t_sort t_nM t_mark t_size t_worn t_nT t_skill t_vat t_pair t_nQ t_allS t_pmark t_pgrade t_psheets t_loft g lo) 1 6 := by
  refine KI.ofH (cc := cL_pair) (maxL := 5) (hh := [(0, 10, 13, 13), (0, 10, 17, 15), (0, 10, 21, 17)]) (by decide +kernel) rfl (Nat.le_of_ble_eq_true rfl) ?_
  intro p e s m args below meth c A ls Q hE htab hQ
  obtain ⟨hx, hb, hml, hown, hts, hA, hP, hK, hD, hG, hl, hnm⟩ := hE
  replace hown : s.vm.findClass RL = some m.cls := hown
  replace hl : lv_has ls 5 [(0, .ref (h 0)), (1, .int a1), (2, .int a2), (3, .ref g)] := hl
  have hS : va_S A s.heap s.heap [] := va_S.rf
  refine lv_aload_n hx hb dL_pair_0 rfl (lv_at hl 3 rfl) ?_
  refine lv_iconst (v := 0) hx hb dL_pair_1 (by decide) ?_
  refine lv_aload_n hx hb dL_pair_2 rfl (lv_at hl 0 rfl) ?_
  refine lv_iload_n hx hb dL_pair_3 rfl (lv_at hl 1 rfl) ?_
  refine lv_iload_n hx hb dL_pair_4 rfl (lv_at hl 2 rfl) ?_
  refine kcX (E0 := "java/lang/IllegalArgumentException") (kVX (As := [.int a1, .int a2]) ⟨hx, hb, hml, hown, hts⟩ (kX5_pairx l D cy sa h m_day m_coins m_felts m_made m_worth m_rags m_water m_pulp m_beat m_sort m_nM m_mark m_size m_worn m_nT m_skill m_vat m_pair m_nQ m_allS m_pmark m_pgrade m_psheets m_loft t_day t_coins t_felts t_made t_worth t_rags t_water t_pulp t_beat t_sort t_nM t_mark t_size t_worn t_nT t_skill t_vat t_pair t_nQ t_allS t_pmark t_pgrade t_psheets t_loft a1 a2 hst 1 hF _) (cwV 2 hts gL_pair_X5_pair rfl rfl rfl (by decide +kernel) ⟨Nat.le_of_ble_eq_true rfl, Nat.le_of_ble_eq_true rfl⟩) hK hP hD hS hA hG [0, 1, 2, 3, 4, 5, 6, 7, 8, 9, 10, 11, 12, 13, 14, 15, 16, 17, 18, 19, 20, 21, 22, 23, 24, 25, 26, 27, 28, 29, 30, 31, 32, 33, 34, 35, 36, 37, 38, 39, 40] hcX5L_X5_0 ndX5_0 gtX5_0 rfl rfl rfl hl.1 [.int 0, .ref g] rfl (Nat.le_of_ble_eq_true rfl) dL_pair_5 ⟨Nat.le_of_ble_eq_true rfl, Nat.le_of_ble_eq_true rfl⟩) hP hD hS hA [0, 1, 2, 3, 4, 5, 6, 7, 8, 9, 10, 11, 12, 13, 14, 15, 16, 17, 18, 19, 20, 21, 22, 23, 24, 25, 26, 27, 28, 29, 30, 31, 32, 33, 34, 35, 36, 37, 38, 39, 40] hcX5L_X5_0 (fun ce q9 H locs hP hS hc9 hv9 hE9 => ?_)
  refine vx_catch (own := RL) (name := "java/lang/IllegalArgumentException") (E := "java/lang/IllegalArgumentException") hown [⟨0, 10, 13, 13⟩] ⟨0, 10, 17, 15⟩ [⟨0, 10, 21, 17⟩] htab (List.forall_mem_cons.mpr ⟨Or.inr ⟨by decide, "java/lang/IndexOutOfBoundsException", hts _ (by decide +kernel), hG.1.2.1 ("java/lang/IllegalArgumentException", "java/lang/IndexOutOfBoundsException") (by decide +kernel)⟩, fun _ h9 => absurd h9 List.not_mem_nil⟩) (by decide) (by decide) (hts (.classLink RL 15 "java/lang/IllegalArgumentException") (by decide +kernel)) (va_Nw.use rfl (hG.1.1 _ (by decide +kernel))) hc9 hv9 hE9 ?_
  refine lv_astore (lv' := [(4, .ref q9), (0, .ref (h 0)), (1, .int a1), (2, .int a2), (3, .ref g)]) hx hb dL_pair_17 hl (by decide) rfl (fun ls hl => ?_)
  refine lv_iconst (v := 2) hx hb dL_pair_19 (by decide) ?_
  exact hQ _ _ _ _ _ _ (fun _ => 0) dL_pair_20 hP hD hS (Nat.le_of_ble_eq_true rfl) (Nat.le_of_ble_eq_true rfl)
set_option maxHeartbeats 4000000 in
set_option maxRecDepth 100000 in
theorem kL_pair_x2 (l : Launch) (D : va_G) (cy : Nat → ClassId) (sa : Nat → Nat) (h : Nat → Nat) (m_day : Int32) (m_coins : Int32) (m_felts : Int32) (m_made : Int32) (m_worth : Int32) (m_rags : FN) (m_water : FN) (m_pulp : FN) (m_beat : FN) (m_sort : FN) (m_nM : Int32) (m_mark : FN) (m_size : FN) (m_worn : FN) (m_nT : Int32) (m_skill : FN) (m_vat : FN) (m_pair : FN) (m_nQ : Int32) (m_allS : Int32) (m_pmark : FN) (m_pgrade : FN) (m_psheets : FN) (m_loft : FN) (t_day : Int32) (t_coins : Int32) (t_felts : Int32) (t_made : Int32) (t_worth : Int32) (t_rags : FN) (t_water : FN) (t_pulp : FN) (t_beat : FN) (t_sort : FN) (t_nM : Int32) (t_mark : FN) (t_size : FN) (t_worn : FN) (t_nT : Int32) (t_skill : FN) (t_vat : FN) (t_pair : FN) (t_nQ : Int32) (t_allS : Int32) (t_pmark : FN) (t_pgrade : FN) (t_psheets : FN) (t_loft : FN) (g : Nat) (lo : Nat → Int64) (a1 : Int32) (a2 : Int32) (hst : l.stackTraces = false) (hF : fX5_pair m_nM m_mark m_size m_worn a1 a2 = some (.inr 2)) : KI l D (tyW cy) sa yL_pair wsL_pair rL_pair [.ref (h 0), .int a1, .int a2, .ref g] (wX5L cy h m_day m_coins m_felts m_made m_worth m_rags m_water m_pulp m_beat m_sort m_nM m_mark m_size m_worn m_nT m_skill m_vat m_pair m_nQ m_allS m_pmark m_pgrade m_psheets m_loft t_day t_coins t_felts t_made t_worth t_rags t_water t_pulp t_beat t_sort t_nM t_mark t_size t_worn t_nT t_skill t_vat t_pair t_nQ t_allS t_pmark t_pgrade t_psheets t_loft g lo) 3 (fun _ => wX5L cy h m_day m_coins m_felts m_made m_worth m_rags m_water m_pulp m_beat m_sort m_nM m_mark m_size m_worn m_nT m_skill m_vat m_pair m_nQ m_allS m_pmark m_pgrade m_psheets m_loft t_day t_coins t_felts t_made t_worth t_rags t_water t_pulp t_beat t_sort t_nM t_mark t_size t_worn t_nT t_skill t_vat t_pair t_nQ t_allS t_pmark t_pgrade t_psheets t_loft g lo) 1 6 := by
  refine KI.ofH (cc := cL_pair) (maxL := 5) (hh := [(0, 10, 13, 13), (0, 10, 17, 15), (0, 10, 21, 17)]) (by decide +kernel) rfl (Nat.le_of_ble_eq_true rfl) ?_
  intro p e s m args below meth c A ls Q hE htab hQ
  obtain ⟨hx, hb, hml, hown, hts, hA, hP, hK, hD, hG, hl, hnm⟩ := hE
  replace hown : s.vm.findClass RL = some m.cls := hown
  replace hl : lv_has ls 5 [(0, .ref (h 0)), (1, .int a1), (2, .int a2), (3, .ref g)] := hl
  have hS : va_S A s.heap s.heap [] := va_S.rf
  refine lv_aload_n hx hb dL_pair_0 rfl (lv_at hl 3 rfl) ?_
  refine lv_iconst (v := 0) hx hb dL_pair_1 (by decide) ?_
  refine lv_aload_n hx hb dL_pair_2 rfl (lv_at hl 0 rfl) ?_
  refine lv_iload_n hx hb dL_pair_3 rfl (lv_at hl 1 rfl) ?_
  refine lv_iload_n hx hb dL_pair_4 rfl (lv_at hl 2 rfl) ?_
  refine kcX (E0 := "java/lang/IllegalStateException") (kVX (As := [.int a1, .int a2]) ⟨hx, hb, hml, hown, hts⟩ (kX5_pairx l D cy sa h m_day m_coins m_felts m_made m_worth m_rags m_water m_pulp m_beat m_sort m_nM m_mark m_size m_worn m_nT m_skill m_vat m_pair m_nQ m_allS m_pmark m_pgrade m_psheets m_loft t_day t_coins t_felts t_made t_worth t_rags t_water t_pulp t_beat t_sort t_nM t_mark t_size t_worn t_nT t_skill t_vat t_pair t_nQ t_allS t_pmark t_pgrade t_psheets t_loft a1 a2 hst 2 hF _) (cwV 2 hts gL_pair_X5_pair rfl rfl rfl (by decide +kernel) ⟨Nat.le_of_ble_eq_true rfl, Nat.le_of_ble_eq_true rfl⟩) hK hP hD hS hA hG [0, 1, 2, 3, 4, 5, 6, 7, 8, 9, 10, 11, 12, 13, 14, 15, 16, 17, 18, 19, 20, 21, 22, 23, 24, 25, 26, 27, 28, 29, 30, 31, 32, 33, 34, 35, 36, 37, 38, 39, 40] hcX5L_X5_0 ndX5_0 gtX5_0 rfl rfl rfl hl.1 [.int 0, .ref g] rfl (Nat.le_of_ble_eq_true rfl) dL_pair_5 ⟨Nat.le_of_ble_eq_true rfl, Nat.le_of_ble_eq_true rfl⟩) hP hD hS hA [0, 1, 2, 3, 4, 5, 6, 7, 8, 9, 10, 11, 12, 13, 14, 15, 16, 17, 18, 19, 20, 21, 22, 23, 24, 25, 26, 27, 28, 29, 30, 31, 32, 33, 34, 35, 36, 37, 38, 39, 40] hcX5L_X5_0 (fun ce q9 H locs hP hS hc9 hv9 hE9 => ?_)
  refine vx_catch (own := RL) (name := "java/lang/IllegalStateException") (E := "java/lang/IllegalStateException") hown [⟨0, 10, 13, 13⟩, ⟨0, 10, 17, 15⟩] ⟨0, 10, 21, 17⟩ [] htab (List.forall_mem_cons.mpr ⟨Or.inr ⟨by decide, "java/lang/IndexOutOfBoundsException", hts _ (by decide +kernel), hG.1.2.1 ("java/lang/IllegalStateException", "java/lang/IndexOutOfBoundsException") (by decide +kernel)⟩, List.forall_mem_cons.mpr ⟨Or.inr ⟨by decide, "java/lang/IllegalArgumentException", hts _ (by decide +kernel), hG.1.2.1 ("java/lang/IllegalStateException", "java/lang/IllegalArgumentException") (by decide +kernel)⟩, fun _ h9 => absurd h9 List.not_mem_nil⟩⟩) (by decide) (by decide) (hts (.classLink RL 17 "java/lang/IllegalStateException") (by decide +kernel)) (va_Nw.use rfl (hG.1.1 _ (by decide +kernel))) hc9 hv9 hE9 ?_
  refine lv_astore (lv' := [(4, .ref q9), (0, .ref (h 0)), (1, .int a1), (2, .int a2), (3, .ref g)]) hx hb dL_pair_21 hl (by decide) rfl (fun ls hl => ?_)
  refine lv_iconst (v := 3) hx hb dL_pair_23 (by decide) ?_
  exact hQ _ _ _ _ _ _ (fun _ => 0) dL_pair_24 hP hD hS (Nat.le_of_ble_eq_true rfl) (Nat.le_of_ble_eq_true rfl)
def fL_pair (m_nM : Int32) (m_mark : FN) (m_size : FN) (m_worn : FN) (a1 : Int32) (a2 : Int32) (lo : Nat → Int64) : Option (Int32 × Int32 × FN × FN × FN × (Nat → Int64)) := match fX5_pair m_nM m_mark m_size m_worn a1 a2 with
  | some (.inl z) => some (0, z.2.1, z.2.2.1, z.2.2.2.1, z.2.2.2.2, vp_updL lo (0 : Int32).toNatClampNeg z.1.toInt64)
  | some (.inr kx) => if kx = 0 then some (1, m_nM, m_mark, m_size, m_worn, lo) else if kx = 1 then some (2, m_nM, m_mark, m_size, m_worn, lo) else if kx = 2 then some (3, m_nM, m_mark, m_size, m_worn, lo) else none
  | none => none
set_option maxHeartbeats 4000000 in
set_option maxRecDepth 100000 in
theorem kL_pair (l : Launch) (D : va_G) (cy : Nat → ClassId) (sa : Nat → Nat) (h : Nat → Nat) (m_day : Int32) (m_coins : Int32) (m_felts : Int32) (m_made : Int32) (m_worth : Int32) (m_rags : FN) (m_water : FN) (m_pulp : FN) (m_beat : FN) (m_sort : FN) (m_nM : Int32) (m_mark : FN) (m_size : FN) (m_worn : FN) (m_nT : Int32) (m_skill : FN) (m_vat : FN) (m_pair : FN) (m_nQ : Int32) (m_allS : Int32) (m_pmark : FN) (m_pgrade : FN) (m_psheets : FN) (m_loft : FN) (t_day : Int32) (t_coins : Int32) (t_felts : Int32) (t_made : Int32) (t_worth : Int32) (t_rags : FN) (t_water : FN) (t_pulp : FN) (t_beat : FN) (t_sort : FN) (t_nM : Int32) (t_mark : FN) (t_size : FN) (t_worn : FN) (t_nT : Int32) (t_skill : FN) (t_vat : FN) (t_pair : FN) (t_nQ : Int32) (t_allS : Int32) (t_pmark : FN) (t_pgrade : FN) (t_psheets : FN) (t_loft : FN) (g : Nat) (lo : Nat → Int64) (a1 : Int32) (a2 : Int32) (hst : l.stackTraces = false) (z : Int32 × Int32 × FN × FN × FN × (Nat → Int64)) (hF : fL_pair m_nM m_mark m_size m_worn a1 a2 lo = some z) : KI l D (tyW cy) sa yL_pair wsL_pair rL_pair [.ref (h 0), .int a1, .int a2, .ref g] (wX5L cy h m_day m_coins m_felts m_made m_worth m_rags m_water m_pulp m_beat m_sort m_nM m_mark m_size m_worn m_nT m_skill m_vat m_pair m_nQ m_allS m_pmark m_pgrade m_psheets m_loft t_day t_coins t_felts t_made t_worth t_rags t_water t_pulp t_beat t_sort t_nM t_mark t_size t_worn t_nT t_skill t_vat t_pair t_nQ t_allS t_pmark t_pgrade t_psheets t_loft g lo) z.1 (fun _ => wX5L cy h m_day m_coins m_felts m_made m_worth m_rags m_water m_pulp m_beat m_sort z.2.1 z.2.2.1 z.2.2.2.1 z.2.2.2.2.1 m_nT m_skill m_vat m_pair m_nQ m_allS m_pmark m_pgrade m_psheets m_loft t_day t_coins t_felts t_made t_worth t_rags t_water t_pulp t_beat t_sort t_nM t_mark t_size t_worn t_nT t_skill t_vat t_pair t_nQ t_allS t_pmark t_pgrade t_psheets t_loft g z.2.2.2.2.2) 1 6 := by
  unfold fL_pair at hF
  cases ho : fX5_pair m_nM m_mark m_size m_worn a1 a2 with
  | none =>
    rw [ho] at hF
    cases hF
  | some o =>
    cases o with
    | inl z0 =>
      rw [ho] at hF
      cases hF
      exact kL_pair_ok l D cy sa h m_day m_coins m_felts m_made m_worth m_rags m_water m_pulp m_beat m_sort m_nM m_mark m_size m_worn m_nT m_skill m_vat m_pair m_nQ m_allS m_pmark m_pgrade m_psheets m_loft t_day t_coins t_felts t_made t_worth t_rags t_water t_pulp t_beat t_sort t_nM t_mark t_size t_worn t_nT t_skill t_vat t_pair t_nQ t_allS t_pmark t_pgrade t_psheets t_loft g lo a1 a2 z0 ho
    | inr kx =>
      rw [ho] at hF
      replace hF : (if kx = 0 then some (1, m_nM, m_mark, m_size, m_worn, lo) else if kx = 1 then some (2, m_nM, m_mark, m_size, m_worn, lo) else if kx = 2 then some (3, m_nM, m_mark, m_size, m_worn, lo) else none) = some z := hF
      by_cases c0 : kx = 0
      · subst c0
        replace hF := if_t hF rfl
        cases hF
        exact kL_pair_x0 l D cy sa h m_day m_coins m_felts m_made m_worth m_rags m_water m_pulp m_beat m_sort m_nM m_mark m_size m_worn m_nT m_skill m_vat m_pair m_nQ m_allS m_pmark m_pgrade m_psheets m_loft t_day t_coins t_felts t_made t_worth t_rags t_water t_pulp t_beat t_sort t_nM t_mark t_size t_worn t_nT t_skill t_vat t_pair t_nQ t_allS t_pmark t_pgrade t_psheets t_loft g lo a1 a2 hst ho
      · replace hF := if_f hF c0
        by_cases c1 : kx = 1
        · subst c1
          replace hF := if_t hF rfl
          cases hF
          exact kL_pair_x1 l D cy sa h m_day m_coins m_felts m_made m_worth m_rags m_water m_pulp m_beat m_sort m_nM m_mark m_size m_worn m_nT m_skill m_vat m_pair m_nQ m_allS m_pmark m_pgrade m_psheets m_loft t_day t_coins t_felts t_made t_worth t_rags t_water t_pulp t_beat t_sort t_nM t_mark t_size t_worn t_nT t_skill t_vat t_pair t_nQ t_allS t_pmark t_pgrade t_psheets t_loft g lo a1 a2 hst ho
        · replace hF := if_f hF c1
          by_cases c2 : kx = 2
          · subst c2
            replace hF := if_t hF rfl
            cases hF
            exact kL_pair_x2 l D cy sa h m_day m_coins m_felts m_made m_worth m_rags m_water m_pulp m_beat m_sort m_nM m_mark m_size m_worn m_nT m_skill m_vat m_pair m_nQ m_allS m_pmark m_pgrade m_psheets m_loft t_day t_coins t_felts t_made t_worth t_rags t_water t_pulp t_beat t_sort t_nM t_mark t_size t_worn t_nT t_skill t_vat t_pair t_nQ t_allS t_pmark t_pgrade t_psheets t_loft g lo a1 a2 hst ho
          · replace hF := if_f hF c2
            cases hF

abbrev rL_wire : Room := { frames := 7, cells := 1, slots := 6, locals := 120 }
set_option maxHeartbeats 4000000 in
set_option maxRecDepth 100000 in
theorem kL_wire_ok (l : Launch) (D : va_G) (cy : Nat → ClassId) (sa : Nat → Nat) (h : Nat → Nat) (m_day : Int32) (m_coins : Int32) (m_felts : Int32) (m_made : Int32) (m_worth : Int32) (m_rags : FN) (m_water : FN) (m_pulp : FN) (m_beat : FN) (m_sort : FN) (m_nM : Int32) (m_mark : FN) (m_size : FN) (m_worn : FN) (m_nT : Int32) (m_skill : FN) (m_vat : FN) (m_pair : FN) (m_nQ : Int32) (m_allS : Int32) (m_pmark : FN) (m_pgrade : FN) (m_psheets : FN) (m_loft : FN) (t_day : Int32) (t_coins : Int32) (t_felts : Int32) (t_made : Int32) (t_worth : Int32) (t_rags : FN) (t_water : FN) (t_pulp : FN) (t_beat : FN) (t_sort : FN) (t_nM : Int32) (t_mark : FN) (t_size : FN) (t_worn : FN) (t_nT : Int32) (t_skill : FN) (t_vat : FN) (t_pair : FN) (t_nQ : Int32) (t_allS : Int32) (t_pmark : FN) (t_pgrade : FN) (t_psheets : FN) (t_loft : FN) (g : Nat) (lo : Nat → Int64) (a1 : Int32) (z : Int32 × Int32 × FN) (hF : fX5_wire m_coins m_nM m_worn a1 = some (.inl z)) : KI l D (tyW cy) sa yL_wire wsL_wire rL_wire [.ref (h 0), .int a1, .ref g] (wX5L cy h m_day m_coins m_felts m_made m_worth m_rags m_water m_pulp m_beat m_sort m_nM m_mark m_size m_worn m_nT m_skill m_vat m_pair m_nQ m_allS m_pmark m_pgrade m_psheets m_loft t_day t_coins t_felts t_made t_worth t_rags t_water t_pulp t_beat t_sort t_nM t_mark t_size t_worn t_nT t_skill t_vat t_pair t_nQ t_allS t_pmark t_pgrade t_psheets t_loft g lo) 0 (fun _ => wX5L cy h m_day z.2.1 m_felts m_made m_worth m_rags m_water m_pulp m_beat m_sort m_nM m_mark m_size z.2.2 m_nT m_skill m_vat m_pair m_nQ m_allS m_pmark m_pgrade m_psheets m_loft t_day t_coins t_felts t_made t_worth t_rags t_water t_pulp t_beat t_sort t_nM t_mark t_size t_worn t_nT t_skill t_vat t_pair t_nQ t_allS t_pmark t_pgrade t_psheets t_loft g (vp_updL lo (0 : Int32).toNatClampNeg z.1.toInt64)) 1 6 := by
  refine KI.ofH (cc := cL_wire) (maxL := 4) (hh := [(0, 9, 12, 13), (0, 9, 15, 17)]) (by decide +kernel) rfl (Nat.le_of_ble_eq_true rfl) ?_
  intro p e s m args below meth c A ls Q hE htab hQ
  obtain ⟨hx, hb, hml, hown, hts, hA, hP, hK, hD, hG, hl, hnm⟩ := hE
  replace hown : s.vm.findClass RL = some m.cls := hown
  replace hl : lv_has ls 4 [(0, .ref (h 0)), (1, .int a1), (2, .ref g)] := hl
  have hS : va_S A s.heap s.heap [] := va_S.rf
  refine lv_aload_n hx hb dL_wire_0 rfl (lv_at hl 2 rfl) ?_
  refine lv_iconst (v := 0) hx hb dL_wire_1 (by decide) ?_
  refine lv_aload_n hx hb dL_wire_2 rfl (lv_at hl 0 rfl) ?_
  refine lv_iload_n hx hb dL_wire_3 rfl (lv_at hl 1 rfl) ?_
  refine kwIE (kV (As := [.int a1]) ⟨hx, hb, hml, hown, hts⟩ (kX5_wire l D cy sa h m_day m_coins m_felts m_made m_worth m_rags m_water m_pulp m_beat m_sort m_nM m_mark m_size m_worn m_nT m_skill m_vat m_pair m_nQ m_allS m_pmark m_pgrade m_psheets m_loft t_day t_coins t_felts t_made t_worth t_rags t_water t_pulp t_beat t_sort t_nM t_mark t_size t_worn t_nT t_skill t_vat t_pair t_nQ t_allS t_pmark t_pgrade t_psheets t_loft a1 z hF _) (cwV 1 hts gL_wire_X5_wire rfl rfl rfl (by decide +kernel) ⟨Nat.le_of_ble_eq_true rfl, Nat.le_of_ble_eq_true rfl⟩) hK hP hD hS hA hG [0, 1, 2, 3, 4, 5, 6, 7, 8, 9, 10, 11, 12, 13, 14, 15, 16, 17, 18, 19, 20, 21, 22, 23, 24, 25, 26, 27, 28, 29, 30, 31, 32, 33, 34, 35, 36, 37, 38, 39, 40] hcX5L_X5_0 ndX5_0 gtX5_0 rfl rfl rfl hl.1 [.int 0, .ref g] rfl (Nat.le_of_ble_eq_true rfl) dL_wire_4 ⟨Nat.le_of_ble_eq_true rfl, Nat.le_of_ble_eq_true rfl⟩) hP hD hS hA [0, 1, 2, 3, 4, 5, 6, 7, 8, 9, 10, 11, 12, 13, 14, 15, 16, 17, 18, 19, 20, 21, 22, 23, 24, 25, 26, 27, 28, 29, 30, 31, 32, 33, 34, 35, 36, 37, 38, 39, 40] hcX5L_X5_0 hmX5 kpX5L_X5_0 (fun H locs hP hD hS => ?_)
  refine lv_i2l hx hb dL_wire_7 rfl ?_
  refine va_last hx hb hK hP hD hS 41 2 gtX5L_41 rfl (show ¬ ((0 : Int32) < 0 ∨ 1 ≤ (0 : Int32).toNatClampNeg) from by decide) dL_wire_8 (fun H locs hP hD hS => ?_)
  rw [stLX5L] at hP hD
  refine lv_goto (tgt := 18) hx hb dL_wire_9 (by decide) ?_
  refine lv_iconst (v := 0) hx hb dL_wire_18 (by decide) ?_
  exact hQ _ _ _ _ _ _ (fun _ => 0) dL_wire_19 hP hD hS (Nat.le_of_ble_eq_true rfl) (Nat.le_of_ble_eq_true rfl)
set_option maxHeartbeats 4000000 in
set_option maxRecDepth 100000 in
theorem kL_wire_x0 (l : Launch) (D : va_G) (cy : Nat → ClassId) (sa : Nat → Nat) (h : Nat → Nat) (m_day : Int32) (m_coins : Int32) (m_felts : Int32) (m_made : Int32) (m_worth : Int32) (m_rags : FN) (m_water : FN) (m_pulp : FN) (m_beat : FN) (m_sort : FN) (m_nM : Int32) (m_mark : FN) (m_size : FN) (m_worn : FN) (m_nT : Int32) (m_skill : FN) (m_vat : FN) (m_pair : FN) (m_nQ : Int32) (m_allS : Int32) (m_pmark : FN) (m_pgrade : FN) (m_psheets : FN) (m_loft : FN) (t_day : Int32) (t_coins : Int32) (t_felts : Int32) (t_made : Int32) (t_worth : Int32) (t_rags : FN) (t_water : FN) (t_pulp : FN) (t_beat : FN) (t_sort : FN) (t_nM : Int32) (t_mark : FN) (t_size : FN) (t_worn : FN) (t_nT : Int32) (t_skill : FN) (t_vat : FN) (t_pair : FN) (t_nQ : Int32) (t_allS : Int32) (t_pmark : FN) (t_pgrade : FN) (t_psheets : FN) (t_loft : FN) (g : Nat) (lo : Nat → Int64) (a1 : Int32) (hst : l.stackTraces = false) (hF : fX5_wire m_coins m_nM m_worn a1 = some (.inr 0)) : KI l D (tyW cy) sa yL_wire wsL_wire rL_wire [.ref (h 0), .int a1, .ref g] (wX5L cy h m_day m_coins m_felts m_made m_worth m_rags m_water m_pulp m_beat m_sort m_nM m_mark m_size m_worn m_nT m_skill m_vat m_pair m_nQ m_allS m_pmark m_pgrade m_psheets m_loft t_day t_coins t_felts t_made t_worth t_rags t_water t_pulp t_beat t_sort t_nM t_mark t_size t_worn t_nT t_skill t_vat t_pair t_nQ t_allS t_pmark t_pgrade t_psheets t_loft g lo) 1 (fun _ => wX5L cy h m_day m_coins m_felts m_made m_worth m_rags m_water m_pulp m_beat m_sort m_nM m_mark m_size m_worn m_nT m_skill m_vat m_pair m_nQ m_allS m_pmark m_pgrade m_psheets m_loft t_day t_coins t_felts t_made t_worth t_rags t_water t_pulp t_beat t_sort t_nM t_mark t_size t_worn t_nT t_skill t_vat t_pair t_nQ t_allS t_pmark t_pgrade t_psheets t_loft g lo) 1 6 := by
  refine KI.ofH (cc := cL_wire) (maxL := 4) (hh := [(0, 9, 12, 13), (0, 9, 15, 17)]) (by decide +kernel) rfl (Nat.le_of_ble_eq_true rfl) ?_
  intro p e s m args below meth c A ls Q hE htab hQ
  obtain ⟨hx, hb, hml, hown, hts, hA, hP, hK, hD, hG, hl, hnm⟩ := hE
  replace hown : s.vm.findClass RL = some m.cls := hown
  replace hl : lv_has ls 4 [(0, .ref (h 0)), (1, .int a1), (2, .ref g)] := hl
  have hS : va_S A s.heap s.heap [] := va_S.rf
  refine lv_aload_n hx hb dL_wire_0 rfl (lv_at hl 2 rfl) ?_
  refine lv_iconst (v := 0) hx hb dL_wire_1 (by decide) ?_
  refine lv_aload_n hx hb dL_wire_2 rfl (lv_at hl 0 rfl) ?_
  refine lv_iload_n hx hb dL_wire_3 rfl (lv_at hl 1 rfl) ?_
  refine kcX (E0 := "java/lang/IndexOutOfBoundsException") (kVX (As := [.int a1]) ⟨hx, hb, hml, hown, hts⟩ (kX5_wirex l D cy sa h m_day m_coins m_felts m_made m_worth m_rags m_water m_pulp m_beat m_sort m_nM m_mark m_size m_worn m_nT m_skill m_vat m_pair m_nQ m_allS m_pmark m_pgrade m_psheets m_loft t_day t_coins t_felts t_made t_worth t_rags t_water t_pulp t_beat t_sort t_nM t_mark t_size t_worn t_nT t_skill t_vat t_pair t_nQ t_allS t_pmark t_pgrade t_psheets t_loft a1 hst 0 hF _) (cwV 1 hts gL_wire_X5_wire rfl rfl rfl (by decide +kernel) ⟨Nat.le_of_ble_eq_true rfl, Nat.le_of_ble_eq_true rfl⟩) hK hP hD hS hA hG [0, 1, 2, 3, 4, 5, 6, 7, 8, 9, 10, 11, 12, 13, 14, 15, 16, 17, 18, 19, 20, 21, 22, 23, 24, 25, 26, 27, 28, 29, 30, 31, 32, 33, 34, 35, 36, 37, 38, 39, 40] hcX5L_X5_0 ndX5_0 gtX5_0 rfl rfl rfl hl.1 [.int 0, .ref g] rfl (Nat.le_of_ble_eq_true rfl) dL_wire_4 ⟨Nat.le_of_ble_eq_true rfl, Nat.le_of_ble_eq_true rfl⟩) hP hD hS hA [0, 1, 2, 3, 4, 5, 6, 7, 8, 9, 10, 11, 12, 13, 14, 15, 16, 17, 18, 19, 20, 21, 22, 23, 24, 25, 26, 27, 28, 29, 30, 31, 32, 33, 34, 35, 36, 37, 38, 39, 40] hcX5L_X5_0 (fun ce q9 H locs hP hS hc9 hv9 hE9 => ?_)
  refine vx_catch (own := RL) (name := "java/lang/IndexOutOfBoundsException") (E := "java/lang/IndexOutOfBoundsException") hown [] ⟨0, 9, 12, 13⟩ [⟨0, 9, 15, 17⟩] htab (fun z hz => by cases hz) (by decide) (by decide) (hts (.classLink RL 13 "java/lang/IndexOutOfBoundsException") (by decide +kernel)) (va_Nw.use rfl (hG.1.1 _ (by decide +kernel))) hc9 hv9 hE9 ?_
  refine lv_astore_n (lv' := [(3, .ref q9), (0, .ref (h 0)), (1, .int a1), (2, .ref g)]) hx hb dL_wire_12 rfl hl (by decide) rfl (fun ls hl => ?_)
  refine lv_iconst (v := 1) hx hb dL_wire_13 (by decide) ?_
  exact hQ _ _ _ _ _ _ (fun _ => 0) dL_wire_14 hP hD hS (Nat.le_of_ble_eq_true rfl) (Nat.le_of_ble_eq_true rfl)
set_option maxHeartbeats 4000000 in
set_option maxRecDepth 100000 in
theorem kL_wire_x2 (l : Launch) (D : va_G) (cy : Nat → ClassId) (sa : Nat → Nat) (h : Nat → Nat) (m_day : Int32) (m_coins : Int32) (m_felts : Int32) (m_made : Int32) (m_worth : Int32) (m_rags : FN) (m_water : FN) (m_pulp : FN) (m_beat : FN) (m_sort : FN) (m_nM : Int32) (m_mark : FN) (m_size : FN) (m_worn : FN) (m_nT : Int32) (m_skill : FN) (m_vat : FN) (m_pair : FN) (m_nQ : Int32) (m_allS : Int32) (m_pmark : FN) (m_pgrade : FN) (m_psheets : FN) (m_loft : FN) (t_day : Int32) (t_coins : Int32) (t_felts : Int32) (t_made : Int32) (t_worth : Int32) (t_rags : FN) (t_water : FN) (t_pulp : FN) (t_beat : FN) (t_sort : FN) (t_nM : Int32) (t_mark : FN) (t_size : FN) (t_worn : FN) (t_nT : Int32) (t_skill : FN) (t_vat : FN) (t_pair : FN) (t_nQ : Int32) (t_allS : Int32) (t_pmark : FN) (t_pgrade : FN) (t_psheets : FN) (t_loft : FN) (g : Nat) (lo : Nat → Int64) (a1 : Int32) (hst : l.stackTraces = false) (hF : fX5_wire m_coins m_nM m_worn a1 = some (.inr 2)) : KI l D (tyW cy) sa yL_wire wsL_wire rL_wire [.ref (h 0), .int a1, .ref g] (wX5L cy h m_day m_coins m_felts m_made m_worth m_rags m_water m_pulp m_beat m_sort m_nM m_mark m_size m_worn m_nT m_skill m_vat m_pair m_nQ m_allS m_pmark m_pgrade m_psheets m_loft t_day t_coins t_felts t_made t_worth t_rags t_water t_pulp t_beat t_sort t_nM t_mark t_size t_worn t_nT t_skill t_vat t_pair t_nQ t_allS t_pmark t_pgrade t_psheets t_loft g lo) 2 (fun _ => wX5L cy h m_day m_coins m_felts m_made m_worth m_rags m_water m_pulp m_beat m_sort m_nM m_mark m_size m_worn m_nT m_skill m_vat m_pair m_nQ m_allS m_pmark m_pgrade m_psheets m_loft t_day t_coins t_felts t_made t_worth t_rags t_water t_pulp t_beat t_sort t_nM t_mark t_size t_worn t_nT t_skill t_vat t_pair t_nQ t_allS t_pmark t_pgrade t_psheets t_loft g lo) 1 6 := by
  refine KI.ofH (cc := cL_wire) (maxL := 4) (hh := [(0, 9, 12, 13), (0, 9, 15, 17)]) (by decide +kernel) rfl (Nat.le_of_ble_eq_true rfl) ?_
  intro p e s m args below meth c A ls Q hE htab hQ
  obtain ⟨hx, hb, hml, hown, hts, hA, hP, hK, hD, hG, hl, hnm⟩ := hE
  replace hown : s.vm.findClass RL = some m.cls := hown
  replace hl : lv_has ls 4 [(0, .ref (h 0)), (1, .int a1), (2, .ref g)] := hl
  have hS : va_S A s.heap s.heap [] := va_S.rf
  refine lv_aload_n hx hb dL_wire_0 rfl (lv_at hl 2 rfl) ?_
  refine lv_iconst (v := 0) hx hb dL_wire_1 (by decide) ?_
  refine lv_aload_n hx hb dL_wire_2 rfl (lv_at hl 0 rfl) ?_
  refine lv_iload_n hx hb dL_wire_3 rfl (lv_at hl 1 rfl) ?_
  refine kcX (E0 := "java/lang/IllegalStateException") (kVX (As := [.int a1]) ⟨hx, hb, hml, hown, hts⟩ (kX5_wirex l D cy sa h m_day m_coins m_felts m_made m_worth m_rags m_water m_pulp m_beat m_sort m_nM m_mark m_size m_worn m_nT m_skill m_vat m_pair m_nQ m_allS m_pmark m_pgrade m_psheets m_loft t_day t_coins t_felts t_made t_worth t_rags t_water t_pulp t_beat t_sort t_nM t_mark t_size t_worn t_nT t_skill t_vat t_pair t_nQ t_allS t_pmark t_pgrade t_psheets t_loft a1 hst 2 hF _) (cwV 1 hts gL_wire_X5_wire rfl rfl rfl (by decide +kernel) ⟨Nat.le_of_ble_eq_true rfl, Nat.le_of_ble_eq_true rfl⟩) hK hP hD hS hA hG [0, 1, 2, 3, 4, 5, 6, 7, 8, 9, 10, 11, 12, 13, 14, 15, 16, 17, 18, 19, 20, 21, 22, 23, 24, 25, 26, 27, 28, 29, 30, 31, 32, 33, 34, 35, 36, 37, 38, 39, 40] hcX5L_X5_0 ndX5_0 gtX5_0 rfl rfl rfl hl.1 [.int 0, .ref g] rfl (Nat.le_of_ble_eq_true rfl) dL_wire_4 ⟨Nat.le_of_ble_eq_true rfl, Nat.le_of_ble_eq_true rfl⟩) hP hD hS hA [0, 1, 2, 3, 4, 5, 6, 7, 8, 9, 10, 11, 12, 13, 14, 15, 16, 17, 18, 19, 20, 21, 22, 23, 24, 25, 26, 27, 28, 29, 30, 31, 32, 33, 34, 35, 36, 37, 38, 39, 40] hcX5L_X5_0 (fun ce q9 H locs hP hS hc9 hv9 hE9 => ?_)
  refine vx_catch (own := RL) (name := "java/lang/IllegalStateException") (E := "java/lang/IllegalStateException") hown [⟨0, 9, 12, 13⟩] ⟨0, 9, 15, 17⟩ [] htab (List.forall_mem_cons.mpr ⟨Or.inr ⟨by decide, "java/lang/IndexOutOfBoundsException", hts _ (by decide +kernel), hG.1.2.1 ("java/lang/IllegalStateException", "java/lang/IndexOutOfBoundsException") (by decide +kernel)⟩, fun _ h9 => absurd h9 List.not_mem_nil⟩) (by decide) (by decide) (hts (.classLink RL 17 "java/lang/IllegalStateException") (by decide +kernel)) (va_Nw.use rfl (hG.1.1 _ (by decide +kernel))) hc9 hv9 hE9 ?_
  refine lv_astore_n (lv' := [(3, .ref q9), (0, .ref (h 0)), (1, .int a1), (2, .ref g)]) hx hb dL_wire_15 rfl hl (by decide) rfl (fun ls hl => ?_)
  refine lv_iconst (v := 2) hx hb dL_wire_16 (by decide) ?_
  exact hQ _ _ _ _ _ _ (fun _ => 0) dL_wire_17 hP hD hS (Nat.le_of_ble_eq_true rfl) (Nat.le_of_ble_eq_true rfl)
def fL_wire (m_coins : Int32) (m_nM : Int32) (m_worn : FN) (a1 : Int32) (lo : Nat → Int64) : Option (Int32 × Int32 × FN × (Nat → Int64)) := match fX5_wire m_coins m_nM m_worn a1 with
  | some (.inl z) => some (0, z.2.1, z.2.2, vp_updL lo (0 : Int32).toNatClampNeg z.1.toInt64)
  | some (.inr kx) => if kx = 0 then some (1, m_coins, m_worn, lo) else if kx = 2 then some (2, m_coins, m_worn, lo) else none
  | none => none
set_option maxHeartbeats 4000000 in
set_option maxRecDepth 100000 in
theorem kL_wire (l : Launch) (D : va_G) (cy : Nat → ClassId) (sa : Nat → Nat) (h : Nat → Nat) (m_day : Int32) (m_coins : Int32) (m_felts : Int32) (m_made : Int32) (m_worth : Int32) (m_rags : FN) (m_water : FN) (m_pulp : FN) (m_beat : FN) (m_sort : FN) (m_nM : Int32) (m_mark : FN) (m_size : FN) (m_worn : FN) (m_nT : Int32) (m_skill : FN) (m_vat : FN) (m_pair : FN) (m_nQ : Int32) (m_allS : Int32) (m_pmark : FN) (m_pgrade : FN) (m_psheets : FN) (m_loft : FN) (t_day : Int32) (t_coins : Int32) (t_felts : Int32) (t_made : Int32) (t_worth : Int32) (t_rags : FN) (t_water : FN) (t_pulp : FN) (t_beat : FN) (t_sort : FN) (t_nM : Int32) (t_mark : FN) (t_size : FN) (t_worn : FN) (t_nT : Int32) (t_skill : FN) (t_vat : FN) (t_pair : FN) (t_nQ : Int32) (t_allS : Int32) (t_pmark : FN) (t_pgrade : FN) (t_psheets : FN) (t_loft : FN) (g : Nat) (lo : Nat → Int64) (a1 : Int32) (hst : l.stackTraces = false) (z : Int32 × Int32 × FN × (Nat → Int64)) (hF : fL_wire m_coins m_nM m_worn a1 lo = some z) : KI l D (tyW cy) sa yL_wire wsL_wire rL_wire [.ref (h 0), .int a1, .ref g] (wX5L cy h m_day m_coins m_felts m_made m_worth m_rags m_water m_pulp m_beat m_sort m_nM m_mark m_size m_worn m_nT m_skill m_vat m_pair m_nQ m_allS m_pmark m_pgrade m_psheets m_loft t_day t_coins t_felts t_made t_worth t_rags t_water t_pulp t_beat t_sort t_nM t_mark t_size t_worn t_nT t_skill t_vat t_pair t_nQ t_allS t_pmark t_pgrade t_psheets t_loft g lo) z.1 (fun _ => wX5L cy h m_day z.2.1 m_felts m_made m_worth m_rags m_water m_pulp m_beat m_sort m_nM m_mark m_size z.2.2.1 m_nT m_skill m_vat m_pair m_nQ m_allS m_pmark m_pgrade m_psheets m_loft t_day t_coins t_felts t_made t_worth t_rags t_water t_pulp t_beat t_sort t_nM t_mark t_size t_worn t_nT t_skill t_vat t_pair t_nQ t_allS t_pmark t_pgrade t_psheets t_loft g z.2.2.2) 1 6 := by
  unfold fL_wire at hF
  cases ho : fX5_wire m_coins m_nM m_worn a1 with
  | none =>
    rw [ho] at hF
    cases hF
  | some o =>
    cases o with
    | inl z0 =>
      rw [ho] at hF
      cases hF
      exact kL_wire_ok l D cy sa h m_day m_coins m_felts m_made m_worth m_rags m_water m_pulp m_beat m_sort m_nM m_mark m_size m_worn m_nT m_skill m_vat m_pair m_nQ m_allS m_pmark m_pgrade m_psheets m_loft t_day t_coins t_felts t_made t_worth t_rags t_water t_pulp t_beat t_sort t_nM t_mark t_size t_worn t_nT t_skill t_vat t_pair t_nQ t_allS t_pmark t_pgrade t_psheets t_loft g lo a1 z0 ho
    | inr kx =>
      rw [ho] at hF
      replace hF : (if kx = 0 then some (1, m_coins, m_worn, lo) else if kx = 2 then some (2, m_coins, m_worn, lo) else none) = some z := hF
      by_cases c0 : kx = 0
      · subst c0
        replace hF := if_t hF rfl
        cases hF
        exact kL_wire_x0 l D cy sa h m_day m_coins m_felts m_made m_worth m_rags m_water m_pulp m_beat m_sort m_nM m_mark m_size m_worn m_nT m_skill m_vat m_pair m_nQ m_allS m_pmark m_pgrade m_psheets m_loft t_day t_coins t_felts t_made t_worth t_rags t_water t_pulp t_beat t_sort t_nM t_mark t_size t_worn t_nT t_skill t_vat t_pair t_nQ t_allS t_pmark t_pgrade t_psheets t_loft g lo a1 hst ho
      · replace hF := if_f hF c0
        by_cases c2 : kx = 2
        · subst c2
          replace hF := if_t hF rfl
          cases hF
          exact kL_wire_x2 l D cy sa h m_day m_coins m_felts m_made m_worth m_rags m_water m_pulp m_beat m_sort m_nM m_mark m_size m_worn m_nT m_skill m_vat m_pair m_nQ m_allS m_pmark m_pgrade m_psheets m_loft t_day t_coins t_felts t_made t_worth t_rags t_water t_pulp t_beat t_sort t_nM t_mark t_size t_worn t_nT t_skill t_vat t_pair t_nQ t_allS t_pmark t_pgrade t_psheets t_loft g lo a1 hst ho
        · replace hF := if_f hF c2
          cases hF

abbrev rL_team : Room := { frames := 7, cells := 1, slots := 6, locals := 119 }
set_option maxHeartbeats 4000000 in
set_option maxRecDepth 100000 in
theorem kL_team_ok (l : Launch) (D : va_G) (cy : Nat → ClassId) (sa : Nat → Nat) (h : Nat → Nat) (m_day : Int32) (m_coins : Int32) (m_felts : Int32) (m_made : Int32) (m_worth : Int32) (m_rags : FN) (m_water : FN) (m_pulp : FN) (m_beat : FN) (m_sort : FN) (m_nM : Int32) (m_mark : FN) (m_size : FN) (m_worn : FN) (m_nT : Int32) (m_skill : FN) (m_vat : FN) (m_pair : FN) (m_nQ : Int32) (m_allS : Int32) (m_pmark : FN) (m_pgrade : FN) (m_psheets : FN) (m_loft : FN) (t_day : Int32) (t_coins : Int32) (t_felts : Int32) (t_made : Int32) (t_worth : Int32) (t_rags : FN) (t_water : FN) (t_pulp : FN) (t_beat : FN) (t_sort : FN) (t_nM : Int32) (t_mark : FN) (t_size : FN) (t_worn : FN) (t_nT : Int32) (t_skill : FN) (t_vat : FN) (t_pair : FN) (t_nQ : Int32) (t_allS : Int32) (t_pmark : FN) (t_pgrade : FN) (t_psheets : FN) (t_loft : FN) (g : Nat) (lo : Nat → Int64) (a1 : Int32) (z : Int32 × Int32 × FN × FN × FN) (hF : fX5_team m_nT m_skill m_vat m_pair a1 = some (.inl z)) : KI l D (tyW cy) sa yL_team wsL_team rL_team [.ref (h 0), .int a1, .ref g] (wX5L cy h m_day m_coins m_felts m_made m_worth m_rags m_water m_pulp m_beat m_sort m_nM m_mark m_size m_worn m_nT m_skill m_vat m_pair m_nQ m_allS m_pmark m_pgrade m_psheets m_loft t_day t_coins t_felts t_made t_worth t_rags t_water t_pulp t_beat t_sort t_nM t_mark t_size t_worn t_nT t_skill t_vat t_pair t_nQ t_allS t_pmark t_pgrade t_psheets t_loft g lo) 0 (fun _ => wX5L cy h m_day m_coins m_felts m_made m_worth m_rags m_water m_pulp m_beat m_sort m_nM m_mark m_size m_worn z.2.1 z.2.2.1 z.2.2.2.1 z.2.2.2.2 m_nQ m_allS m_pmark m_pgrade m_psheets m_loft t_day t_coins t_felts t_made t_worth t_rags t_water t_pulp t_beat t_sort t_nM t_mark t_size t_worn t_nT t_skill t_vat t_pair t_nQ t_allS t_pmark t_pgrade t_psheets t_loft g (vp_updL lo (0 : Int32).toNatClampNeg z.1.toInt64)) 1 6 := by
  refine KI.ofH (cc := cL_team) (maxL := 4) (hh := [(0, 9, 12, 15), (0, 9, 15, 17)]) (by decide +kernel) rfl (Nat.le_of_ble_eq_true rfl) ?_
  intro p e s m args below meth c A ls Q hE htab hQ
  obtain ⟨hx, hb, hml, hown, hts, hA, hP, hK, hD, hG, hl, hnm⟩ := hE
  replace hown : s.vm.findClass RL = some m.cls := hown
  replace hl : lv_has ls 4 [(0, .ref (h 0)), (1, .int a1), (2, .ref g)] := hl
  have hS : va_S A s.heap s.heap [] := va_S.rf
  refine lv_aload_n hx hb dL_team_0 rfl (lv_at hl 2 rfl) ?_
  refine lv_iconst (v := 0) hx hb dL_team_1 (by decide) ?_
  refine lv_aload_n hx hb dL_team_2 rfl (lv_at hl 0 rfl) ?_
  refine lv_iload_n hx hb dL_team_3 rfl (lv_at hl 1 rfl) ?_
  refine kwIE (kV (As := [.int a1]) ⟨hx, hb, hml, hown, hts⟩ (kX5_team l D cy sa h m_day m_coins m_felts m_made m_worth m_rags m_water m_pulp m_beat m_sort m_nM m_mark m_size m_worn m_nT m_skill m_vat m_pair m_nQ m_allS m_pmark m_pgrade m_psheets m_loft t_day t_coins t_felts t_made t_worth t_rags t_water t_pulp t_beat t_sort t_nM t_mark t_size t_worn t_nT t_skill t_vat t_pair t_nQ t_allS t_pmark t_pgrade t_psheets t_loft a1 z hF _) (cwV 1 hts gL_team_X5_team rfl rfl rfl (by decide +kernel) ⟨Nat.le_of_ble_eq_true rfl, Nat.le_of_ble_eq_true rfl⟩) hK hP hD hS hA hG [0, 1, 2, 3, 4, 5, 6, 7, 8, 9, 10, 11, 12, 13, 14, 15, 16, 17, 18, 19, 20, 21, 22, 23, 24, 25, 26, 27, 28, 29, 30, 31, 32, 33, 34, 35, 36, 37, 38, 39, 40] hcX5L_X5_0 ndX5_0 gtX5_0 rfl rfl rfl hl.1 [.int 0, .ref g] rfl (Nat.le_of_ble_eq_true rfl) dL_team_4 ⟨Nat.le_of_ble_eq_true rfl, Nat.le_of_ble_eq_true rfl⟩) hP hD hS hA [0, 1, 2, 3, 4, 5, 6, 7, 8, 9, 10, 11, 12, 13, 14, 15, 16, 17, 18, 19, 20, 21, 22, 23, 24, 25, 26, 27, 28, 29, 30, 31, 32, 33, 34, 35, 36, 37, 38, 39, 40] hcX5L_X5_0 hmX5 kpX5L_X5_0 (fun H locs hP hD hS => ?_)
  refine lv_i2l hx hb dL_team_7 rfl ?_
  refine va_last hx hb hK hP hD hS 41 2 gtX5L_41 rfl (show ¬ ((0 : Int32) < 0 ∨ 1 ≤ (0 : Int32).toNatClampNeg) from by decide) dL_team_8 (fun H locs hP hD hS => ?_)
  rw [stLX5L] at hP hD
  refine lv_goto (tgt := 18) hx hb dL_team_9 (by decide) ?_
  refine lv_iconst (v := 0) hx hb dL_team_18 (by decide) ?_
  exact hQ _ _ _ _ _ _ (fun _ => 0) dL_team_19 hP hD hS (Nat.le_of_ble_eq_true rfl) (Nat.le_of_ble_eq_true rfl)
set_option maxHeartbeats 4000000 in
set_option maxRecDepth 100000 in
theorem kL_team_x1 (l : Launch) (D : va_G) (cy : Nat → ClassId) (sa : Nat → Nat) (h : Nat → Nat) (m_day : Int32) (m_coins : Int32) (m_felts : Int32) (m_made : Int32) (m_worth : Int32) (m_rags : FN) (m_water : FN) (m_pulp : FN) (m_beat : FN) (m_sort : FN) (m_nM : Int32) (m_mark : FN) (m_size : FN) (m_worn : FN) (m_nT : Int32) (m_skill : FN) (m_vat : FN) (m_pair : FN) (m_nQ : Int32) (m_allS : Int32) (m_pmark : FN) (m_pgrade : FN) (m_psheets : FN) (m_loft : FN) (t_day : Int32) (t_coins : Int32) (t_felts : Int32) (t_made : Int32) (t_worth : Int32) (t_rags : FN) (t_water : FN) (t_pulp : FN) (t_beat : FN) (t_sort : FN) (t_nM : Int32) (t_mark : FN) (t_size : FN) (t_worn : FN) (t_nT : Int32) (t_skill : FN) (t_vat : FN) (t_pair : FN) (t_nQ : Int32) (t_allS : Int32) (t_pmark : FN) (t_pgrade : FN) (t_psheets : FN) (t_loft : FN) (g : Nat) (lo : Nat → Int64) (a1 : Int32) (hst : l.stackTraces = false) (hF : fX5_team m_nT m_skill m_vat m_pair a1 = some (.inr 1)) : KI l D (tyW cy) sa yL_team wsL_team rL_team [.ref (h 0), .int a1, .ref g] (wX5L cy h m_day m_coins m_felts m_made m_worth m_rags m_water m_pulp m_beat m_sort m_nM m_mark m_size m_worn m_nT m_skill m_vat m_pair m_nQ m_allS m_pmark m_pgrade m_psheets m_loft t_day t_coins t_felts t_made t_worth t_rags t_water t_pulp t_beat t_sort t_nM t_mark t_size t_worn t_nT t_skill t_vat t_pair t_nQ t_allS t_pmark t_pgrade t_psheets t_loft g lo) 1 (fun _ => wX5L cy h m_day m_coins m_felts m_made m_worth m_rags m_water m_pulp m_beat m_sort m_nM m_mark m_size m_worn m_nT m_skill m_vat m_pair m_nQ m_allS m_pmark m_pgrade m_psheets m_loft t_day t_coins t_felts t_made t_worth t_rags t_water t_pulp t_beat t_sort t_nM t_mark t_size t_worn t_nT t_skill t_vat t_pair t_nQ t_allS t_pmark t_pgrade t_psheets t_loft g lo) 1 6 := by
  refine KI.ofH (cc := cL_team) (maxL := 4) (hh := [(0, 9, 12, 15), (0, 9, 15, 17)]) (by decide +kernel) rfl (Nat.le_of_ble_eq_true rfl) ?_
  intro p e s m args below meth c A ls Q hE htab hQ
  obtain ⟨hx, hb, hml, hown, hts, hA, hP, hK, hD, hG, hl, hnm⟩ := hE
  replace hown : s.vm.findClass RL = some m.cls := hown
  replace hl : lv_has ls 4 [(0, .ref (h 0)), (1, .int a1), (2, .ref g)] := hl
  have hS : va_S A s.heap s.heap [] := va_S.rf
  refine lv_aload_n hx hb dL_team_0 rfl (lv_at hl 2 rfl) ?_
  refine lv_iconst (v := 0) hx hb dL_team_1 (by decide) ?_
  refine lv_aload_n hx hb dL_team_2 rfl (lv_at hl 0 rfl) ?_
  refine lv_iload_n hx hb dL_team_3 rfl (lv_at hl 1 rfl) ?_
  refine kcX (E0 := "java/lang/IllegalArgumentException") (kVX (As := [.int a1]) ⟨hx, hb, hml, hown, hts⟩ (kX5_teamx l D cy sa h m_day m_coins m_felts m_made m_worth m_rags m_water m_pulp m_beat m_sort m_nM m_mark m_size m_worn m_nT m_skill m_vat m_pair m_nQ m_allS m_pmark m_pgrade m_psheets m_loft t_day t_coins t_felts t_made t_worth t_rags t_water t_pulp t_beat t_sort t_nM t_mark t_size t_worn t_nT t_skill t_vat t_pair t_nQ t_allS t_pmark t_pgrade t_psheets t_loft a1 hst 1 hF _) (cwV 1 hts gL_team_X5_team rfl rfl rfl (by decide +kernel) ⟨Nat.le_of_ble_eq_true rfl, Nat.le_of_ble_eq_true rfl⟩) hK hP hD hS hA hG [0, 1, 2, 3, 4, 5, 6, 7, 8, 9, 10, 11, 12, 13, 14, 15, 16, 17, 18, 19, 20, 21, 22, 23, 24, 25, 26, 27, 28, 29, 30, 31, 32, 33, 34, 35, 36, 37, 38, 39, 40] hcX5L_X5_0 ndX5_0 gtX5_0 rfl rfl rfl hl.1 [.int 0, .ref g] rfl (Nat.le_of_ble_eq_true rfl) dL_team_4 ⟨Nat.le_of_ble_eq_true rfl, Nat.le_of_ble_eq_true rfl⟩) hP hD hS hA [0, 1, 2, 3, 4, 5, 6, 7, 8, 9, 10, 11, 12, 13, 14, 15, 16, 17, 18, 19, 20, 21, 22, 23, 24, 25, 26, 27, 28, 29, 30, 31, 32, 33, 34, 35, 36, 37, 38, 39, 40] hcX5L_X5_0 (fun ce q9 H locs hP hS hc9 hv9 hE9 => ?_)
  refine vx_catch (own := RL) (name := "java/lang/IllegalArgumentException") (E := "java/lang/IllegalArgumentException") hown [] ⟨0, 9, 12, 15⟩ [⟨0, 9, 15, 17⟩] htab (fun z hz => by cases hz) (by decide) (by decide) (hts (.classLink RL 15 "java/lang/IllegalArgumentException") (by decide +kernel)) (va_Nw.use rfl (hG.1.1 _ (by decide +kernel))) hc9 hv9 hE9 ?_
  refine lv_astore_n (lv' := [(3, .ref q9), (0, .ref (h 0)), (1, .int a1), (2, .ref g)]) hx hb dL_team_12 rfl hl (by decide) rfl (fun ls hl => ?_)
  refine lv_iconst (v := 1) hx hb dL_team_13 (by decide) ?_
  exact hQ _ _ _ _ _ _ (fun _ => 0) dL_team_14 hP hD hS (Nat.le_of_ble_eq_true rfl) (Nat.le_of_ble_eq_true rfl)
set_option maxHeartbeats 4000000 in
set_option maxRecDepth 100000 in
theorem kL_team_x2 (l : Launch) (D : va_G) (cy : Nat → ClassId) (sa : Nat → Nat) (h : Nat → Nat) (m_day : Int32) (m_coins : Int32) (m_felts : Int32) (m_made : Int32) (m_worth : Int32) (m_rags : FN) (m_water : FN) (m_pulp : FN) (m_beat : FN) (m_sort : FN) (m_nM : Int32) (m_mark : FN) (m_size : FN) (m_worn : FN) (m_nT : Int32) (m_skill : FN) (m_vat : FN) (m_pair : FN) (m_nQ : Int32) (m_allS : Int32) (m_pmark : FN) (m_pgrade : FN) (m_psheets : FN) (m_loft : FN) (t_day : Int32) (t_coins : Int32) (t_felts : Int32) (t_made : Int32) (t_worth : Int32) (t_rags : FN) (t_water : FN) (t_pulp : FN) (t_beat : FN) (t_sort : FN) (t_nM : Int32) (t_mark : FN) (t_size : FN) (t_worn : FN) (t_nT : Int32) (t_skill : FN) (t_vat : FN) (t_pair : FN) (t_nQ : Int32) (t_allS : Int32) (t_pmark : FN) (t_pgrade : FN) (t_psheets : FN) (t_loft : FN) (g : Nat) (lo : Nat → Int64) (a1 : Int32) (hst : l.stackTraces = false) (hF : fX5_team m_nT m_skill m_vat m_pair a1 = some (.inr 2)) : KI l D (tyW cy) sa yL_team wsL_team rL_team [.ref (h 0), .int a1, .ref g] (wX5L cy h m_day m_coins m_felts m_made m_worth m_rags m_water m_pulp m_beat m_sort m_nM m_mark m_size m_worn m_nT m_skill m_vat m_pair m_nQ m_allS m_pmark m_pgrade m_psheets m_loft t_day t_coins t_felts t_made t_worth t_rags t_water t_pulp t_beat t_sort t_nM t_mark t_size t_worn t_nT t_skill t_vat t_pair t_nQ t_allS t_pmark t_pgrade t_psheets t_loft g lo) 2 (fun _ => wX5L cy h m_day m_coins m_felts m_made m_worth m_rags m_water m_pulp m_beat m_sort m_nM m_mark m_size m_worn m_nT m_skill m_vat m_pair m_nQ m_allS m_pmark m_pgrade m_psheets m_loft t_day t_coins t_felts t_made t_worth t_rags t_water t_pulp t_beat t_sort t_nM t_mark t_size t_worn t_nT t_skill t_vat t_pair t_nQ t_allS t_pmark t_pgrade t_psheets t_loft g lo) 1 6 := by
  refine KI.ofH (cc := cL_team) (maxL := 4) (hh := [(0, 9, 12, 15), (0, 9, 15, 17)]) (by decide +kernel) rfl (Nat.le_of_ble_eq_true rfl) ?_
  intro p e s m args below meth c A ls Q hE htab hQ
  obtain ⟨hx, hb, hml, hown, hts, hA, hP, hK, hD, hG, hl, hnm⟩ := hE
  replace hown : s.vm.findClass RL = some m.cls := hown
  replace hl : lv_has ls 4 [(0, .ref (h 0)), (1, .int a1), (2, .ref g)] := hl
  have hS : va_S A s.heap s.heap [] := va_S.rf
  refine lv_aload_n hx hb dL_team_0 rfl (lv_at hl 2 rfl) ?_
  refine lv_iconst (v := 0) hx hb dL_team_1 (by decide) ?_
  refine lv_aload_n hx hb dL_team_2 rfl (lv_at hl 0 rfl) ?_
  refine lv_iload_n hx hb dL_team_3 rfl (lv_at hl 1 rfl) ?_
  refine kcX (E0 := "java/lang/IllegalStateException") (kVX (As := [.int a1]) ⟨hx, hb, hml, hown, hts⟩ (kX5_teamx l D cy sa h m_day m_coins m_felts m_made m_worth m_rags m_water m_pulp m_beat m_sort m_nM m_mark m_size m_worn m_nT m_skill m_vat m_pair m_nQ m_allS m_pmark m_pgrade m_psheets m_loft t_day t_coins t_felts t_made t_worth t_rags t_water t_pulp t_beat t_sort t_nM t_mark t_size t_worn t_nT t_skill t_vat t_pair t_nQ t_allS t_pmark t_pgrade t_psheets t_loft a1 hst 2 hF _) (cwV 1 hts gL_team_X5_team rfl rfl rfl (by decide +kernel) ⟨Nat.le_of_ble_eq_true rfl, Nat.le_of_ble_eq_true rfl⟩) hK hP hD hS hA hG [0, 1, 2, 3, 4, 5, 6, 7, 8, 9, 10, 11, 12, 13, 14, 15, 16, 17, 18, 19, 20, 21, 22, 23, 24, 25, 26, 27, 28, 29, 30, 31, 32, 33, 34, 35, 36, 37, 38, 39, 40] hcX5L_X5_0 ndX5_0 gtX5_0 rfl rfl rfl hl.1 [.int 0, .ref g] rfl (Nat.le_of_ble_eq_true rfl) dL_team_4 ⟨Nat.le_of_ble_eq_true rfl, Nat.le_of_ble_eq_true rfl⟩) hP hD hS hA [0, 1, 2, 3, 4, 5, 6, 7, 8, 9, 10, 11, 12, 13, 14, 15, 16, 17, 18, 19, 20, 21, 22, 23, 24, 25, 26, 27, 28, 29, 30, 31, 32, 33, 34, 35, 36, 37, 38, 39, 40] hcX5L_X5_0 (fun ce q9 H locs hP hS hc9 hv9 hE9 => ?_)
  refine vx_catch (own := RL) (name := "java/lang/IllegalStateException") (E := "java/lang/IllegalStateException") hown [⟨0, 9, 12, 15⟩] ⟨0, 9, 15, 17⟩ [] htab (List.forall_mem_cons.mpr ⟨Or.inr ⟨by decide, "java/lang/IllegalArgumentException", hts _ (by decide +kernel), hG.1.2.1 ("java/lang/IllegalStateException", "java/lang/IllegalArgumentException") (by decide +kernel)⟩, fun _ h9 => absurd h9 List.not_mem_nil⟩) (by decide) (by decide) (hts (.classLink RL 17 "java/lang/IllegalStateException") (by decide +kernel)) (va_Nw.use rfl (hG.1.1 _ (by decide +kernel))) hc9 hv9 hE9 ?_
  refine lv_astore_n (lv' := [(3, .ref q9), (0, .ref (h 0)), (1, .int a1), (2, .ref g)]) hx hb dL_team_15 rfl hl (by decide) rfl (fun ls hl => ?_)
  refine lv_iconst (v := 2) hx hb dL_team_16 (by decide) ?_
  exact hQ _ _ _ _ _ _ (fun _ => 0) dL_team_17 hP hD hS (Nat.le_of_ble_eq_true rfl) (Nat.le_of_ble_eq_true rfl)
def fL_team (m_nT : Int32) (m_skill : FN) (m_vat : FN) (m_pair : FN) (a1 : Int32) (lo : Nat → Int64) : Option (Int32 × Int32 × FN × FN × FN × (Nat → Int64)) := match fX5_team m_nT m_skill m_vat m_pair a1 with
  | some (.inl z) => some (0, z.2.1, z.2.2.1, z.2.2.2.1, z.2.2.2.2, vp_updL lo (0 : Int32).toNatClampNeg z.1.toInt64)
  | some (.inr kx) => if kx = 1 then some (1, m_nT, m_skill, m_vat, m_pair, lo) else if kx = 2 then some (2, m_nT, m_skill, m_vat, m_pair, lo) else none
  | none => none
set_option maxHeartbeats 4000000 in
set_option maxRecDepth 100000 in
theorem kL_team (l : Launch) (D : va_G) (cy : Nat → ClassId) (sa : Nat → Nat) (h : Nat → Nat) (m_day : Int32) (m_coins : Int32) (m_felts : Int32) (m_made : Int32) (m_worth : Int32) (m_rags : FN) (m_water : FN) (m_pulp : FN) (m_beat : FN) (m_sort : FN) (m_nM : Int32) (m_mark : FN) (m_size : FN) (m_worn : FN) (m_nT : Int32) (m_skill : FN) (m_vat : FN) (m_pair : FN) (m_nQ : Int32) (m_allS : Int32) (m_pmark : FN) (m_pgrade : FN) (m_psheets : FN) (m_loft : FN) (t_day : Int32) (t_coins : Int32) (t_felts : Int32) (t_made : Int32) (t_worth : Int32) (t_rags : FN) (t_water : FN) (t_pulp : FN) (t_beat : FN) (t_sort : FN) (t_nM : Int32) (t_mark : FN) (t_size : FN) (t_worn : FN) (t_nT : Int32) (t_skill : FN) (t_vat : FN) (t_pair : FN) (t_nQ : Int32) (t_allS : Int32) (t_pmark : FN) (t_pgrade : FN) (t_psheets : FN) (t_loft : FN) (g : Nat) (lo : Nat → Int64) (a1 : Int32) (hst : l.stackTraces = false) (z : Int32 × Int32 × FN × FN × FN × (Nat → Int64)) (hF : fL_team m_nT m_skill m_vat m_pair a1 lo = some z) : KI l D (tyW cy) sa yL_team wsL_team rL_team [.ref (h 0), .int a1, .ref g] (wX5L cy h m_day m_coins m_felts m_made m_worth m_rags m_water m_pulp m_beat m_sort m_nM m_mark m_size m_worn m_nT m_skill m_vat m_pair m_nQ m_allS m_pmark m_pgrade m_psheets m_loft t_day t_coins t_felts t_made t_worth t_rags t_water t_pulp t_beat t_sort t_nM t_mark t_size t_worn t_nT t_skill t_vat t_pair t_nQ t_allS t_pmark t_pgrade t_psheets t_loft g lo) z.1 (fun _ => wX5L cy h m_day m_coins m_felts m_made m_worth m_rags m_water m_pulp m_beat m_sort m_nM m_mark m_size m_worn z.2.1 z.2.2.1 z.2.2.2.1 z.2.2.2.2.1 m_nQ m_allS m_pmark m_pgrade m_psheets m_loft t_day t_coins t_felts t_made t_worth t_rags t_water t_pulp t_beat t_sort t_nM t_mark t_size t_worn t_nT t_skill t_vat t_pair t_nQ t_allS t_pmark t_pgrade t_psheets t_loft g z.2.2.2.2.2) 1 6 := by
  unfold fL_team at hF
  cases ho : fX5_team m_nT m_skill m_vat m_pair a1 with
  | none =>
    rw [ho] at hF
    cases hF
  | some o =>
    cases o with
    | inl z0 =>
      rw [ho] at hF
      cases hF
      exact kL_team_ok l D cy sa h m_day m_coins m_felts m_made m_worth m_rags m_water m_pulp m_beat m_sort m_nM m_mark m_size m_worn m_nT m_skill m_vat m_pair m_nQ m_allS m_pmark m_pgrade m_psheets m_loft t_day t_coins t_felts t_made t_worth t_rags t_water t_pulp t_beat t_sort t_nM t_mark t_size t_worn t_nT t_skill t_vat t_pair t_nQ t_allS t_pmark t_pgrade t_psheets t_loft g lo a1 z0 ho
    | inr kx =>
      rw [ho] at hF
      replace hF : (if kx = 1 then some (1, m_nT, m_skill, m_vat, m_pair, lo) else if kx = 2 then some (2, m_nT, m_skill, m_vat, m_pair, lo) else none) = some z := hF
      by_cases c1 : kx = 1
      · subst c1
        replace hF := if_t hF rfl
        cases hF
        exact kL_team_x1 l D cy sa h m_day m_coins m_felts m_made m_worth m_rags m_water m_pulp m_beat m_sort m_nM m_mark m_size m_worn m_nT m_skill m_vat m_pair m_nQ m_allS m_pmark m_pgrade m_psheets m_loft t_day t_coins t_felts t_made t_worth t_rags t_water t_pulp t_beat t_sort t_nM t_mark t_size t_worn t_nT t_skill t_vat t_pair t_nQ t_allS t_pmark t_pgrade t_psheets t_loft g lo a1 hst ho
      · replace hF := if_f hF c1
        by_cases c2 : kx = 2
        · subst c2
          replace hF := if_t hF rfl
          cases hF
          exact kL_team_x2 l D cy sa h m_day m_coins m_felts m_made m_worth m_rags m_water m_pulp m_beat m_sort m_nM m_mark m_size m_worn m_nT m_skill m_vat m_pair m_nQ m_allS m_pmark m_pgrade m_psheets m_loft t_day t_coins t_felts t_made t_worth t_rags t_water t_pulp t_beat t_sort t_nM t_mark t_size t_worn t_nT t_skill t_vat t_pair t_nQ t_allS t_pmark t_pgrade t_psheets t_loft g lo a1 hst ho
        · replace hF := if_f hF c2
          cases hF

abbrev rL_place : Room := { frames := 7, cells := 1, slots := 6, locals := 122 }
set_option maxHeartbeats 4000000 in
set_option maxRecDepth 100000 in
theorem kL_place_ok (l : Launch) (D : va_G) (cy : Nat → ClassId) (sa : Nat → Nat) (h : Nat → Nat) (m_day : Int32) (m_coins : Int32) (m_felts : Int32) (m_made : Int32) (m_worth : Int32) (m_rags : FN) (m_water : FN) (m_pulp : FN) (m_beat : FN) (m_sort : FN) (m_nM : Int32) (m_mark : FN) (m_size : FN) (m_worn : FN) (m_nT : Int32) (m_skill : FN) (m_vat : FN) (m_pair : FN) (m_nQ : Int32) (m_allS : Int32) (m_pmark : FN) (m_pgrade : FN) (m_psheets : FN) (m_loft : FN) (t_day : Int32) (t_coins : Int32) (t_felts : Int32) (t_made : Int32) (t_worth : Int32) (t_rags : FN) (t_water : FN) (t_pulp : FN) (t_beat : FN) (t_sort : FN) (t_nM : Int32) (t_mark : FN) (t_size : FN) (t_worn : FN) (t_nT : Int32) (t_skill : FN) (t_vat : FN) (t_pair : FN) (t_nQ : Int32) (t_allS : Int32) (t_pmark : FN) (t_pgrade : FN) (t_psheets : FN) (t_loft : FN) (g : Nat) (lo : Nat → Int64) (a1 : Int32) (a2 : Int32) (a3 : Int32) (z : Int32 × FN × FN) (hF : fX5_place m_felts m_pulp m_beat m_nM m_size m_nT m_skill m_vat m_pair m_allS a1 a2 a3 = some (.inl z)) : KI l D (tyW cy) sa yL_place wsL_place rL_place [.ref (h 0), .int a1, .int a2, .int a3, .ref g] (wX5L cy h m_day m_coins m_felts m_made m_worth m_rags m_water m_pulp m_beat m_sort m_nM m_mark m_size m_worn m_nT m_skill m_vat m_pair m_nQ m_allS m_pmark m_pgrade m_psheets m_loft t_day t_coins t_felts t_made t_worth t_rags t_water t_pulp t_beat t_sort t_nM t_mark t_size t_worn t_nT t_skill t_vat t_pair t_nQ t_allS t_pmark t_pgrade t_psheets t_loft g lo) 0 (fun _ => wX5L cy h m_day m_coins m_felts m_made m_worth m_rags m_water m_pulp m_beat m_sort m_nM m_mark m_size m_worn m_nT m_skill z.2.1 z.2.2 m_nQ m_allS m_pmark m_pgrade m_psheets m_loft t_day t_coins t_felts t_made t_worth t_rags t_water t_pulp t_beat t_sort t_nM t_mark t_size t_worn t_nT t_skill t_vat t_pair t_nQ t_allS t_pmark t_pgrade t_psheets t_loft g (vp_updL lo (0 : Int32).toNatClampNeg z.1.toInt64)) 1 6 := by
  refine KI.ofH (cc := cL_place) (maxL := 6) (hh := [(0, 12, 15, 13), (0, 12, 19, 17)]) (by decide +kernel) rfl (Nat.le_of_ble_eq_true rfl) ?_
  intro p e s m args below meth c A ls Q hE htab hQ
  obtain ⟨hx, hb, hml, hown, hts, hA, hP, hK, hD, hG, hl, hnm⟩ := hE
  replace hown : s.vm.findClass RL = some m.cls := hown
  replace hl : lv_has ls 6 [(0, .ref (h 0)), (1, .int a1), (2, .int a2), (3, .int a3), (4, .ref g)] := hl
  have hS : va_S A s.heap s.heap [] := va_S.rf
  refine lv_aload hx hb dL_place_0 (lv_at hl 4 rfl) ?_
  refine lv_iconst (v := 0) hx hb dL_place_2 (by decide) ?_
  refine lv_aload_n hx hb dL_place_3 rfl (lv_at hl 0 rfl) ?_
  refine lv_iload_n hx hb dL_place_4 rfl (lv_at hl 1 rfl) ?_
  refine lv_iload_n hx hb dL_place_5 rfl (lv_at hl 2 rfl) ?_
  refine lv_iload_n hx hb dL_place_6 rfl (lv_at hl 3 rfl) ?_
  refine kwIE (kV (As := [.int a1, .int a2, .int a3]) ⟨hx, hb, hml, hown, hts⟩ (kX5_place l D cy sa h m_day m_coins m_felts m_made m_worth m_rags m_water m_pulp m_beat m_sort m_nM m_mark m_size m_worn m_nT m_skill m_vat m_pair m_nQ m_allS m_pmark m_pgrade m_psheets m_loft t_day t_coins t_felts t_made t_worth t_rags t_water t_pulp t_beat t_sort t_nM t_mark t_size t_worn t_nT t_skill t_vat t_pair t_nQ t_allS t_pmark t_pgrade t_psheets t_loft a1 a2 a3 z hF _) (cwV 3 hts gL_place_X5_place rfl rfl rfl (by decide +kernel) ⟨Nat.le_of_ble_eq_true rfl, Nat.le_of_ble_eq_true rfl⟩) hK hP hD hS hA hG [0, 1, 2, 3, 4, 5, 6, 7, 8, 9, 10, 11, 12, 13, 14, 15, 16, 17, 18, 19, 20, 21, 22, 23, 24, 25, 26, 27, 28, 29, 30, 31, 32, 33, 34, 35, 36, 37, 38, 39, 40] hcX5L_X5_0 ndX5_0 gtX5_0 rfl rfl rfl hl.1 [.int 0, .ref g] rfl (Nat.le_of_ble_eq_true rfl) dL_place_7 ⟨Nat.le_of_ble_eq_true rfl, Nat.le_of_ble_eq_true rfl⟩) hP hD hS hA [0, 1, 2, 3, 4, 5, 6, 7, 8, 9, 10, 11, 12, 13, 14, 15, 16, 17, 18, 19, 20, 21, 22, 23, 24, 25, 26, 27, 28, 29, 30, 31, 32, 33, 34, 35, 36, 37, 38, 39, 40] hcX5L_X5_0 hmX5 kpX5L_X5_0 (fun H locs hP hD hS => ?_)
  refine lv_i2l hx hb dL_place_10 rfl ?_
  refine va_last hx hb hK hP hD hS 41 2 gtX5L_41 rfl (show ¬ ((0 : Int32) < 0 ∨ 1 ≤ (0 : Int32).toNatClampNeg) from by decide) dL_place_11 (fun H locs hP hD hS => ?_)
  rw [stLX5L] at hP hD
  refine lv_goto (tgt := 23) hx hb dL_place_12 (by decide) ?_
  refine lv_iconst (v := 0) hx hb dL_place_23 (by decide) ?_
  exact hQ _ _ _ _ _ _ (fun _ => 0) dL_place_24 hP hD hS (Nat.le_of_ble_eq_true rfl) (Nat.le_of_ble_eq_true rfl)
set_option maxHeartbeats 4000000 in
set_option maxRecDepth 100000 in
theorem kL_place_x0 (l : Launch) (D : va_G) (cy : Nat → ClassId) (sa : Nat → Nat) (h : Nat → Nat) (m_day : Int32) (m_coins : Int32) (m_felts : Int32) (m_made : Int32) (m_worth : Int32) (m_rags : FN) (m_water : FN) (m_pulp : FN) (m_beat : FN) (m_sort : FN) (m_nM : Int32) (m_mark : FN) (m_size : FN) (m_worn : FN) (m_nT : Int32) (m_skill : FN) (m_vat : FN) (m_pair : FN) (m_nQ : Int32) (m_allS : Int32) (m_pmark : FN) (m_pgrade : FN) (m_psheets : FN) (m_loft : FN) (t_day : Int32) (t_coins : Int32) (t_felts : Int32) (t_made : Int32) (t_worth : Int32) (t_rags : FN) (t_water : FN) (t_pulp : FN) (t_beat : FN) (t_sort : FN) (t_nM : Int32) (t_mark : FN) (t_size : FN) (t_worn : FN) (t_nT : Int32) (t_skill : FN) (t_vat : FN) (t_pair : FN) (t_nQ : Int32) (t_allS : Int32) (t_pmark : FN) (t_pgrade : FN) (t_psheets : FN) (t_loft : FN) (g : Nat) (lo : Nat → Int64) (a1 : Int32) (a2 : Int32) (a3 : Int32) (hst : l.stackTraces = false) (hF : fX5_place m_felts m_pulp m_beat m_nM m_size m_nT m_skill m_vat m_pair m_allS a1 a2 a3 = some (.inr 0)) : KI l D (tyW cy) sa yL_place wsL_place rL_place [.ref (h 0), .int a1, .int a2, .int a3, .ref g] (wX5L cy h m_day m_coins m_felts m_made m_worth m_rags m_water m_pulp m_beat m_sort m_nM m_mark m_size m_worn m_nT m_skill m_vat m_pair m_nQ m_allS m_pmark m_pgrade m_psheets m_loft t_day t_coins t_felts t_made t_worth t_rags t_water t_pulp t_beat t_sort t_nM t_mark t_size t_worn t_nT t_skill t_vat t_pair t_nQ t_allS t_pmark t_pgrade t_psheets t_loft g lo) 1 (fun _ => wX5L cy h m_day m_coins m_felts m_made m_worth m_rags m_water m_pulp m_beat m_sort m_nM m_mark m_size m_worn m_nT m_skill m_vat m_pair m_nQ m_allS m_pmark m_pgrade m_psheets m_loft t_day t_coins t_felts t_made t_worth t_rags t_water t_pulp t_beat t_sort t_nM t_mark t_size t_worn t_nT t_skill t_vat t_pair t_nQ t_allS t_pmark t_pgrade t_psheets t_loft g lo) 1 6 := by
  refine KI.ofH (cc := cL_place) (maxL := 6) (hh := [(0, 12, 15, 13), (0, 12, 19, 17)]) (by decide +kernel) rfl (Nat.le_of_ble_eq_true rfl) ?_
  intro p e s m args below meth c A ls Q hE htab hQ
  obtain ⟨hx, hb, hml, hown, hts, hA, hP, hK, hD, hG, hl, hnm⟩ := hE
  replace hown : s.vm.findClass RL = some m.cls := hown
  replace hl : lv_has ls 6 [(0, .ref (h 0)), (1, .int a1), (2, .int a2), (3, .int a3), (4, .ref g)] := hl
  have hS : va_S A s.heap s.heap [] := va_S.rf
  refine lv_aload hx hb dL_place_0 (lv_at hl 4 rfl) ?_
  refine lv_iconst (v := 0) hx hb dL_place_2 (by decide) ?_
  refine lv_aload_n hx hb dL_place_3 rfl (lv_at hl 0 rfl) ?_
  refine lv_iload_n hx hb dL_place_4 rfl (lv_at hl 1 rfl) ?_
  refine lv_iload_n hx hb dL_place_5 rfl (lv_at hl 2 rfl) ?_
  refine lv_iload_n hx hb dL_place_6 rfl (lv_at hl 3 rfl) ?_
  refine kcX (E0 := "java/lang/IndexOutOfBoundsException") (kVX (As := [.int a1, .int a2, .int a3]) ⟨hx, hb, hml, hown, hts⟩ (kX5_placex l D cy sa h m_day m_coins m_felts m_made m_worth m_rags m_water m_pulp m_beat m_sort m_nM m_mark m_size m_worn m_nT m_skill m_vat m_pair m_nQ m_allS m_pmark m_pgrade m_psheets m_loft t_day t_coins t_felts t_made t_worth t_rags t_water t_pulp t_beat t_sort t_nM t_mark t_size t_worn t_nT t_skill t_vat t_pair t_nQ t_allS t_pmark t_pgrade t_psheets t_loft a1 a2 a3 hst 0 hF _) (cwV 3 hts gL_place_X5_place rfl rfl rfl (by decide +kernel) ⟨Nat.le_of_ble_eq_true rfl, Nat.le_of_ble_eq_true rfl⟩) hK hP hD hS hA hG [0, 1, 2, 3, 4, 5, 6, 7, 8, 9, 10, 11, 12, 13, 14, 15, 16, 17, 18, 19, 20, 21, 22, 23, 24, 25, 26, 27, 28, 29, 30, 31, 32, 33, 34, 35, 36, 37, 38, 39, 40] hcX5L_X5_0 ndX5_0 gtX5_0 rfl rfl rfl hl.1 [.int 0, .ref g] rfl (Nat.le_of_ble_eq_true rfl) dL_place_7 ⟨Nat.le_of_ble_eq_true rfl, Nat.le_of_ble_eq_true rfl⟩) hP hD hS hA [0, 1, 2, 3, 4, 5, 6, 7, 8, 9, 10, 11, 12, 13, 14, 15, 16, 17, 18, 19, 20, 21, 22, 23, 24, 25, 26, 27, 28, 29, 30, 31, 32, 33, 34, 35, 36, 37, 38, 39, 40] hcX5L_X5_0 (fun ce q9 H locs hP hS hc9 hv9 hE9 => ?_)
  refine vx_catch (own := RL) (name := "java/lang/IndexOutOfBoundsException") (E := "java/lang/IndexOutOfBoundsException") hown [] ⟨0, 12, 15, 13⟩ [⟨0, 12, 19, 17⟩] htab (fun z hz => by cases hz) (by decide) (by decide) (hts (.classLink RL 13 "java/lang/IndexOutOfBoundsException") (by decide +kernel)) (va_Nw.use rfl (hG.1.1 _ (by decide +kernel))) hc9 hv9 hE9 ?_
  refine lv_astore (lv' := [(5, .ref q9), (0, .ref (h 0)), (1, .int a1), (2, .int a2), (3, .int a3), (4, .ref g)]) hx hb dL_place_15 hl (by decide) rfl (fun ls hl => ?_)
  refine lv_iconst (v := 1) hx hb dL_place_17 (by decide) ?_
  exact hQ _ _ _ _ _ _ (fun _ => 0) dL_place_18 hP hD hS (Nat.le_of_ble_eq_true rfl) (Nat.le_of_ble_eq_true rfl)
set_option maxHeartbeats 4000000 in
set_option maxRecDepth 100000 in
theorem kL_place_x2 (l : Launch) (D : va_G) (cy : Nat → ClassId) (sa : Nat → Nat) (h : Nat → Nat) (m_day : Int32) (m_coins : Int32) (m_felts : Int32) (m_made : Int32) (m_worth : Int32) (m_rags : FN) (m_water : FN) (m_pulp : FN) (m_beat : FN) (m_sort : FN) (m_nM : Int32) (m_mark : FN) (m_size : FN) (m_worn : FN) (m_nT : Int32) (m_skill : FN) (m_vat : FN) (m_pair : FN) (m_nQ : Int32) (m_allS : Int32) (m_pmark : FN) (m_pgrade : FN) (m_psheets : FN) (m_loft : FN) (t_day : Int32) (t_coins : Int32) (t_felts : Int32) (t_made : Int32) (t_worth : Int32) (t_rags : FN) (t_water : FN) (t_pulp : FN) (t_beat : FN) (t_sort : FN) (t_nM : Int32) (t_mark : FN) (t_size : FN) (t_worn : FN) (t_nT : Int32) (t_skill : FN) (t_vat : FN) (t_pair : FN) (t_nQ : Int32) (t_allS : Int32) (t_pmark : FN) (t_pgrade : FN) (t_psheets : FN) (t_loft : FN) (g : Nat) (lo : Nat → Int64) (a1 : Int32) (a2 : Int32) (a3 : Int32) (hst : l.stackTraces = false) (hF : fX5_place m_felts m_pulp m_beat m_nM m_size m_nT m_skill m_vat m_pair m_allS a1 a2 a3 = some (.inr 2)) : KI l D (tyW cy) sa yL_place wsL_place rL_place [.ref (h 0), .int a1, .int a2, .int a3, .ref g] (wX5L cy h m_day m_coins m_felts m_made m_worth m_rags m_water m_pulp m_beat m_sort m_nM m_mark m_size m_worn m_nT m_skill m_vat m_pair m_nQ m_allS m_pmark m_pgrade m_psheets m_loft t_day t_coins t_felts t_made t_worth t_rags t_water t_pulp t_beat t_sort t_nM t_mark t_size t_worn t_nT t_skill t_vat t_pair t_nQ t_allS t_pmark t_pgrade t_psheets t_loft g lo) 2 (fun _ => wX5L cy h m_day m_coins m_felts m_made m_worth m_rags m_water m_pulp m_beat m_sort m_nM m_mark m_size m_worn m_nT m_skill m_vat m_pair m_nQ m_allS m_pmark m_pgrade m_psheets m_loft t_day t_coins t_felts t_made t_worth t_rags t_water t_pulp t_beat t_sort t_nM t_mark t_size t_worn t_nT t_skill t_vat t_pair t_nQ t_allS t_pmark t_pgrade t_psheets t_loft g lo) 1 6 := by
  refine KI.ofH (cc := cL_place) (maxL := 6) (hh := [(0, 12, 15, 13), (0, 12, 19, 17)]) (by decide +kernel) rfl (Nat.le_of_ble_eq_true rfl) ?_
  intro p e s m args below meth c A ls Q hE htab hQ
  obtain ⟨hx, hb, hml, hown, hts, hA, hP, hK, hD, hG, hl, hnm⟩ := hE
  replace hown : s.vm.findClass RL = some m.cls := hown
  replace hl : lv_has ls 6 [(0, .ref (h 0)), (1, .int a1), (2, .int a2), (3, .int a3), (4, .ref g)] := hl
  have hS : va_S A s.heap s.heap [] := va_S.rf
  refine lv_aload hx hb dL_place_0 (lv_at hl 4 rfl) ?_
  refine lv_iconst (v := 0) hx hb dL_place_2 (by decide) ?_
  refine lv_aload_n hx hb dL_place_3 rfl (lv_at hl 0 rfl) ?_
  refine lv_iload_n hx hb dL_place_4 rfl (lv_at hl 1 rfl) ?_
  refine lv_iload_n hx hb dL_place_5 rfl (lv_at hl 2 rfl) ?_
  refine lv_iload_n hx hb dL_place_6 rfl (lv_at hl 3 rfl) ?_
  refine kcX (E0 := "java/lang/IllegalStateException") (kVX (As := [.int a1, .int a2, .int a3]) ⟨hx, hb, hml, hown, hts⟩ (kX5_placex l D cy sa h m_day m_coins m_felts m_made m_worth m_rags m_water m_pulp m_beat m_sort m_nM m_mark m_size m_worn m_nT m_skill m_vat m_pair m_nQ m_allS m_pmark m_pgrade m_psheets m_loft t_day t_coins t_felts t_made t_worth t_rags t_water t_pulp t_beat t_sort t_nM t_mark t_size t_worn t_nT t_skill t_vat t_pair t_nQ t_allS t_pmark t_pgrade t_psheets t_loft a1 a2 a3 hst 2 hF _) (cwV 3 hts gL_place_X5_place rfl rfl rfl (by decide +kernel) ⟨Nat.le_of_ble_eq_true rfl, Nat.le_of_ble_eq_true rfl⟩) hK hP hD hS hA hG [0, 1, 2, 3, 4, 5, 6, 7, 8, 9, 10, 11, 12, 13, 14, 15, 16, 17, 18, 19, 20, 21, 22, 23, 24, 25, 26, 27, 28, 29, 30, 31, 32, 33, 34, 35, 36, 37, 38, 39, 40] hcX5L_X5_0 ndX5_0 gtX5_0 rfl rfl rfl hl.1 [.int 0, .ref g] rfl (Nat.le_of_ble_eq_true rfl) dL_place_7 ⟨Nat.le_of_ble_eq_true rfl, Nat.le_of_ble_eq_true rfl⟩) hP hD hS hA [0, 1, 2, 3, 4, 5, 6, 7, 8, 9, 10, 11, 12, 13, 14, 15, 16, 17, 18, 19, 20, 21, 22, 23, 24, 25, 26, 27, 28, 29, 30, 31, 32, 33, 34, 35, 36, 37, 38, 39, 40] hcX5L_X5_0 (fun ce q9 H locs hP hS hc9 hv9 hE9 => ?_)
  refine vx_catch (own := RL) (name := "java/lang/IllegalStateException") (E := "java/lang/IllegalStateException") hown [⟨0, 12, 15, 13⟩] ⟨0, 12, 19, 17⟩ [] htab (List.forall_mem_cons.mpr ⟨Or.inr ⟨by decide, "java/lang/IndexOutOfBoundsException", hts _ (by decide +kernel), hG.1.2.1 ("java/lang/IllegalStateException", "java/lang/IndexOutOfBoundsException") (by decide +kernel)⟩, fun _ h9 => absurd h9 List.not_mem_nil⟩) (by decide) (by decide) (hts (.classLink RL 17 "java/lang/IllegalStateException") (by decide +kernel)) (va_Nw.use rfl (hG.1.1 _ (by decide +kernel))) hc9 hv9 hE9 ?_
  refine lv_astore (lv' := [(5, .ref q9), (0, .ref (h 0)), (1, .int a1), (2, .int a2), (3, .int a3), (4, .ref g)]) hx hb dL_place_19 hl (by decide) rfl (fun ls hl => ?_)
  refine lv_iconst (v := 2) hx hb dL_place_21 (by decide) ?_
  exact hQ _ _ _ _ _ _ (fun _ => 0) dL_place_22 hP hD hS (Nat.le_of_ble_eq_true rfl) (Nat.le_of_ble_eq_true rfl)
def fL_place (m_felts : Int32) (m_pulp : FN) (m_beat : FN) (m_nM : Int32) (m_size : FN) (m_nT : Int32) (m_skill : FN) (m_vat : FN) (m_pair : FN) (m_allS : Int32) (a1 : Int32) (a2 : Int32) (a3 : Int32) (lo : Nat → Int64) : Option (Int32 × FN × FN × (Nat → Int64)) := match fX5_place m_felts m_pulp m_beat m_nM m_size m_nT m_skill m_vat m_pair m_allS a1 a2 a3 with
  | some (.inl z) => some (0, z.2.1, z.2.2, vp_updL lo (0 : Int32).toNatClampNeg z.1.toInt64)
  | some (.inr kx) => if kx = 0 then some (1, m_vat, m_pair, lo) else if kx = 2 then some (2, m_vat, m_pair, lo) else none
  | none => none
set_option maxHeartbeats 4000000 in
set_option maxRecDepth 100000 in
theorem kL_place (l : Launch) (D : va_G) (cy : Nat → ClassId) (sa : Nat → Nat) (h : Nat → Nat) (m_day : Int32) (m_coins : Int32) (m_felts : Int32) (m_made : Int32) (m_worth : Int32) (m_rags : FN) (m_water : FN) (m_pulp : FN) (m_beat : FN) (m_sort : FN) (m_nM : Int32) (m_mark : FN) (m_size : FN) (m_worn : FN) (m_nT : Int32) (m_skill : FN) (m_vat : FN) (m_pair : FN) (m_nQ : Int32) (m_allS : Int32) (m_pmark : FN) (m_pgrade : FN) (m_psheets : FN) (m_loft : FN) (t_day : Int32) (t_coins : Int32) (t_felts : Int32) (t_made : Int32) (t_worth : Int32) (t_rags : FN) (t_water : FN) (t_pulp : FN) (t_beat : FN) (t_sort : FN) (t_nM : Int32) (t_mark : FN) (t_size : FN) (t_worn : FN) (t_nT : Int32) (t_skill : FN) (t_vat : FN) (t_pair : FN) (t_nQ : Int32) (t_allS : Int32) (t_pmark : FN) (t_pgrade : FN) (t_psheets : FN) (t_loft : FN) (g : Nat) (lo : Nat → Int64) (a1 : Int32) (a2 : Int32) (a3 : Int32) (hst : l.stackTraces = false) (z : Int32 × FN × FN × (Nat → Int64)) (hF : fL_place m_felts m_pulp m_beat m_nM m_size m_nT m_skill m_vat m_pair m_allS a1 a2 a3 lo = some z) : KI l D (tyW cy) sa yL_place wsL_place rL_place [.ref (h 0), .int a1, .int a2, .int a3, .ref g] (wX5L cy h m_day m_coins m_felts m_made m_worth m_rags m_water m_pulp m_beat m_sort m_nM m_mark m_size m_worn m_nT m_skill m_vat m_pair m_nQ m_allS m_pmark m_pgrade m_psheets m_loft t_day t_coins t_felts t_made t_worth t_rags t_water t_pulp t_beat t_sort t_nM t_mark t_size t_worn t_nT t_skill t_vat t_pair t_nQ t_allS t_pmark t_pgrade t_psheets t_loft g lo) z.1 (fun _ => wX5L cy h m_day m_coins m_felts m_made m_worth m_rags m_water m_pulp m_beat m_sort m_nM m_mark m_size m_worn m_nT m_skill z.2.1 z.2.2.1 m_nQ m_allS m_pmark m_pgrade m_psheets m_loft t_day t_coins t_felts t_made t_worth t_rags t_water t_pulp t_beat t_sort t_nM t_mark t_size t_worn t_nT t_skill t_vat t_pair t_nQ t_allS t_pmark t_pgrade t_psheets t_loft g z.2.2.2) 1 6 := by
  unfold fL_place at hF
  cases ho : fX5_place m_felts m_pulp m_beat m_nM m_size m_nT m_skill m_vat m_pair m_allS a1 a2 a3 with
  | none =>
    rw [ho] at hF
    cases hF
  | some o =>
    cases o with
    | inl z0 =>
      rw [ho] at hF
      cases hF
      exact kL_place_ok l D cy sa h m_day m_coins m_felts m_made m_worth m_rags m_water m_pulp m_beat m_sort m_nM m_mark m_size m_worn m_nT m_skill m_vat m_pair m_nQ m_allS m_pmark m_pgrade m_psheets m_loft t_day t_coins t_felts t_made t_worth t_rags t_water t_pulp t_beat t_sort t_nM t_mark t_size t_worn t_nT t_skill t_vat t_pair t_nQ t_allS t_pmark t_pgrade t_psheets t_loft g lo a1 a2 a3 z0 ho
    | inr kx =>
      rw [ho] at hF
      replace hF : (if kx = 0 then some (1, m_vat, m_pair, lo) else if kx = 2 then some (2, m_vat, m_pair, lo) else none) = some z := hF
      by_cases c0 : kx = 0
      · subst c0
        replace hF := if_t hF rfl
        cases hF
        exact kL_place_x0 l D cy sa h m_day m_coins m_felts m_made m_worth m_rags m_water m_pulp m_beat m_sort m_nM m_mark m_size m_worn m_nT m_skill m_vat m_pair m_nQ m_allS m_pmark m_pgrade m_psheets m_loft t_day t_coins t_felts t_made t_worth t_rags t_water t_pulp t_beat t_sort t_nM t_mark t_size t_worn t_nT t_skill t_vat t_pair t_nQ t_allS t_pmark t_pgrade t_psheets t_loft g lo a1 a2 a3 hst ho
      · replace hF := if_f hF c0
        by_cases c2 : kx = 2
        · subst c2
          replace hF := if_t hF rfl
          cases hF
          exact kL_place_x2 l D cy sa h m_day m_coins m_felts m_made m_worth m_rags m_water m_pulp m_beat m_sort m_nM m_mark m_size m_worn m_nT m_skill m_vat m_pair m_nQ m_allS m_pmark m_pgrade m_psheets m_loft t_day t_coins t_felts t_made t_worth t_rags t_water t_pulp t_beat t_sort t_nM t_mark t_size t_worn t_nT t_skill t_vat t_pair t_nQ t_allS t_pmark t_pgrade t_psheets t_loft g lo a1 a2 a3 hst ho
        · replace hF := if_f hF c2
          cases hF

abbrev rL_setWater : Room := { frames := 7, cells := 1, slots := 6, locals := 121 }
set_option maxHeartbeats 4000000 in
set_option maxRecDepth 100000 in
theorem kL_setWater_ok (l : Launch) (D : va_G) (cy : Nat → ClassId) (sa : Nat → Nat) (h : Nat → Nat) (m_day : Int32) (m_coins : Int32) (m_felts : Int32) (m_made : Int32) (m_worth : Int32) (m_rags : FN) (m_water : FN) (m_pulp : FN) (m_beat : FN) (m_sort : FN) (m_nM : Int32) (m_mark : FN) (m_size : FN) (m_worn : FN) (m_nT : Int32) (m_skill : FN) (m_vat : FN) (m_pair : FN) (m_nQ : Int32) (m_allS : Int32) (m_pmark : FN) (m_pgrade : FN) (m_psheets : FN) (m_loft : FN) (t_day : Int32) (t_coins : Int32) (t_felts : Int32) (t_made : Int32) (t_worth : Int32) (t_rags : FN) (t_water : FN) (t_pulp : FN) (t_beat : FN) (t_sort : FN) (t_nM : Int32) (t_mark : FN) (t_size : FN) (t_worn : FN) (t_nT : Int32) (t_skill : FN) (t_vat : FN) (t_pair : FN) (t_nQ : Int32) (t_allS : Int32) (t_pmark : FN) (t_pgrade : FN) (t_psheets : FN) (t_loft : FN) (g : Nat) (lo : Nat → Int64) (a1 : Int32) (a2 : Int32) (z : Int32 × FN) (hF : fX5_setWater m_water a1 a2 = some (.inl z)) : KI l D (tyW cy) sa yL_setWater wsL_setWater rL_setWater [.ref (h 0), .int a1, .int a2, .ref g] (wX5L cy h m_day m_coins m_felts m_made m_worth m_rags m_water m_pulp m_beat m_sort m_nM m_mark m_size m_worn m_nT m_skill m_vat m_pair m_nQ m_allS m_pmark m_pgrade m_psheets m_loft t_day t_coins t_felts t_made t_worth t_rags t_water t_pulp t_beat t_sort t_nM t_mark t_size t_worn t_nT t_skill t_vat t_pair t_nQ t_allS t_pmark t_pgrade t_psheets t_loft g lo) 0 (fun _ => wX5L cy h m_day m_coins m_felts m_made m_worth m_rags z.2 m_pulp m_beat m_sort m_nM m_mark m_size m_worn m_nT m_skill m_vat m_pair m_nQ m_allS m_pmark m_pgrade m_psheets m_loft t_day t_coins t_felts t_made t_worth t_rags t_water t_pulp t_beat t_sort t_nM t_mark t_size t_worn t_nT t_skill t_vat t_pair t_nQ t_allS t_pmark t_pgrade t_psheets t_loft g (vp_updL lo (0 : Int32).toNatClampNeg z.1.toInt64)) 1 6 := by
  refine KI.ofH (cc := cL_setWater) (maxL := 5) (hh := [(0, 10, 13, 13), (0, 10, 17, 15)]) (by decide +kernel) rfl (Nat.le_of_ble_eq_true rfl) ?_
  intro p e s m args below meth c A ls Q hE htab hQ
  obtain ⟨hx, hb, hml, hown, hts, hA, hP, hK, hD, hG, hl, hnm⟩ := hE
  replace hown : s.vm.findClass RL = some m.cls := hown
  replace hl : lv_has ls 5 [(0, .ref (h 0)), (1, .int a1), (2, .int a2), (3, .ref g)] := hl
  have hS : va_S A s.heap s.heap [] := va_S.rf
  refine lv_aload_n hx hb dL_setWater_0 rfl (lv_at hl 3 rfl) ?_
  refine lv_iconst (v := 0) hx hb dL_setWater_1 (by decide) ?_
  refine lv_aload_n hx hb dL_setWater_2 rfl (lv_at hl 0 rfl) ?_
  refine lv_iload_n hx hb dL_setWater_3 rfl (lv_at hl 1 rfl) ?_
  refine lv_iload_n hx hb dL_setWater_4 rfl (lv_at hl 2 rfl) ?_
  refine kwIE (kV (As := [.int a1, .int a2]) ⟨hx, hb, hml, hown, hts⟩ (kX5_setWater l D cy sa h m_day m_coins m_felts m_made m_worth m_rags m_water m_pulp m_beat m_sort m_nM m_mark m_size m_worn m_nT m_skill m_vat m_pair m_nQ m_allS m_pmark m_pgrade m_psheets m_loft t_day t_coins t_felts t_made t_worth t_rags t_water t_pulp t_beat t_sort t_nM t_mark t_size t_worn t_nT t_skill t_vat t_pair t_nQ t_allS t_pmark t_pgrade t_psheets t_loft a1 a2 z hF _) (cwV 2 hts gL_setWater_X5_setWater rfl rfl rfl (by decide +kernel) ⟨Nat.le_of_ble_eq_true rfl, Nat.le_of_ble_eq_true rfl⟩) hK hP hD hS hA hG [0, 1, 2, 3, 4, 5, 6, 7, 8, 9, 10, 11, 12, 13, 14, 15, 16, 17, 18, 19, 20, 21, 22, 23, 24, 25, 26, 27, 28, 29, 30, 31, 32, 33, 34, 35, 36, 37, 38, 39, 40] hcX5L_X5_0 ndX5_0 gtX5_0 rfl rfl rfl hl.1 [.int 0, .ref g] rfl (Nat.le_of_ble_eq_true rfl) dL_setWater_5 ⟨Nat.le_of_ble_eq_true rfl, Nat.le_of_ble_eq_true rfl⟩) hP hD hS hA [0, 1, 2, 3, 4, 5, 6, 7, 8, 9, 10, 11, 12, 13, 14, 15, 16, 17, 18, 19, 20, 21, 22, 23, 24, 25, 26, 27, 28, 29, 30, 31, 32, 33, 34, 35, 36, 37, 38, 39, 40] hcX5L_X5_0 hmX5 kpX5L_X5_0 (fun H locs hP hD hS => ?_)
  refine lv_i2l hx hb dL_setWater_8 rfl ?_
  refine va_last hx hb hK hP hD hS 41 2 gtX5L_41 rfl (show ¬ ((0 : Int32) < 0 ∨ 1 ≤ (0 : Int32).toNatClampNeg) from by decide) dL_setWater_9 (fun H locs hP hD hS => ?_)
  rw [stLX5L] at hP hD
  refine lv_goto (tgt := 21) hx hb dL_setWater_10 (by decide) ?_
  refine lv_iconst (v := 0) hx hb dL_setWater_21 (by decide) ?_
  exact hQ _ _ _ _ _ _ (fun _ => 0) dL_setWater_22 hP hD hS (Nat.le_of_ble_eq_true rfl) (Nat.le_of_ble_eq_true rfl)
set_option maxHeartbeats 4000000 in
set_option maxRecDepth 100000 in
theorem kL_setWater_x0 (l : Launch) (D : va_G) (cy : Nat → ClassId) (sa : Nat → Nat) (h : Nat → Nat) (m_day : Int32) (m_coins : Int32) (m_felts : Int32) (m_made : Int32) (m_worth : Int32) (m_rags : FN) (m_water : FN) (m_pulp : FN) (m_beat : FN) (m_sort : FN) (m_nM : Int32) (m_mark : FN) (m_size : FN) (m_worn : FN) (m_nT : Int32) (m_skill : FN) (m_vat : FN) (m_pair : FN) (m_nQ : Int32) (m_allS : Int32) (m_pmark : FN) (m_pgrade : FN) (m_psheets : FN) (m_loft : FN) (t_day : Int32) (t_coins : Int32) (t_felts : Int32) (t_made : Int32) (t_worth : Int32) (t_rags : FN) (t_water : FN) (t_pulp : FN) (t_beat : FN) (t_sort : FN) (t_nM : Int32) (t_mark : FN) (t_size : FN) (t_worn : FN) (t_nT : Int32) (t_skill : FN) (t_vat : FN) (t_pair : FN) (t_nQ : Int32) (t_allS : Int32) (t_pmark : FN) (t_pgrade : FN) (t_psheets : FN) (t_loft : FN) (g : Nat) (lo : Nat → Int64) (a1 : Int32) (a2 : Int32) (hst : l.stackTraces = false) (hF : fX5_setWater m_water a1 a2 = some (.inr 0)) : KI l D (tyW cy) sa yL_setWater wsL_setWater rL_setWater [.ref (h 0), .int a1, .int a2, .ref g] (wX5L cy h m_day m_coins m_felts m_made m_worth m_rags m_water m_pulp m_beat m_sort m_nM m_mark m_size m_worn m_nT m_skill m_vat m_pair m_nQ m_allS m_pmark m_pgrade m_psheets m_loft t_day t_coins t_felts t_made t_worth t_rags t_water t_pulp t_beat t_sort t_nM t_mark t_size t_worn t_nT t_skill t_vat t_pair t_nQ t_allS t_pmark t_pgrade t_psheets t_loft g lo) 1 (fun _ => wX5L cy h m_day m_coins m_felts m_made m_worth m_rags m_water m_pulp m_beat m_sort m_nM m_mark m_size m_worn m_nT m_skill m_vat m_pair m_nQ m_allS m_pmark m_pgrade m_psheets m_loft t_day t_coins t_felts t_made t_worth t_rags t_water t_pulp t_beat t_sort t_nM t_mark t_size t_worn t_nT t_skill t_vat t_pair t_nQ t_allS t_pmark t_pgrade t_psheets t_loft g lo) 1 6 := by
  refine KI.ofH (cc := cL_setWater) (maxL := 5) (hh := [(0, 10, 13, 13), (0, 10, 17, 15)]) (by decide +kernel) rfl (Nat.le_of_ble_eq_true rfl) ?_
  intro p e s m args below meth c A ls Q hE htab hQ
  obtain ⟨hx, hb, hml, hown, hts, hA, hP, hK, hD, hG, hl, hnm⟩ := hE
  replace hown : s.vm.findClass RL = some m.cls := hown
  replace hl : lv_has ls 5 [(0, .ref (h 0)), (1, .int a1), (2, .int a2), (3, .ref g)] := hl
  have hS : va_S A s.heap s.heap [] := va_S.rf
  refine lv_aload_n hx hb dL_setWater_0 rfl (lv_at hl 3 rfl) ?_
  refine lv_iconst (v := 0) hx hb dL_setWater_1 (by decide) ?_
  refine lv_aload_n hx hb dL_setWater_2 rfl (lv_at hl 0 rfl) ?_
  refine lv_iload_n hx hb dL_setWater_3 rfl (lv_at hl 1 rfl) ?_
  refine lv_iload_n hx hb dL_setWater_4 rfl (lv_at hl 2 rfl) ?_
  refine kcX (E0 := "java/lang/IndexOutOfBoundsException") (kVX (As := [.int a1, .int a2]) ⟨hx, hb, hml, hown, hts⟩ (kX5_setWaterx l D cy sa h m_day m_coins m_felts m_made m_worth m_rags m_water m_pulp m_beat m_sort m_nM m_mark m_size m_worn m_nT m_skill m_vat m_pair m_nQ m_allS m_pmark m_pgrade m_psheets m_loft t_day t_coins t_felts t_made t_worth t_rags t_water t_pulp t_beat t_sort t_nM t_mark t_size t_worn t_nT t_skill t_vat t_pair t_nQ t_allS t_pmark t_pgrade t_psheets t_loft a1 a2 hst 0 hF _) (cwV 2 hts gL_setWater_X5_setWater rfl rfl rfl (by decide +kernel) ⟨Nat.le_of_ble_eq_true rfl, Nat.le_of_ble_eq_true rfl⟩) hK hP hD hS hA hG [0, 1, 2, 3, 4, 5, 6, 7, 8, 9, 10, 11, 12, 13, 14, 15, 16, 17, 18, 19, 20, 21, 22, 23, 24, 25, 26, 27, 28, 29, 30, 31, 32, 33, 34, 35, 36, 37, 38, 39, 40] hcX5L_X5_0 ndX5_0 gtX5_0 rfl rfl rfl hl.1 [.int 0, .ref g] rfl (Nat.le_of_ble_eq_true rfl) dL_setWater_5 ⟨Nat.le_of_ble_eq_true rfl, Nat.le_of_ble_eq_true rfl⟩) hP hD hS hA [0, 1, 2, 3, 4, 5, 6, 7, 8, 9, 10, 11, 12, 13, 14, 15, 16, 17, 18, 19, 20, 21, 22, 23, 24, 25, 26, 27, 28, 29, 30, 31, 32, 33, 34, 35, 36, 37, 38, 39, 40] hcX5L_X5_0 (fun ce q9 H locs hP hS hc9 hv9 hE9 => ?_)
  refine vx_catch (own := RL) (name := "java/lang/IndexOutOfBoundsException") (E := "java/lang/IndexOutOfBoundsException") hown [] ⟨0, 10, 13, 13⟩ [⟨0, 10, 17, 15⟩] htab (fun z hz => by cases hz) (by decide) (by decide) (hts (.classLink RL 13 "java/lang/IndexOutOfBoundsException") (by decide +kernel)) (va_Nw.use rfl (hG.1.1 _ (by decide +kernel))) hc9 hv9 hE9 ?_
  refine lv_astore (lv' := [(4, .ref q9), (0, .ref (h 0)), (1, .int a1), (2, .int a2), (3, .ref g)]) hx hb dL_setWater_13 hl (by decide) rfl (fun ls hl => ?_)
  refine lv_iconst (v := 1) hx hb dL_setWater_15 (by decide) ?_
  exact hQ _ _ _ _ _ _ (fun _ => 0) dL_setWater_16 hP hD hS (Nat.le_of_ble_eq_true rfl) (Nat.le_of_ble_eq_true rfl)
set_option maxHeartbeats 4000000 in
set_option maxRecDepth 100000 in
theorem kL_setWater_x1 (l : Launch) (D : va_G) (cy : Nat → ClassId) (sa : Nat → Nat) (h : Nat → Nat) (m_day : Int32) (m_coins : Int32) (m_felts : Int32) (m_made : Int32) (m_worth : Int32) (m_rags : FN) (m_water : FN) (m_pulp : FN) (m_beat : FN) (m_sort : FN) (m_nM : Int32) (m_mark : FN) (m_size : FN) (m_worn : FN) (m_nT : Int32) (m_skill : FN) (m_vat : FN) (m_pair : FN) (m_nQ : Int32) (m_allS : Int32) (m_pmark : FN) (m_pgrade : FN) (m_psheets : FN) (m_loft : FN) (t_day : Int32) (t_coins : Int32) (t_felts : Int32) (t_made : Int32) (t_worth : Int32) (t_rags : FN) (t_water : FN) (t_pulp : FN) (t_beat : FN) (t_sort : FN) (t_nM : Int32) (t_mark : FN) (t_size : FN) (t_worn : FN) (t_nT : Int32) (t_skill : FN) (t_vat : FN) (t_pair : FN) (t_nQ : Int32) (t_allS : Int32) (t_pmark : FN) (t_pgrade : FN) (t_psheets : FN) (t_loft : FN) (g : Nat) (lo : Nat → Int64) (a1 : Int32) (a2 : Int32) (hst : l.stackTraces = false) (hF : fX5_setWater m_water a1 a2 = some (.inr 1)) : KI l D (tyW cy) sa yL_setWater wsL_setWater rL_setWater [.ref (h 0), .int a1, .int a2, .ref g] (wX5L cy h m_day m_coins m_felts m_made m_worth m_rags m_water m_pulp m_beat m_sort m_nM m_mark m_size m_worn m_nT m_skill m_vat m_pair m_nQ m_allS m_pmark m_pgrade m_psheets m_loft t_day t_coins t_felts t_made t_worth t_rags t_water t_pulp t_beat t_sort t_nM t_mark t_size t_worn t_nT t_skill t_vat t_pair t_nQ t_allS t_pmark t_pgrade t_psheets t_loft g lo) 2 (fun _ => wX5L cy h m_day m_coins m_felts m_made m_worth m_rags m_water m_pulp m_beat m_sort m_nM m_mark m_size m_worn m_nT m_skill m_vat m_pair m_nQ m_allS m_pmark m_pgrade m_psheets m_loft t_day t_coins t_felts t_made t_worth t_rags t_water t_pulp t_beat t_sort t_nM t_mark t_size t_worn t_nT t_skill t_vat t_pair t_nQ t_allS t_pmark t_pgrade t_psheets t_loft g lo) 1 6 := by
  refine KI.ofH (cc := cL_setWater) (maxL := 5) (hh := [(0, 10, 13, 13), (0, 10, 17, 15)]) (by decide +kernel) rfl (Nat.le_of_ble_eq_true rfl) ?_
  intro p e s m args below meth c A ls Q hE htab hQ
  obtain ⟨hx, hb, hml, hown, hts, hA, hP, hK, hD, hG, hl, hnm⟩ := hE
  replace hown : s.vm.findClass RL = some m.cls := hown
  replace hl : lv_has ls 5 [(0, .ref (h 0)), (1, .int a1), (2, .int a2), (3, .ref g)] := hl
  have hS : va_S A s.heap s.heap [] := va_S.rf
  refine lv_aload_n hx hb dL_setWater_0 rfl (lv_at hl 3 rfl) ?_
  refine lv_iconst (v := 0) hx hb dL_setWater_1 (by decide) ?_
  refine lv_aload_n hx hb dL_setWater_2 rfl (lv_at hl 0 rfl) ?_
  refine lv_iload_n hx hb dL_setWater_3 rfl (lv_at hl 1 rfl) ?_
  refine lv_iload_n hx hb dL_setWater_4 rfl (lv_at hl 2 rfl) ?_
  refine kcX (E0 := "java/lang/IllegalArgumentException") (kVX (As := [.int a1, .int a2]) ⟨hx, hb, hml, hown, hts⟩ (kX5_setWaterx l D cy sa h m_day m_coins m_felts m_made m_worth m_rags m_water m_pulp m_beat m_sort m_nM m_mark m_size m_worn m_nT m_skill m_vat m_pair m_nQ m_allS m_pmark m_pgrade m_psheets m_loft t_day t_coins t_felts t_made t_worth t_rags t_water t_pulp t_beat t_sort t_nM t_mark t_size t_worn t_nT t_skill t_vat t_pair t_nQ t_allS t_pmark t_pgrade t_psheets t_loft a1 a2 hst 1 hF _) (cwV 2 hts gL_setWater_X5_setWater rfl rfl rfl (by decide +kernel) ⟨Nat.le_of_ble_eq_true rfl, Nat.le_of_ble_eq_true rfl⟩) hK hP hD hS hA hG [0, 1, 2, 3, 4, 5, 6, 7, 8, 9, 10, 11, 12, 13, 14, 15, 16, 17, 18, 19, 20, 21, 22, 23, 24, 25, 26, 27, 28, 29, 30, 31, 32, 33, 34, 35, 36, 37, 38, 39, 40] hcX5L_X5_0 ndX5_0 gtX5_0 rfl rfl rfl hl.1 [.int 0, .ref g] rfl (Nat.le_of_ble_eq_true rfl) dL_setWater_5 ⟨Nat.le_of_ble_eq_true rfl, Nat.le_of_ble_eq_true rfl⟩) hP hD hS hA [0, 1, 2, 3, 4, 5, 6, 7, 8, 9, 10, 11, 12, 13, 14, 15, 16, 17, 18, 19, 20, 21, 22, 23, 24, 25, 26, 27, 28, 29, 30, 31, 32, 33, 34, 35, 36, 37, 38, 39, 40] hcX5L_X5_0 (fun ce q9 H locs hP hS hc9 hv9 hE9 => ?_)
  refine vx_catch (own := RL) (name := "java/lang/IllegalArgumentException") (E := "java/lang/IllegalArgumentException") hown [⟨0, 10, 13, 13⟩] ⟨0, 10, 17, 15⟩ [] htab (List.forall_mem_cons.mpr ⟨Or.inr ⟨by decide, "java/lang/IndexOutOfBoundsException", hts _ (by decide +kernel), hG.1.2.1 ("java/lang/IllegalArgumentException", "java/lang/IndexOutOfBoundsException") (by decide +kernel)⟩, fun _ h9 => absurd h9 List.not_mem_nil⟩) (by decide) (by decide) (hts (.classLink RL 15 "java/lang/IllegalArgumentException") (by decide +kernel)) (va_Nw.use rfl (hG.1.1 _ (by decide +kernel))) hc9 hv9 hE9 ?_
  refine lv_astore (lv' := [(4, .ref q9), (0, .ref (h 0)), (1, .int a1), (2, .int a2), (3, .ref g)]) hx hb dL_setWater_17 hl (by decide) rfl (fun ls hl => ?_)
  refine lv_iconst (v := 2) hx hb dL_setWater_19 (by decide) ?_
  exact hQ _ _ _ _ _ _ (fun _ => 0) dL_setWater_20 hP hD hS (Nat.le_of_ble_eq_true rfl) (Nat.le_of_ble_eq_true rfl)
def fL_setWater (m_water : FN) (a1 : Int32) (a2 : Int32) (lo : Nat → Int64) : Option (Int32 × FN × (Nat → Int64)) := match fX5_setWater m_water a1 a2 with
  | some (.inl z) => some (0, z.2, vp_updL lo (0 : Int32).toNatClampNeg z.1.toInt64)
  | some (.inr kx) => if kx = 0 then some (1, m_water, lo) else if kx = 1 then some (2, m_water, lo) else none
  | none => none
set_option maxHeartbeats 4000000 in
set_option maxRecDepth 100000 in
theorem kL_setWater (l : Launch) (D : va_G) (cy : Nat → ClassId) (sa : Nat → Nat) (h : Nat → Nat) (m_day : Int32) (m_coins : Int32) (m_felts : Int32) (m_made : Int32) (m_worth : Int32) (m_rags : FN) (m_water : FN) (m_pulp : FN) (m_beat : FN) (m_sort : FN) (m_nM : Int32) (m_mark : FN) (m_size : FN) (m_worn : FN) (m_nT : Int32) (m_skill : FN) (m_vat : FN) (m_pair : FN) (m_nQ : Int32) (m_allS : Int32) (m_pmark : FN) (m_pgrade : FN) (m_psheets : FN) (m_loft : FN) (t_day : Int32) (t_coins : Int32) (t_felts : Int32) (t_made : Int32) (t_worth : Int32) (t_rags : FN) (t_water : FN) (t_pulp : FN) (t_beat : FN) (t_sort : FN) (t_nM : Int32) (t_mark : FN) (t_size : FN) (t_worn : FN) (t_nT : Int32) (t_skill : FN) (t_vat : FN) (t_pair : FN) (t_nQ : Int32) (t_allS : Int32) (t_pmark : FN) (t_pgrade : FN) (t_psheets : FN) (t_loft : FN) (g : Nat) (lo : Nat → Int64) (a1 : Int32) (a2 : Int32) (hst : l.stackTraces = false) (z : Int32 × FN × (Nat → Int64)) (hF : fL_setWater m_water a1 a2 lo = some z) : KI l D (tyW cy) sa yL_setWater wsL_setWater rL_setWater [.ref (h 0), .int a1, .int a2, .ref g] (wX5L cy h m_day m_coins m_felts m_made m_worth m_rags m_water m_pulp m_beat m_sort m_nM m_mark m_size m_worn m_nT m_skill m_vat m_pair m_nQ m_allS m_pmark m_pgrade m_psheets m_loft t_day t_coins t_felts t_made t_worth t_rags t_water t_pulp t_beat t_sort t_nM t_mark t_size t_worn t_nT t_skill t_vat t_pair t_nQ t_allS t_pmark t_pgrade t_psheets t_loft g lo) z.1 (fun _ => wX5L cy h m_day m_coins m_felts m_made m_worth m_rags z.2.1 m_pulp m_beat m_sort m_nM m_mark m_size m_worn m_nT m_skill m_vat m_pair m_nQ m_allS m_pmark m_pgrade m_psheets m_loft t_day t_coins t_felts t_made t_worth t_rags t_water t_pulp t_beat t_sort t_nM t_mark t_size t_worn t_nT t_skill t_vat t_pair t_nQ t_allS t_pmark t_pgrade t_psheets t_loft g z.2.2) 1 6 := by
  unfold fL_setWater at hF
  cases ho : fX5_setWater m_water a1 a2 with
  | none =>
    rw [ho] at hF
    cases hF
  | some o =>
    cases o with
    | inl z0 =>
      rw [ho] at hF
      cases hF
      exact kL_setWater_ok l D cy sa h m_day m_coins m_felts m_made m_worth m_rags m_water m_pulp m_beat m_sort m_nM m_mark m_size m_worn m_nT m_skill m_vat m_pair m_nQ m_allS m_pmark m_pgrade m_psheets m_loft t_day t_coins t_felts t_made t_worth t_rags t_water t_pulp t_beat t_sort t_nM t_mark t_size t_worn t_nT t_skill t_vat t_pair t_nQ t_allS t_pmark t_pgrade t_psheets t_loft g lo a1 a2 z0 ho
    | inr kx =>
      rw [ho] at hF
      replace hF : (if kx = 0 then some (1, m_water, lo) else if kx = 1 then some (2, m_water, lo) else none) = some z := hF
      by_cases c0 : kx = 0
      · subst c0
        replace hF := if_t hF rfl
        cases hF
        exact kL_setWater_x0 l D cy sa h m_day m_coins m_felts m_made m_worth m_rags m_water m_pulp m_beat m_sort m_nM m_mark m_size m_worn m_nT m_skill m_vat m_pair m_nQ m_allS m_pmark m_pgrade m_psheets m_loft t_day t_coins t_felts t_made t_worth t_rags t_water t_pulp t_beat t_sort t_nM t_mark t_size t_worn t_nT t_skill t_vat t_pair t_nQ t_allS t_pmark t_pgrade t_psheets t_loft g lo a1 a2 hst ho
      · replace hF := if_f hF c0
        by_cases c1 : kx = 1
        · subst c1
          replace hF := if_t hF rfl
          cases hF
          exact kL_setWater_x1 l D cy sa h m_day m_coins m_felts m_made m_worth m_rags m_water m_pulp m_beat m_sort m_nM m_mark m_size m_worn m_nT m_skill m_vat m_pair m_nQ m_allS m_pmark m_pgrade m_psheets m_loft t_day t_coins t_felts t_made t_worth t_rags t_water t_pulp t_beat t_sort t_nM t_mark t_size t_worn t_nT t_skill t_vat t_pair t_nQ t_allS t_pmark t_pgrade t_psheets t_loft g lo a1 a2 hst ho
        · replace hF := if_f hF c1
          cases hF

abbrev rL_about : Room := { frames := 7, cells := 1, slots := 6, locals := 120 }
set_option maxHeartbeats 4000000 in
set_option maxRecDepth 100000 in
theorem kL_about_ok (l : Launch) (D : va_G) (cy : Nat → ClassId) (sa : Nat → Nat) (h : Nat → Nat) (m_day : Int32) (m_coins : Int32) (m_felts : Int32) (m_made : Int32) (m_worth : Int32) (m_rags : FN) (m_water : FN) (m_pulp : FN) (m_beat : FN) (m_sort : FN) (m_nM : Int32) (m_mark : FN) (m_size : FN) (m_worn : FN) (m_nT : Int32) (m_skill : FN) (m_vat : FN) (m_pair : FN) (m_nQ : Int32) (m_allS : Int32) (m_pmark : FN) (m_pgrade : FN) (m_psheets : FN) (m_loft : FN) (t_day : Int32) (t_coins : Int32) (t_felts : Int32) (t_made : Int32) (t_worth : Int32) (t_rags : FN) (t_water : FN) (t_pulp : FN) (t_beat : FN) (t_sort : FN) (t_nM : Int32) (t_mark : FN) (t_size : FN) (t_worn : FN) (t_nT : Int32) (t_skill : FN) (t_vat : FN) (t_pair : FN) (t_nQ : Int32) (t_allS : Int32) (t_pmark : FN) (t_pgrade : FN) (t_psheets : FN) (t_loft : FN) (g : Nat) (lo : Nat → Int64) (a1 : Int32) (a2 : Int32) (z : Int32) (hF : fX5_about m_pulp m_beat m_sort a1 a2 = some (.inl z)) : KI l D (tyW cy) sa yL_about wsL_about rL_about [.ref (h 0), .int a1, .int a2, .ref g] (wX5L cy h m_day m_coins m_felts m_made m_worth m_rags m_water m_pulp m_beat m_sort m_nM m_mark m_size m_worn m_nT m_skill m_vat m_pair m_nQ m_allS m_pmark m_pgrade m_psheets m_loft t_day t_coins t_felts t_made t_worth t_rags t_water t_pulp t_beat t_sort t_nM t_mark t_size t_worn t_nT t_skill t_vat t_pair t_nQ t_allS t_pmark t_pgrade t_psheets t_loft g lo) 0 (fun _ => wX5L cy h m_day m_coins m_felts m_made m_worth m_rags m_water m_pulp m_beat m_sort m_nM m_mark m_size m_worn m_nT m_skill m_vat m_pair m_nQ m_allS m_pmark m_pgrade m_psheets m_loft t_day t_coins t_felts t_made t_worth t_rags t_water t_pulp t_beat t_sort t_nM t_mark t_size t_worn t_nT t_skill t_vat t_pair t_nQ t_allS t_pmark t_pgrade t_psheets t_loft g (vp_updL lo (0 : Int32).toNatClampNeg z.toInt64)) 1 6 := by
  refine KI.ofH (cc := cL_about) (maxL := 5) (hh := [(0, 10, 13, 13)]) (by decide +kernel) rfl (Nat.le_of_ble_eq_true rfl) ?_
  intro p e s m args below meth c A ls Q hE htab hQ
  obtain ⟨hx, hb, hml, hown, hts, hA, hP, hK, hD, hG, hl, hnm⟩ := hE
  replace hown : s.vm.findClass RL = some m.cls := hown
  replace hl : lv_has ls 5 [(0, .ref (h 0)), (1, .int a1), (2, .int a2), (3, .ref g)] := hl
  have hS : va_S A s.heap s.heap [] := va_S.rf
  refine lv_aload_n hx hb dL_about_0 rfl (lv_at hl 3 rfl) ?_
  refine lv_iconst (v := 0) hx hb dL_about_1 (by decide) ?_
  refine lv_aload_n hx hb dL_about_2 rfl (lv_at hl 0 rfl) ?_
  refine lv_iload_n hx hb dL_about_3 rfl (lv_at hl 1 rfl) ?_
  refine lv_iload_n hx hb dL_about_4 rfl (lv_at hl 2 rfl) ?_
  refine krI (kV (As := [.int a1, .int a2]) ⟨hx, hb, hml, hown, hts⟩ (kX5_about l D cy sa h m_day m_coins m_felts m_made m_worth m_rags m_water m_pulp m_beat m_sort m_nM m_mark m_size m_worn m_nT m_skill m_vat m_pair m_nQ m_allS m_pmark m_pgrade m_psheets m_loft t_day t_coins t_felts t_made t_worth t_rags t_water t_pulp t_beat t_sort t_nM t_mark t_size t_worn t_nT t_skill t_vat t_pair t_nQ t_allS t_pmark t_pgrade t_psheets t_loft a1 a2 z hF _) (cwV 2 hts gL_about_X5_about rfl rfl rfl (by decide +kernel) ⟨Nat.le_of_ble_eq_true rfl, Nat.le_of_ble_eq_true rfl⟩) hK hP hD hS hA hG [0, 1, 2, 3, 4, 5, 6, 7, 8, 9, 10, 11, 12, 13, 14, 15, 16, 17, 18, 19, 20, 21, 22, 23, 24, 25, 26, 27, 28, 29, 30, 31, 32, 33, 34, 35, 36, 37, 38, 39, 40] hcX5L_X5_0 ndX5_0 gtX5_0 rfl rfl rfl hl.1 [.int 0, .ref g] rfl (Nat.le_of_ble_eq_true rfl) dL_about_5 ⟨Nat.le_of_ble_eq_true rfl, Nat.le_of_ble_eq_true rfl⟩) hP hD hS hA [0, 1, 2, 3, 4, 5, 6, 7, 8, 9, 10, 11, 12, 13, 14, 15, 16, 17, 18, 19, 20, 21, 22, 23, 24, 25, 26, 27, 28, 29, 30, 31, 32, 33, 34, 35, 36, 37, 38, 39, 40] hcX5L_X5_0 (fun H locs hP hS => ?_)
  refine lv_i2l hx hb dL_about_8 rfl ?_
  refine va_last hx hb hK hP hD hS 41 2 gtX5L_41 rfl (show ¬ ((0 : Int32) < 0 ∨ 1 ≤ (0 : Int32).toNatClampNeg) from by decide) dL_about_9 (fun H locs hP hD hS => ?_)
  rw [stLX5L] at hP hD
  refine lv_goto (tgt := 17) hx hb dL_about_10 (by decide) ?_
  refine lv_iconst (v := 0) hx hb dL_about_17 (by decide) ?_
  exact hQ _ _ _ _ _ _ (fun _ => 0) dL_about_18 hP hD hS (Nat.le_of_ble_eq_true rfl) (Nat.le_of_ble_eq_true rfl)
set_option maxHeartbeats 4000000 in
set_option maxRecDepth 100000 in
theorem kL_about_x0 (l : Launch) (D : va_G) (cy : Nat → ClassId) (sa : Nat → Nat) (h : Nat → Nat) (m_day : Int32) (m_coins : Int32) (m_felts : Int32) (m_made : Int32) (m_worth : Int32) (m_rags : FN) (m_water : FN) (m_pulp : FN) (m_beat : FN) (m_sort : FN) (m_nM : Int32) (m_mark : FN) (m_size : FN) (m_worn : FN) (m_nT : Int32) (m_skill : FN) (m_vat : FN) (m_pair : FN) (m_nQ : Int32) (m_allS : Int32) (m_pmark : FN) (m_pgrade : FN) (m_psheets : FN) (m_loft : FN) (t_day : Int32) (t_coins : Int32) (t_felts : Int32) (t_made : Int32) (t_worth : Int32) (t_rags : FN) (t_water : FN) (t_pulp : FN) (t_beat : FN) (t_sort : FN) (t_nM : Int32) (t_mark : FN) (t_size : FN) (t_worn : FN) (t_nT : Int32) (t_skill : FN) (t_vat : FN) (t_pair : FN) (t_nQ : Int32) (t_allS : Int32) (t_pmark : FN) (t_pgrade : FN) (t_psheets : FN) (t_loft : FN) (g : Nat) (lo : Nat → Int64) (a1 : Int32) (a2 : Int32) (hst : l.stackTraces = false) (hF : fX5_about m_pulp m_beat m_sort a1 a2 = some (.inr 0)) : KI l D (tyW cy) sa yL_about wsL_about rL_about [.ref (h 0), .int a1, .int a2, .ref g] (wX5L cy h m_day m_coins m_felts m_made m_worth m_rags m_water m_pulp m_beat m_sort m_nM m_mark m_size m_worn m_nT m_skill m_vat m_pair m_nQ m_allS m_pmark m_pgrade m_psheets m_loft t_day t_coins t_felts t_made t_worth t_rags t_water t_pulp t_beat t_sort t_nM t_mark t_size t_worn t_nT t_skill t_vat t_pair t_nQ t_allS t_pmark t_pgrade t_psheets t_loft g lo) 1 (fun _ => wX5L cy h m_day m_coins m_felts m_made m_worth m_rags m_water m_pulp m_beat m_sort m_nM m_mark m_size m_worn m_nT m_skill m_vat m_pair m_nQ m_allS m_pmark m_pgrade m_psheets m_loft t_day t_coins t_felts t_made t_worth t_rags t_water t_pulp t_beat t_sort t_nM t_mark t_size t_worn t_nT t_skill t_vat t_pair t_nQ t_allS t_pmark t_pgrade t_psheets t_loft g lo) 1 6 := by
  refine KI.ofH (cc := cL_about) (maxL := 5) (hh := [(0, 10, 13, 13)]) (by decide +kernel) rfl (Nat.le_of_ble_eq_true rfl) ?_
  intro p e s m args below meth c A ls Q hE htab hQ
  obtain ⟨hx, hb, hml, hown, hts, hA, hP, hK, hD, hG, hl, hnm⟩ := hE
  replace hown : s.vm.findClass RL = some m.cls := hown
  replace hl : lv_has ls 5 [(0, .ref (h 0)), (1, .int a1), (2, .int a2), (3, .ref g)] := hl
  have hS : va_S A s.heap s.heap [] := va_S.rf
  refine lv_aload_n hx hb dL_about_0 rfl (lv_at hl 3 rfl) ?_
  refine lv_iconst (v := 0) hx hb dL_about_1 (by decide) ?_
  refine lv_aload_n hx hb dL_about_2 rfl (lv_at hl 0 rfl) ?_
  refine lv_iload_n hx hb dL_about_3 rfl (lv_at hl 1 rfl) ?_
  refine lv_iload_n hx hb dL_about_4 rfl (lv_at hl 2 rfl) ?_
  refine kcX (E0 := "java/lang/IndexOutOfBoundsException") (kVX (As := [.int a1, .int a2]) ⟨hx, hb, hml, hown, hts⟩ (kX5_aboutx l D cy sa h m_day m_coins m_felts m_made m_worth m_rags m_water m_pulp m_beat m_sort m_nM m_mark m_size m_worn m_nT m_skill m_vat m_pair m_nQ m_allS m_pmark m_pgrade m_psheets m_loft t_day t_coins t_felts t_made t_worth t_rags t_water t_pulp t_beat t_sort t_nM t_mark t_size t_worn t_nT t_skill t_vat t_pair t_nQ t_allS t_pmark t_pgrade t_psheets t_loft a1 a2 hst 0 hF _) (cwV 2 hts gL_about_X5_about rfl rfl rfl (by decide +kernel) ⟨Nat.le_of_ble_eq_true rfl, Nat.le_of_ble_eq_true rfl⟩) hK hP hD hS hA hG [0, 1, 2, 3, 4, 5, 6, 7, 8, 9, 10, 11, 12, 13, 14, 15, 16, 17, 18, 19, 20, 21, 22, 23, 24, 25, 26, 27, 28, 29, 30, 31, 32, 33, 34, 35, 36, 37, 38, 39, 40] hcX5L_X5_0 ndX5_0 gtX5_0 rfl rfl rfl hl.1 [.int 0, .ref g] rfl (Nat.le_of_ble_eq_true rfl) dL_about_5 ⟨Nat.le_of_ble_eq_true rfl, Nat.le_of_ble_eq_true rfl⟩) hP hD hS hA [0, 1, 2, 3, 4, 5, 6, 7, 8, 9, 10, 11, 12, 13, 14, 15, 16, 17, 18, 19, 20, 21, 22, 23, 24, 25, 26, 27, 28, 29, 30, 31, 32, 33, 34, 35, 36, 37, 38, 39, 40] hcX5L_X5_0 (fun ce q9 H locs hP hS hc9 hv9 hE9 => ?_)
  refine vx_catch (own := RL) (name := "java/lang/IndexOutOfBoundsException") (E := "java/lang/IndexOutOfBoundsException") hown [] ⟨0, 10, 13, 13⟩ [] htab (fun z hz => by cases hz) (by decide) (by decide) (hts (.classLink RL 13 "java/lang/IndexOutOfBoundsException") (by decide +kernel)) (va_Nw.use rfl (hG.1.1 _ (by decide +kernel))) hc9 hv9 hE9 ?_
  refine lv_astore (lv' := [(4, .ref q9), (0, .ref (h 0)), (1, .int a1), (2, .int a2), (3, .ref g)]) hx hb dL_about_13 hl (by decide) rfl (fun ls hl => ?_)
  refine lv_iconst (v := 1) hx hb dL_about_15 (by decide) ?_
  exact hQ _ _ _ _ _ _ (fun _ => 0) dL_about_16 hP hD hS (Nat.le_of_ble_eq_true rfl) (Nat.le_of_ble_eq_true rfl)
def fL_about (m_pulp : FN) (m_beat : FN) (m_sort : FN) (a1 : Int32) (a2 : Int32) (lo : Nat → Int64) : Option (Int32 × (Nat → Int64)) := match fX5_about m_pulp m_beat m_sort a1 a2 with
  | some (.inl z) => some (0, vp_updL lo (0 : Int32).toNatClampNeg z.toInt64)
  | some (.inr kx) => if kx = 0 then some (1, lo) else none
  | none => none
set_option maxHeartbeats 4000000 in
set_option maxRecDepth 100000 in
theorem kL_about (l : Launch) (D : va_G) (cy : Nat → ClassId) (sa : Nat → Nat) (h : Nat → Nat) (m_day : Int32) (m_coins : Int32) (m_felts : Int32) (m_made : Int32) (m_worth : Int32) (m_rags : FN) (m_water : FN) (m_pulp : FN) (m_beat : FN) (m_sort : FN) (m_nM : Int32) (m_mark : FN) (m_size : FN) (m_worn : FN) (m_nT : Int32) (m_skill : FN) (m_vat : FN) (m_pair : FN) (m_nQ : Int32) (m_allS : Int32) (m_pmark : FN) (m_pgrade : FN) (m_psheets : FN) (m_loft : FN) (t_day : Int32) (t_coins : Int32) (t_felts : Int32) (t_made : Int32) (t_worth : Int32) (t_rags : FN) (t_water : FN) (t_pulp : FN) (t_beat : FN) (t_sort : FN) (t_nM : Int32) (t_mark : FN) (t_size : FN) (t_worn : FN) (t_nT : Int32) (t_skill : FN) (t_vat : FN) (t_pair : FN) (t_nQ : Int32) (t_allS : Int32) (t_pmark : FN) (t_pgrade : FN) (t_psheets : FN) (t_loft : FN) (g : Nat) (lo : Nat → Int64) (a1 : Int32) (a2 : Int32) (hst : l.stackTraces = false) (z : Int32 × (Nat → Int64)) (hF : fL_about m_pulp m_beat m_sort a1 a2 lo = some z) : KI l D (tyW cy) sa yL_about wsL_about rL_about [.ref (h 0), .int a1, .int a2, .ref g] (wX5L cy h m_day m_coins m_felts m_made m_worth m_rags m_water m_pulp m_beat m_sort m_nM m_mark m_size m_worn m_nT m_skill m_vat m_pair m_nQ m_allS m_pmark m_pgrade m_psheets m_loft t_day t_coins t_felts t_made t_worth t_rags t_water t_pulp t_beat t_sort t_nM t_mark t_size t_worn t_nT t_skill t_vat t_pair t_nQ t_allS t_pmark t_pgrade t_psheets t_loft g lo) z.1 (fun _ => wX5L cy h m_day m_coins m_felts m_made m_worth m_rags m_water m_pulp m_beat m_sort m_nM m_mark m_size m_worn m_nT m_skill m_vat m_pair m_nQ m_allS m_pmark m_pgrade m_psheets m_loft t_day t_coins t_felts t_made t_worth t_rags t_water t_pulp t_beat t_sort t_nM t_mark t_size t_worn t_nT t_skill t_vat t_pair t_nQ t_allS t_pmark t_pgrade t_psheets t_loft g z.2) 1 6 := by
  unfold fL_about at hF
  cases ho : fX5_about m_pulp m_beat m_sort a1 a2 with
  | none =>
    rw [ho] at hF
    cases hF
  | some o =>
    cases o with
    | inl z0 =>
      rw [ho] at hF
      cases hF
      exact kL_about_ok l D cy sa h m_day m_coins m_felts m_made m_worth m_rags m_water m_pulp m_beat m_sort m_nM m_mark m_size m_worn m_nT m_skill m_vat m_pair m_nQ m_allS m_pmark m_pgrade m_psheets m_loft t_day t_coins t_felts t_made t_worth t_rags t_water t_pulp t_beat t_sort t_nM t_mark t_size t_worn t_nT t_skill t_vat t_pair t_nQ t_allS t_pmark t_pgrade t_psheets t_loft g lo a1 a2 z0 ho
    | inr kx =>
      rw [ho] at hF
      replace hF : (if kx = 0 then some (1, lo) else none) = some z := hF
      by_cases c0 : kx = 0
      · subst c0
        replace hF := if_t hF rfl
        cases hF
        exact kL_about_x0 l D cy sa h m_day m_coins m_felts m_made m_worth m_rags m_water m_pulp m_beat m_sort m_nM m_mark m_size m_worn m_nT m_skill m_vat m_pair m_nQ m_allS m_pmark m_pgrade m_psheets m_loft t_day t_coins t_felts t_made t_worth t_rags t_water t_pulp t_beat t_sort t_nM t_mark t_size t_worn t_nT t_skill t_vat t_pair t_nQ t_allS t_pmark t_pgrade t_psheets t_loft g lo a1 a2 hst ho
      · replace hF := if_f hF c0
        cases hF
