def fX5_worthOfDayWith (m_day : Int32) (m_coins : Int32) (m_felts : Int32) (m_made : Int32) (m_worth : Int32) (m_rags : FN) (m_water : FN) (m_pulp : FN) (m_beat : FN) (m_sort : FN) (m_nM : Int32) (m_mark : FN) (m_size : FN) (m_worn : FN) (m_nT : Int32) (m_skill : FN) (m_vat : FN) (m_pair : FN) (m_nQ : Int32) (m_allS : Int32) (m_pmark : FN) (m_pgrade : FN) (m_psheets : FN) (m_loft : FN) (a1 : Int32) (a2 : Int32) (a3 : Int32) : Option (Int32 × Int32 × Int32 × Int32 × Int32 × Int32 × FN × FN × FN × FN × FN × Int32 × FN × FN × FN × Int32 × FN × FN × FN × Int32 × Int32 × FN × FN × FN × FN) := (fX0_becomeLike m_day m_coins m_felts m_made m_worth m_rags m_water m_pulp m_beat m_sort m_nM m_mark m_size m_worn m_nT m_skill m_vat m_pair m_nQ m_allS m_pmark m_pgrade m_psheets m_loft).bind fun z1 => (fX3_send z1.2.2.2.2.2.2.2.2.2.2.2.2.2.2.1 z1.2.2.2.2.2.2.2.2.2.2.2.2.2.2.2.2.1 z1.2.2.2.2.2.2.2.2.2.2.2.2.2.2.2.2.2.1 a1 a2 a3).bind fun z2 => (fX0_liveDay z1.1 z1.2.2.1 z1.2.2.2.1 z1.2.2.2.2.1 z1.2.2.2.2.2.2.1 z1.2.2.2.2.2.2.2.1 z1.2.2.2.2.2.2.2.2.1 z1.2.2.2.2.2.2.2.2.2.1 z1.2.2.2.2.2.2.2.2.2.2.1 z1.2.2.2.2.2.2.2.2.2.2.2.1 z1.2.2.2.2.2.2.2.2.2.2.2.2.1 z1.2.2.2.2.2.2.2.2.2.2.2.2.2.1 z1.2.2.2.2.2.2.2.2.2.2.2.2.2.2.1 z1.2.2.2.2.2.2.2.2.2.2.2.2.2.2.2.1 z2.1 z2.2 z1.2.2.2.2.2.2.2.2.2.2.2.2.2.2.2.2.2.2.1 z1.2.2.2.2.2.2.2.2.2.2.2.2.2.2.2.2.2.2.2.1 z1.2.2.2.2.2.2.2.2.2.2.2.2.2.2.2.2.2.2.2.2.1 z1.2.2.2.2.2.2.2.2.2.2.2.2.2.2.2.2.2.2.2.2.2.1 z1.2.2.2.2.2.2.2.2.2.2.2.2.2.2.2.2.2.2.2.2.2.2.1 z1.2.2.2.2.2.2.2.2.2.2.2.2.2.2.2.2.2.2.2.2.2.2.2).bind fun z3 => some (z3.2.2.1 - m_worth, z3.1, z1.2.1, z1.2.2.1, z3.2.1, z3.2.2.1, z1.2.2.2.2.2.1, z1.2.2.2.2.2.2.1, z3.2.2.2.1, z3.2.2.2.2.1, z3.2.2.2.2.2.1, z1.2.2.2.2.2.2.2.2.2.2.1, z1.2.2.2.2.2.2.2.2.2.2.2.1, z1.2.2.2.2.2.2.2.2.2.2.2.2.1, z3.2.2.2.2.2.2.1, z1.2.2.2.2.2.2.2.2.2.2.2.2.2.2.1, z1.2.2.2.2.2.2.2.2.2.2.2.2.2.2.2.1, z2.1, z2.2, z3.2.2.2.2.2.2.2.1, z3.2.2.2.2.2.2.2.2.1, z3.2.2.2.2.2.2.2.2.2.1, z3.2.2.2.2.2.2.2.2.2.2.1, z3.2.2.2.2.2.2.2.2.2.2.2.1, z3.2.2.2.2.2.2.2.2.2.2.2.2)
abbrev rX5_worthOfDayWith : Room := { frames := 5, cells := 0, slots := 0, locals := 113 }
set_option maxHeartbeats 4000000 in
set_option maxRecDepth 100000 in
theorem kX5_worthOfDayWith (l : Launch) (D : va_G) (cy : Nat → ClassId) (sa : Nat → Nat) (h : Nat → Nat) (m_day : Int32) (m_coins : Int32) (m_felts : Int32) (m_made : Int32) (m_worth : Int32) (m_rags : FN) (m_water : FN) (m_pulp : FN) (m_beat : FN) (m_sort : FN) (m_nM : Int32) (m_mark : FN) (m_size : FN) (m_worn : FN) (m_nT : Int32) (m_skill : FN) (m_vat : FN) (m_pair : FN) (m_nQ : Int32) (m_allS : Int32) (m_pmark : FN) (m_pgrade : FN) (m_psheets : FN) (m_loft : FN) (t_day : Int32) (t_coins : Int32) (t_felts : Int32) (t_made : Int32) (t_worth : Int32) (t_rags : FN) (t_water : FN) (t_pulp : FN) (t_beat : FN) (t_sort : FN) (t_nM : Int32) (t_mark : FN) (t_size : FN) (t_worn : FN) (t_nT : Int32) (t_skill : FN) (t_vat : FN) (t_pair : FN) (t_nQ : Int32) (t_allS : Int32) (t_pmark : FN) (t_pgrade : FN) (t_psheets : FN) (t_loft : FN) (a1 : Int32) (a2 : Int32) (a3 : Int32) (z : Int32 × Int32 × Int32 × Int32 × Int32 × Int32 × FN × FN × FN × FN × FN × Int32 × FN × FN × FN × Int32 × FN × FN × FN × Int32 × Int32 × FN × FN × FN × FN) (hF : fX5_worthOfDayWith m_day m_coins m_felts m_made m_worth m_rags m_water m_pulp m_beat m_sort m_nM m_mark m_size m_worn m_nT m_skill m_vat m_pair m_nQ m_allS m_pmark m_pgrade m_psheets m_loft a1 a2 a3 = some z) : KI l D (tyW cy) sa yX5_worthOfDayWith wsX5_worthOfDayWith rX5_worthOfDayWith [.ref (h 0), .int a1, .int a2, .int a3] (wX5 cy h m_day m_coins m_felts m_made m_worth m_rags m_water m_pulp m_beat m_sort m_nM m_mark m_size m_worn m_nT m_skill m_vat m_pair m_nQ m_allS m_pmark m_pgrade m_psheets m_loft t_day t_coins t_felts t_made t_worth t_rags t_water t_pulp t_beat t_sort t_nM t_mark t_size t_worn t_nT t_skill t_vat t_pair t_nQ t_allS t_pmark t_pgrade t_psheets t_loft) z.1 (fun _ => wX5 cy h m_day m_coins m_felts m_made m_worth m_rags m_water m_pulp m_beat m_sort m_nM m_mark m_size m_worn m_nT m_skill m_vat m_pair m_nQ m_allS m_pmark m_pgrade m_psheets m_loft z.2.1 z.2.2.1 z.2.2.2.1 z.2.2.2.2.1 z.2.2.2.2.2.1 z.2.2.2.2.2.2.1 z.2.2.2.2.2.2.2.1 z.2.2.2.2.2.2.2.2.1 z.2.2.2.2.2.2.2.2.2.1 z.2.2.2.2.2.2.2.2.2.2.1 z.2.2.2.2.2.2.2.2.2.2.2.1 z.2.2.2.2.2.2.2.2.2.2.2.2.1 z.2.2.2.2.2.2.2.2.2.2.2.2.2.1 z.2.2.2.2.2.2.2.2.2.2.2.2.2.2.1 z.2.2.2.2.2.2.2.2.2.2.2.2.2.2.2.1 z.2.2.2.2.2.2.2.2.2.2.2.2.2.2.2.2.1 z.2.2.2.2.2.2.2.2.2.2.2.2.2.2.2.2.2.1 z.2.2.2.2.2.2.2.2.2.2.2.2.2.2.2.2.2.2.1 z.2.2.2.2.2.2.2.2.2.2.2.2.2.2.2.2.2.2.2.1 z.2.2.2.2.2.2.2.2.2.2.2.2.2.2.2.2.2.2.2.2.1 z.2.2.2.2.2.2.2.2.2.2.2.2.2.2.2.2.2.2.2.2.2.1 z.2.2.2.2.2.2.2.2.2.2.2.2.2.2.2.2.2.2.2.2.2.2.1 z.2.2.2.2.2.2.2.2.2.2.2.2.2.2.2.2.2.2.2.2.2.2.2.1 z.2.2.2.2.2.2.2.2.2.2.2.2.2.2.2.2.2.2.2.2.2.2.2.2) 0 0 := by
  refine KI.of (cc := cX5_worthOfDayWith) (maxL := 4) (by decide +kernel) rfl (Nat.le_of_ble_eq_true rfl) ?_
  intro p e s m args below meth c A ls Q hE hQ
  obtain ⟨hx, hb, hml, hown, hts, hA, hP, hK, hD, hG, hl, hnm⟩ := hE
  replace hown : s.vm.findClass RX5 = some m.cls := hown
  have hiX0 : ∀ w ∈ u_ws RX0 TX0 12, w ∈ wsX5_worthOfDayWith := by decide +kernel
  have hiX5 : ∀ w ∈ u_ws RX5 TX5 2, w ∈ wsX5_worthOfDayWith := by decide +kernel
  have hf10 : (Cond.fieldLink RX5 10 "RagVats" "mill" "LRagVats$Mill;").before args s = true := hts _ (by decide +kernel)
  have hf16 : (Cond.fieldLink RX5 16 "RagVats" "trial" "LRagVats$Mill;").before args s = true := hts _ (by decide +kernel)
  have hn143 : (Cond.fieldLinkNest RX5 143 "RagVats$Mill" "teams" "LRagVats$Teams;" "RagVats").before args s = true := va_Nw.use rfl (hG.1.1 _ (by decide +kernel))
  have hn255 : (Cond.fieldLinkNest RX5 255 "RagVats$Mill" "worth" "I" "RagVats").before args s = true := va_Nw.use rfl (hG.1.1 _ (by decide +kernel))
  replace hl : lv_has ls 4 [(0, .ref (h 0)), (1, .int a1), (2, .int a2), (3, .int a3)] := hl
  have hS : va_S A s.heap s.heap [] := va_S.rf
  unfold fX5_worthOfDayWith at hF
  refine lv_aload_n hx hb dX5_worthOfDayWith_0 rfl (lv_at hl 0 rfl) ?_
  refine va_get (D := D) (C := RX5) (T := TX5) (N := 2) hx hb hts hiX5 hown hK hP 0 gtX5_0 rfl 1 (by decide) hf16 (fun _ h9 => h9) rfl dX5_worthOfDayWith_1 ?_
  refine lv_aload_n hx hb dX5_worthOfDayWith_4 rfl (lv_at hl 0 rfl) ?_
  refine va_get (D := D) (C := RX5) (T := TX5) (N := 2) hx hb hts hiX5 hown hK hP 0 gtX5_0 rfl 0 (by decide) hf10 (fun _ h9 => h9) rfl dX5_worthOfDayWith_5 ?_
  replace hF := bnd_some hF
  obtain ⟨z1, hz_1, hF⟩ := hF
  refine kwVE (kV (As := [.ref (h 1)]) ⟨hx, hb, hml, hown, hts⟩ (kX0_becomeLike l D cy sa (fun i => h (i + 21)) (fun i => h (i + 1)) t_day t_coins t_felts t_made t_worth t_rags t_water t_pulp t_beat t_sort t_nM t_mark t_size t_worn t_nT t_skill t_vat t_pair t_nQ t_allS t_pmark t_pgrade t_psheets t_loft m_day m_coins m_felts m_made m_worth m_rags m_water m_pulp m_beat m_sort m_nM m_mark m_size m_worn m_nT m_skill m_vat m_pair m_nQ m_allS m_pmark m_pgrade m_psheets m_loft z1 hz_1 _) (cwV 1 hts gX5_worthOfDayWith_X0_becomeLike rfl rfl rfl (by decide +kernel) ⟨Nat.le_of_ble_eq_true rfl, Nat.le_of_ble_eq_true rfl⟩) hK hP hD hS hA hG [21, 22, 23, 24, 25, 26, 27, 28, 29, 30, 31, 32, 33, 34, 35, 36, 37, 38, 39, 40, 1, 2, 3, 4, 5, 6, 7, 8, 9, 10, 11, 12, 13, 14, 15, 16, 17, 18, 19, 20] hcX5_X0X0_21_1 ndX0X0_21_1 gtX0X0_0 rfl rfl rfl hl.1 [] rfl (Nat.le_of_ble_eq_true rfl) dX5_worthOfDayWith_8 ⟨(Nat.le_of_ble_eq_true rfl), (Nat.le_of_ble_eq_true rfl)⟩) hP hD hS hA [21, 22, 23, 24, 25, 26, 27, 28, 29, 30, 31, 32, 33, 34, 35, 36, 37, 38, 39, 40, 1, 2, 3, 4, 5, 6, 7, 8, 9, 10, 11, 12, 13, 14, 15, 16, 17, 18, 19, 20] hcX5_X0X0_21_1 hmX0X0 kpX5_X0X0_21_1 (fun H locs hP hD hS => ?_)
  refine lv_aload_n hx hb dX5_worthOfDayWith_11 rfl (lv_at hl 0 rfl) ?_
  refine va_get (D := D) (C := RX5) (T := TX5) (N := 2) hx hb hts hiX5 hown hK hP 0 gtX5_0 rfl 1 (by decide) hf16 (fun _ h9 => h9) rfl dX5_worthOfDayWith_12 ?_
  refine va_getN (host := "RagVats") (D := D) (C := RX0) (T := TX0) (N := 12) hx hb hts hiX0 hown hK hP 21 gtX5_21 rfl 9 (by decide) hn143 (fun _ h9 => h9) rfl dX5_worthOfDayWith_15 ?_
  refine lv_iload_n hx hb dX5_worthOfDayWith_18 rfl (lv_at hl 1 rfl) ?_
  refine lv_iload_n hx hb dX5_worthOfDayWith_19 rfl (lv_at hl 2 rfl) ?_
  refine lv_iload_n hx hb dX5_worthOfDayWith_20 rfl (lv_at hl 3 rfl) ?_
  replace hF := bnd_some hF
  obtain ⟨z2, hz_2, hF⟩ := hF
  refine kwVE (kV (As := [.int a1, .int a2, .int a3]) ⟨hx, hb, hml, hown, hts⟩ (kX3_send l D cy sa (fun i => h (i + 32)) z1.2.2.2.2.2.2.2.2.2.2.2.2.2.2.1 z1.2.2.2.2.2.2.2.2.2.2.2.2.2.2.2.1 z1.2.2.2.2.2.2.2.2.2.2.2.2.2.2.2.2.1 z1.2.2.2.2.2.2.2.2.2.2.2.2.2.2.2.2.2.1 a1 a2 a3 z2 hz_2 _) (cwV 3 hts gX5_worthOfDayWith_X3_send rfl rfl rfl (by decide +kernel) ⟨Nat.le_of_ble_eq_true rfl, Nat.le_of_ble_eq_true rfl⟩) hK hP hD hS hA hG [32, 33, 34, 35] hcX5_X3_32 ndX3_32 gtX3_0 rfl rfl rfl hl.1 [] rfl (Nat.le_of_ble_eq_true rfl) dX5_worthOfDayWith_21 ⟨(Nat.le_of_ble_eq_true rfl), (Nat.le_of_ble_eq_true rfl)⟩) hP hD hS hA [32, 33, 34, 35] hcX5_X3_32 hmX3 kpX5_X3_32 (fun H locs hP hD hS => ?_)
  refine lv_aload_n hx hb dX5_worthOfDayWith_24 rfl (lv_at hl 0 rfl) ?_
  refine va_get (D := D) (C := RX5) (T := TX5) (N := 2) hx hb hts hiX5 hown hK hP 0 gtX5_0 rfl 1 (by decide) hf16 (fun _ h9 => h9) rfl dX5_worthOfDayWith_25 ?_
  replace hF := bnd_some hF
  obtain ⟨z3, hz_3, hF⟩ := hF
  refine kwVE (kV (As := []) ⟨hx, hb, hml, hown, hts⟩ (kX0_liveDay l D cy sa (fun i => h (i + 21)) z1.1 z1.2.1 z1.2.2.1 z1.2.2.2.1 z1.2.2.2.2.1 z1.2.2.2.2.2.1 z1.2.2.2.2.2.2.1 z1.2.2.2.2.2.2.2.1 z1.2.2.2.2.2.2.2.2.1 z1.2.2.2.2.2.2.2.2.2.1 z1.2.2.2.2.2.2.2.2.2.2.1 z1.2.2.2.2.2.2.2.2.2.2.2.1 z1.2.2.2.2.2.2.2.2.2.2.2.2.1 z1.2.2.2.2.2.2.2.2.2.2.2.2.2.1 z1.2.2.2.2.2.2.2.2.2.2.2.2.2.2.1 z1.2.2.2.2.2.2.2.2.2.2.2.2.2.2.2.1 z2.1 z2.2 z1.2.2.2.2.2.2.2.2.2.2.2.2.2.2.2.2.2.2.1 z1.2.2.2.2.2.2.2.2.2.2.2.2.2.2.2.2.2.2.2.1 z1.2.2.2.2.2.2.2.2.2.2.2.2.2.2.2.2.2.2.2.2.1 z1.2.2.2.2.2.2.2.2.2.2.2.2.2.2.2.2.2.2.2.2.2.1 z1.2.2.2.2.2.2.2.2.2.2.2.2.2.2.2.2.2.2.2.2.2.2.1 z1.2.2.2.2.2.2.2.2.2.2.2.2.2.2.2.2.2.2.2.2.2.2.2 z3 hz_3 _) (cwV 0 hts gX5_worthOfDayWith_X0_liveDay rfl rfl rfl (by decide +kernel) ⟨Nat.le_of_ble_eq_true rfl, Nat.le_of_ble_eq_true rfl⟩) hK hP hD hS hA hG [21, 22, 23, 24, 25, 26, 27, 28, 29, 30, 31, 32, 33, 34, 35, 36, 37, 38, 39, 40] hcX5_X0_21 ndX0_21 gtX0_0 rfl rfl rfl hl.1 [] rfl (Nat.le_of_ble_eq_true rfl) dX5_worthOfDayWith_28 ⟨(Nat.le_of_ble_eq_true rfl), (Nat.le_of_ble_eq_true rfl)⟩) hP hD hS hA [21, 22, 23, 24, 25, 26, 27, 28, 29, 30, 31, 32, 33, 34, 35, 36, 37, 38, 39, 40] hcX5_X0_21 hmX0 kpX5_X0_21 (fun H locs hP hD hS => ?_)
  refine lv_aload_n hx hb dX5_worthOfDayWith_31 rfl (lv_at hl 0 rfl) ?_
  refine va_get (D := D) (C := RX5) (T := TX5) (N := 2) hx hb hts hiX5 hown hK hP 0 gtX5_0 rfl 1 (by decide) hf16 (fun _ h9 => h9) rfl dX5_worthOfDayWith_32 ?_
  refine va_getN (host := "RagVats") (D := D) (C := RX0) (T := TX0) (N := 12) hx hb hts hiX0 hown hK hP 21 gtX5_21 rfl 4 (by decide) hn255 (fun _ h9 => h9) rfl dX5_worthOfDayWith_35 ?_
  refine lv_aload_n hx hb dX5_worthOfDayWith_38 rfl (lv_at hl 0 rfl) ?_
  refine va_get (D := D) (C := RX5) (T := TX5) (N := 2) hx hb hts hiX5 hown hK hP 0 gtX5_0 rfl 0 (by decide) hf10 (fun _ h9 => h9) rfl dX5_worthOfDayWith_39 ?_
  refine va_getN (host := "RagVats") (D := D) (C := RX0) (T := TX0) (N := 12) hx hb hts hiX0 hown hK hP 1 gtX5_1 rfl 4 (by decide) hn255 (fun _ h9 => h9) rfl dX5_worthOfDayWith_42 ?_
  refine lv_isub hx hb dX5_worthOfDayWith_45 ?_
  cases hF
  exact hQ _ _ _ _ _ _ (fun _ => 0) dX5_worthOfDayWith_46 hP hD hS (Nat.le_of_ble_eq_true rfl) (Nat.le_of_ble_eq_true rfl)

def fX5_mix (a1 : Int64) (a2 : Int32) : Option (Int64) := some ((a1 * 31) + a2.toInt64)
abbrev rX5_mix : Room := { frames := 0, cells := 0, slots := 0, locals := 0 }
set_option maxHeartbeats 4000000 in
set_option maxRecDepth 100000 in
theorem kX5_mix (l : Launch) (D : va_G) (cy : Nat → ClassId) (sa : Nat → Nat) (a1 : Int64) (a2 : Int32) (z : Int64) (hF : fX5_mix a1 a2 = some z) : KL l D (tyW cy) sa yX5_mix wsX5_mix rX5_mix [.long a1, .int a2] (([] : va_W)) z (fun _ => ([] : va_W)) 0 0 := by
  refine KL.of (cc := cX5_mix) (maxL := 3) (by decide +kernel) rfl (Nat.le_of_ble_eq_true rfl) ?_
  intro p e s m args below meth c A ls Q hE hQ
  obtain ⟨hx, hb, hml, hown, hts, hA, hP, hK, hD, hG, hl, hnm⟩ := hE
  replace hown : s.vm.findClass RX5 = some m.cls := hown
  replace hl : lv_has ls 3 [(0, .long a1), (2, .int a2)] := hl
  have hS : va_S A s.heap s.heap [] := va_S.rf
  unfold fX5_mix at hF
  refine lv_lload_n hx hb dX5_mix_0 rfl (lv_at hl 0 rfl) ?_
  refine lv_ldc2 (own := RX5) (v := 31) hx hb hown (hts _ (by decide +kernel)) dX5_mix_1 ?_
  refine lv_lmul hx hb dX5_mix_4 ?_
  refine lv_iload_n hx hb dX5_mix_5 rfl (lv_at hl 1 rfl) ?_
  refine lv_i2l hx hb dX5_mix_6 rfl ?_
  refine lv_ladd hx hb dX5_mix_7 ?_
  cases hF
  exact hQ _ _ _ _ _ _ (fun _ => 0) dX5_mix_8 hP hD hS (Nat.le_of_ble_eq_true rfl) (Nat.le_of_ble_eq_true rfl)

def fX5_digestCountsAndRiver_L35 (m_water : FN) : Nat → Int64 → Int32 → Option (Int64)
  | 0, _, _ => none
  | k + 1, x3_35, x5_35 => if 7 ≤ x5_35 then some x3_35 else ckI x5_35 7 ((fX5_mix x3_35 (m_water x5_35.toNatClampNeg)).bind fun z4 => fX5_digestCountsAndRiver_L35 m_water k z4 (x5_35 + 1))
def fX5_digestCountsAndRiver_L5 (m_day : Int32) (m_coins : Int32) (m_felts : Int32) (m_made : Int32) (m_worth : Int32) (m_rags : FN) (m_water : FN) (m_pulp : FN) (m_nQ : Int32) (m_allS : Int32) (m_loft : FN) : Nat → Int64 → Int32 → Option (Int64)
  | 0, _, _ => none
  | k + 1, x3_5, x5_5 => if 12 ≤ x5_5 then fX5_digestCountsAndRiver_L35 m_water 300 x3_5 0 else (fX0_tell m_day m_coins m_felts m_made m_worth m_rags m_pulp m_nQ m_allS m_loft x5_5).bind fun z5 => (fX5_mix x3_5 z5).bind fun z6 => fX5_digestCountsAndRiver_L5 m_day m_coins m_felts m_made m_worth m_rags m_water m_pulp m_nQ m_allS m_loft k z6 (x5_5 + 1)
def fX5_digestCountsAndRiver (m_day : Int32) (m_coins : Int32) (m_felts : Int32) (m_made : Int32) (m_worth : Int32) (m_rags : FN) (m_water : FN) (m_pulp : FN) (m_nQ : Int32) (m_allS : Int32) (m_loft : FN) (a1 : Int64) : Option (Int64) := fX5_digestCountsAndRiver_L5 m_day m_coins m_felts m_made m_worth m_rags m_water m_pulp m_nQ m_allS m_loft 300 a1 0
abbrev rX5_digestCountsAndRiver : Room := { frames := 3, cells := 0, slots := 0, locals := 63 }
set_option maxHeartbeats 4000000 in
set_option maxRecDepth 100000 in
theorem kX5_digestCountsAndRiver (l : Launch) (D : va_G) (cy : Nat → ClassId) (sa : Nat → Nat) (h : Nat → Nat) (m_day : Int32) (m_coins : Int32) (m_felts : Int32) (m_made : Int32) (m_worth : Int32) (m_rags : FN) (m_water : FN) (m_pulp : FN) (m_beat : FN) (m_sort : FN) (m_nM : Int32) (m_mark : FN) (m_size : FN) (m_worn : FN) (m_nT : Int32) (m_skill : FN) (m_vat : FN) (m_pair : FN) (m_nQ : Int32) (m_allS : Int32) (m_pmark : FN) (m_pgrade : FN) (m_psheets : FN) (m_loft : FN) (t_day : Int32) (t_coins : Int32) (t_felts : Int32) (t_made : Int32) (t_worth : Int32) (t_rags : FN) (t_water : FN) (t_pulp : FN) (t_beat : FN) (t_sort : FN) (t_nM : Int32) (t_mark : FN) (t_size : FN) (t_worn : FN) (t_nT : Int32) (t_skill : FN) (t_vat : FN) (t_pair : FN) (t_nQ : Int32) (t_allS : Int32) (t_pmark : FN) (t_pgrade : FN) (t_psheets : FN) (t_loft : FN) (a1 : Int64) (z : Int64) (hF : fX5_digestCountsAndRiver m_day m_coins m_felts m_made m_worth m_rags m_water m_pulp m_nQ m_allS m_loft a1 = some z) : KL l D (tyW cy) sa yX5_digestCountsAndRiver wsX5_digestCountsAndRiver rX5_digestCountsAndRiver [.ref (h 0), .long a1] (wX5 cy h m_day m_coins m_felts m_made m_worth m_rags m_water m_pulp m_beat m_sort m_nM m_mark m_size m_worn m_nT m_skill m_vat m_pair m_nQ m_allS m_pmark m_pgrade m_psheets m_loft t_day t_coins t_felts t_made t_worth t_rags t_water t_pulp t_beat t_sort t_nM t_mark t_size t_worn t_nT t_skill t_vat t_pair t_nQ t_allS t_pmark t_pgrade t_psheets t_loft) z (fun _ => wX5 cy h m_day m_coins m_felts m_made m_worth m_rags m_water m_pulp m_beat m_sort m_nM m_mark m_size m_worn m_nT m_skill m_vat m_pair m_nQ m_allS m_pmark m_pgrade m_psheets m_loft t_day t_coins t_felts t_made t_worth t_rags t_water t_pulp t_beat t_sort t_nM t_mark t_size t_worn t_nT t_skill t_vat t_pair t_nQ t_allS t_pmark t_pgrade t_psheets t_loft) 0 0 := by
  refine KL.of (cc := cX5_digestCountsAndRiver) (maxL := 6) (by decide +kernel) rfl (Nat.le_of_ble_eq_true rfl) ?_
  intro p e s m args below meth c A ls Q hE hQ
  obtain ⟨hx, hb, hml, hown, hts, hA, hP, hK, hD, hG, hl, hnm⟩ := hE
  replace hown : s.vm.findClass RX5 = some m.cls := hown
  have hiX0 : ∀ w ∈ u_ws RX0 TX0 12, w ∈ wsX5_digestCountsAndRiver := by decide +kernel
  have hiX5 : ∀ w ∈ u_ws RX5 TX5 2, w ∈ wsX5_digestCountsAndRiver := by decide +kernel
  have hf10 : (Cond.fieldLink RX5 10 "RagVats" "mill" "LRagVats$Mill;").before args s = true := hts _ (by decide +kernel)
  have hn172 : (Cond.fieldLinkNest RX5 172 "RagVats$Mill" "water" "[I" "RagVats").before args s = true := va_Nw.use rfl (hG.1.1 _ (by decide +kernel))
  replace hl : lv_has ls 6 [(0, .ref (h 0)), (1, .long a1)] := hl
  have hS : va_S A s.heap s.heap [] := va_S.rf
  have L35 : ∀ (k : Nat) (x3_35 : Int64) (x5_35 : Int32), fX5_digestCountsAndRiver_L35 m_water k x3_35 x5_35 = some z → ∀ (H : Heap) (locs : List Loc) (ls : Array Slot), va_P D vwCl (wX5 cy h m_day m_coins m_felts m_made m_worth m_rags m_water m_pulp m_beat m_sort m_nM m_mark m_size m_worn m_nT m_skill m_vat m_pair m_nQ m_allS m_pmark m_pgrade m_psheets m_loft t_day t_coins t_felts t_made t_worth t_rags t_water t_pulp t_beat t_sort t_nM t_mark t_size t_worn t_nT t_skill t_vat t_pair t_nQ t_allS t_pmark t_pgrade t_psheets t_loft) H → va_D A (wX5 cy h m_day m_coins m_felts m_made m_worth m_rags m_water m_pulp m_beat m_sort m_nM m_mark m_size m_worn m_nT m_skill m_vat m_pair m_nQ m_allS m_pmark m_pgrade m_psheets m_loft t_day t_coins t_felts t_made t_worth t_rags t_water t_pulp t_beat t_sort t_nM t_mark t_size t_worn t_nT t_skill t_vat t_pair t_nQ t_allS t_pmark t_pgrade t_psheets t_loft) → va_S A s.heap H locs → lv_has ls 6 [(0, .ref (h 0)), (3, .long x3_35), (5, .int x5_35)] → W p l e rX5_digestCountsAndRiver s m args below meth c H locs 0 0 Q (F0 m 35 ls []) := by
    intro k
    induction k with
    | zero =>
      intro x3_35 x5_35 hF
      rw [fX5_digestCountsAndRiver_L35] at hF
      cases hF
    | succ k ih =>
      intro x3_35 x5_35 hF H locs ls hP hD hS hl
      rw [fX5_digestCountsAndRiver_L35] at hF
      refine lv_iload hx hb dX5_digestCountsAndRiver_35 (lv_at hl 2 rfl) ?_
      refine lv_bipush (v := 7) hx hb dX5_digestCountsAndRiver_37 (by decide) ?_
      refine lv_icmp_ge (tgt := 63) hx hb dX5_digestCountsAndRiver_39 (by decide) (fun c_2 => ?_) (fun c_2 => ?_)
      · replace hF := if_t hF c_2
        refine lv_lload_n hx hb dX5_digestCountsAndRiver_63 rfl (lv_at hl 1 rfl) ?_
        cases hF
        exact hQ _ _ _ _ _ _ (fun _ => 0) dX5_digestCountsAndRiver_64 hP hD hS (Nat.le_of_ble_eq_true rfl) (Nat.le_of_ble_eq_true rfl)
      · replace hF := if_f hF c_2
        refine lv_lload_n hx hb dX5_digestCountsAndRiver_42 rfl (lv_at hl 1 rfl) ?_
        refine lv_aload_n hx hb dX5_digestCountsAndRiver_43 rfl (lv_at hl 0 rfl) ?_
        refine va_get (D := D) (C := RX5) (T := TX5) (N := 2) hx hb hts hiX5 hown hK hP 0 gtX5_0 rfl 0 (by decide) hf10 (fun _ h9 => h9) rfl dX5_digestCountsAndRiver_44 ?_
        refine va_getN (host := "RagVats") (D := D) (C := RX0) (T := TX0) (N := 12) hx hb hts hiX0 hown hK hP 1 gtX5_1 rfl 6 (by decide) hn172 (fun _ h9 => h9) rfl dX5_digestCountsAndRiver_47 ?_
        refine lv_iload hx hb dX5_digestCountsAndRiver_50 (lv_at hl 2 rfl) ?_
        replace hF := ckI_some hF
        obtain ⟨hi_3, hF⟩ := hF
        refine va_iald hx hb hK hP 3 0 gtX5_3 rfl hi_3 dX5_digestCountsAndRiver_52 ?_
        replace hF := bnd_some hF
        obtain ⟨z4, hz_4, hF⟩ := hF
        refine krL (kS (As := [.long x3_35, .int (m_water x5_35.toNatClampNeg)]) ⟨hx, hb, hml, hown, hts⟩ (kX5_mix l D cy sa x3_35 (m_water x5_35.toNatClampNeg) z4 hz_4 _) (cwS 2 hts gX5_digestCountsAndRiver_X5_mix rfl rfl rfl (by decide +kernel) ⟨Nat.le_of_ble_eq_true rfl, Nat.le_of_ble_eq_true rfl⟩) hK hP hD hS hA hG [] rfl rfl rfl hl.1 [] rfl (Nat.le_of_ble_eq_true rfl) dX5_digestCountsAndRiver_53 ⟨(Nat.le_of_ble_eq_true rfl), (Nat.le_of_ble_eq_true rfl)⟩) hP hD hS hA [] rfl (fun H locs hP hS => ?_)
        refine lv_lstore_n (lv' := [(3, .long z4), (0, .ref (h 0)), (5, .int x5_35)]) hx hb dX5_digestCountsAndRiver_56 rfl hl (by decide) rfl (fun ls hl => ?_)
        refine lv_iinc (v := x5_35 + 1) (lv' := [(5, .int (x5_35 + 1)), (3, .long z4), (0, .ref (h 0))]) hx hb dX5_digestCountsAndRiver_57 hl (k := 2) rfl rfl (by decide) rfl (fun ls hl => ?_)
        refine lv_goto (tgt := 35) hx hb dX5_digestCountsAndRiver_60 (by decide) ?_
        exact ih  z4 (x5_35 + 1)  hF _ _ _ hP hD hS (lv_sub hl [2, 1, 0] rfl)
  have L5 : ∀ (k : Nat) (x3_5 : Int64) (x5_5 : Int32), fX5_digestCountsAndRiver_L5 m_day m_coins m_felts m_made m_worth m_rags m_water m_pulp m_nQ m_allS m_loft k x3_5 x5_5 = some z → ∀ (H : Heap) (locs : List Loc) (ls : Array Slot), va_P D vwCl (wX5 cy h m_day m_coins m_felts m_made m_worth m_rags m_water m_pulp m_beat m_sort m_nM m_mark m_size m_worn m_nT m_skill m_vat m_pair m_nQ m_allS m_pmark m_pgrade m_psheets m_loft t_day t_coins t_felts t_made t_worth t_rags t_water t_pulp t_beat t_sort t_nM t_mark t_size t_worn t_nT t_skill t_vat t_pair t_nQ t_allS t_pmark t_pgrade t_psheets t_loft) H → va_D A (wX5 cy h m_day m_coins m_felts m_made m_worth m_rags m_water m_pulp m_beat m_sort m_nM m_mark m_size m_worn m_nT m_skill m_vat m_pair m_nQ m_allS m_pmark m_pgrade m_psheets m_loft t_day t_coins t_felts t_made t_worth t_rags t_water t_pulp t_beat t_sort t_nM t_mark t_size t_worn t_nT t_skill t_vat t_pair t_nQ t_allS t_pmark t_pgrade t_psheets t_loft) → va_S A s.heap H locs → lv_has ls 6 [(0, .ref (h 0)), (3, .long x3_5), (5, .int x5_5)] → W p l e rX5_digestCountsAndRiver s m args below meth c H locs 0 0 Q (F0 m 5 ls []) := by
    intro k
    induction k with
    | zero =>
      intro x3_5 x5_5 hF
      rw [fX5_digestCountsAndRiver_L5] at hF
      cases hF
    | succ k ih =>
      intro x3_5 x5_5 hF H locs ls hP hD hS hl
      rw [fX5_digestCountsAndRiver_L5] at hF
      refine lv_iload hx hb dX5_digestCountsAndRiver_5 (lv_at hl 2 rfl) ?_
      refine lv_bipush (v := 12) hx hb dX5_digestCountsAndRiver_7 (by decide) ?_
      refine lv_icmp_ge (tgt := 32) hx hb dX5_digestCountsAndRiver_9 (by decide) (fun c_1 => ?_) (fun c_1 => ?_)
      · replace hF := if_t hF c_1
        refine lv_iconst (v := 0) hx hb dX5_digestCountsAndRiver_32 (by decide) ?_
        refine lv_istore (lv' := [(5, .int 0), (0, .ref (h 0)), (3, .long x3_5)]) hx hb dX5_digestCountsAndRiver_33 hl (by decide) rfl (fun ls hl => ?_)
        exact L35 300 x3_5 0  hF _ _ _ hP hD hS (lv_sub hl [1, 2, 0] rfl)
      · replace hF := if_f hF c_1
        refine lv_lload_n hx hb dX5_digestCountsAndRiver_12 rfl (lv_at hl 1 rfl) ?_
        refine lv_aload_n hx hb dX5_digestCountsAndRiver_13 rfl (lv_at hl 0 rfl) ?_
        refine va_get (D := D) (C := RX5) (T := TX5) (N := 2) hx hb hts hiX5 hown hK hP 0 gtX5_0 rfl 0 (by decide) hf10 (fun _ h9 => h9) rfl dX5_digestCountsAndRiver_14 ?_
        refine lv_iload hx hb dX5_digestCountsAndRiver_17 (lv_at hl 2 rfl) ?_
        replace hF := bnd_some hF
        obtain ⟨z5, hz_5, hF⟩ := hF
        refine krI (kV (As := [.int x5_5]) ⟨hx, hb, hml, hown, hts⟩ (kX0_tell l D cy sa (fun i => h (i + 1)) m_day m_coins m_felts m_made m_worth m_rags m_water m_pulp m_beat m_sort m_nM m_mark m_size m_worn m_nT m_skill m_vat m_pair m_nQ m_allS m_pmark m_pgrade m_psheets m_loft x5_5 z5 hz_5 _) (cwV 1 hts gX5_digestCountsAndRiver_X0_tell rfl rfl rfl (by decide +kernel) ⟨Nat.le_of_ble_eq_true rfl, Nat.le_of_ble_eq_true rfl⟩) hK hP hD hS hA hG [1, 2, 3, 4, 5, 6, 7, 8, 9, 10, 11, 12, 13, 14, 15, 16, 17, 18, 19, 20] hcX5_X0_1 ndX0_1 gtX0_0 rfl rfl rfl hl.1 [.long x3_5] rfl (Nat.le_of_ble_eq_true rfl) dX5_digestCountsAndRiver_19 ⟨(Nat.le_of_ble_eq_true rfl), (Nat.le_of_ble_eq_true rfl)⟩) hP hD hS hA [1, 2, 3, 4, 5, 6, 7, 8, 9, 10, 11, 12, 13, 14, 15, 16, 17, 18, 19, 20] hcX5_X0_1 (fun H locs hP hS => ?_)
        replace hF := bnd_some hF
        obtain ⟨z6, hz_6, hF⟩ := hF
        refine krL (kS (As := [.long x3_5, .int z5]) ⟨hx, hb, hml, hown, hts⟩ (kX5_mix l D cy sa x3_5 z5 z6 hz_6 _) (cwS 2 hts gX5_digestCountsAndRiver_X5_mix rfl rfl rfl (by decide +kernel) ⟨Nat.le_of_ble_eq_true rfl, Nat.le_of_ble_eq_true rfl⟩) hK hP hD hS hA hG [] rfl rfl rfl hl.1 [] rfl (Nat.le_of_ble_eq_true rfl) dX5_digestCountsAndRiver_22 ⟨(Nat.le_of_ble_eq_true rfl), (Nat.le_of_ble_eq_true rfl)⟩) hP hD hS hA [] rfl (fun H locs hP hS => ?_)
        refine lv_lstore_n (lv' := [(3, .long z6), (0, .ref (h 0)), (5, .int x5_5)]) hx hb dX5_digestCountsAndRiver_25 rfl hl (by decide) rfl (fun ls hl => ?_)
        refine lv_iinc (v := x5_5 + 1) (lv' := [(5, .int (x5_5 + 1)), (3, .long z6), (0, .ref (h 0))]) hx hb dX5_digestCountsAndRiver_26 hl (k := 2) rfl rfl (by decide) rfl (fun ls hl => ?_)
        refine lv_goto (tgt := 5) hx hb dX5_digestCountsAndRiver_29 (by decide) ?_
        exact ih  z6 (x5_5 + 1)  hF _ _ _ hP hD hS (lv_sub hl [2, 1, 0] rfl)
  unfold fX5_digestCountsAndRiver at hF
  refine lv_lload_n hx hb dX5_digestCountsAndRiver_0 rfl (lv_at hl 1 rfl) ?_
  refine lv_lstore_n (lv' := [(3, .long a1), (0, .ref (h 0)), (1, .long a1)]) hx hb dX5_digestCountsAndRiver_1 rfl hl (by decide) rfl (fun ls hl => ?_)
  refine lv_iconst (v := 0) hx hb dX5_digestCountsAndRiver_2 (by decide) ?_
  refine lv_istore (lv' := [(5, .int 0), (3, .long a1), (0, .ref (h 0)), (1, .long a1)]) hx hb dX5_digestCountsAndRiver_3 hl (by decide) rfl (fun ls hl => ?_)
  exact L5 300 a1 0  hF _ _ _ hP hD hS (lv_sub hl [2, 1, 0] rfl)

def fX5_digestVats_L14 (m_pulp : FN) (m_beat : FN) (m_sort : FN) (K : Int64 → Int32 → Option (Int64)) : Nat → Int64 → Int32 → Int32 → Option (Int64)
  | 0, _, _, _ => none
  | k + 1, x3_14, x5_14, x6_14 => if 3 ≤ x6_14 then K x3_14 (x5_14 + 1) else (fX4_tell m_pulp m_beat m_sort x5_14 x6_14).bind fun z3 => (fX5_mix x3_14 z3).bind fun z4 => fX5_digestVats_L14 m_pulp m_beat m_sort K k z4 x5_14 (x6_14 + 1)
def fX5_digestVats_L5 (m_pulp : FN) (m_beat : FN) (m_sort : FN) : Nat → Int64 → Int32 → Option (Int64)
  | 0, _, _ => none
  | k + 1, x3_5, x5_5 => if 4 ≤ x5_5 then some x3_5 else fX5_digestVats_L14 m_pulp m_beat m_sort (fX5_digestVats_L5 m_pulp m_beat m_sort k) 300 x3_5 x5_5 0
def fX5_digestVats (m_pulp : FN) (m_beat : FN) (m_sort : FN) (a1 : Int64) : Option (Int64) := fX5_digestVats_L5 m_pulp m_beat m_sort 300 a1 0
abbrev rX5_digestVats : Room := { frames := 3, cells := 0, slots := 0, locals := 64 }
set_option maxHeartbeats 4000000 in
set_option maxRecDepth 100000 in
theorem kX5_digestVats (l : Launch) (D : va_G) (cy : Nat → ClassId) (sa : Nat → Nat) (h : Nat → Nat) (m_day : Int32) (m_coins : Int32) (m_felts : Int32) (m_made : Int32) (m_worth : Int32) (m_rags : FN) (m_water : FN) (m_pulp : FN) (m_beat : FN) (m_sort : FN) (m_nM : Int32) (m_mark : FN) (m_size : FN) (m_worn : FN) (m_nT : Int32) (m_skill : FN) (m_vat : FN) (m_pair : FN) (m_nQ : Int32) (m_allS : Int32) (m_pmark : FN) (m_pgrade : FN) (m_psheets : FN) (m_loft : FN) (t_day : Int32) (t_coins : Int32) (t_felts : Int32) (t_made : Int32) (t_worth : Int32) (t_rags : FN) (t_water : FN) (t_pulp : FN) (t_beat : FN) (t_sort : FN) (t_nM : Int32) (t_mark : FN) (t_size : FN) (t_worn : FN) (t_nT : Int32) (t_skill : FN) (t_vat : FN) (t_pair : FN) (t_nQ : Int32) (t_allS : Int32) (t_pmark : FN) (t_pgrade : FN) (t_psheets : FN) (t_loft : FN) (a1 : Int64) (z : Int64) (hF : fX5_digestVats m_pulp m_beat m_sort a1 = some z) : KL l D (tyW cy) sa yX5_digestVats wsX5_digestVats rX5_digestVats [.ref (h 0), .long a1] (wX5 cy h m_day m_coins m_felts m_made m_worth m_rags m_water m_pulp m_beat m_sort m_nM m_mark m_size m_worn m_nT m_skill m_vat m_pair m_nQ m_allS m_pmark m_pgrade m_psheets m_loft t_day t_coins t_felts t_made t_worth t_rags t_water t_pulp t_beat t_sort t_nM t_mark t_size t_worn t_nT t_skill t_vat t_pair t_nQ t_allS t_pmark t_pgrade t_psheets t_loft) z (fun _ => wX5 cy h m_day m_coins m_felts m_made m_worth m_rags m_water m_pulp m_beat m_sort m_nM m_mark m_size m_worn m_nT m_skill m_vat m_pair m_nQ m_allS m_pmark m_pgrade m_psheets m_loft t_day t_coins t_felts t_made t_worth t_rags t_water t_pulp t_beat t_sort t_nM t_mark t_size t_worn t_nT t_skill t_vat t_pair t_nQ t_allS t_pmark t_pgrade t_psheets t_loft) 0 0 := by
  refine KL.of (cc := cX5_digestVats) (maxL := 7) (by decide +kernel) rfl (Nat.le_of_ble_eq_true rfl) ?_
  intro p e s m args below meth c A ls Q hE hQ
  obtain ⟨hx, hb, hml, hown, hts, hA, hP, hK, hD, hG, hl, hnm⟩ := hE
  replace hown : s.vm.findClass RX5 = some m.cls := hown
  have hiX0 : ∀ w ∈ u_ws RX0 TX0 12, w ∈ wsX5_digestVats := by decide +kernel
  have hiX5 : ∀ w ∈ u_ws RX5 TX5 2, w ∈ wsX5_digestVats := by decide +kernel
  have hf10 : (Cond.fieldLink RX5 10 "RagVats" "mill" "LRagVats$Mill;").before args s = true := hts _ (by decide +kernel)
  have hn81 : (Cond.fieldLinkNest RX5 81 "RagVats$Mill" "vats" "LRagVats$Vats;" "RagVats").before args s = true := va_Nw.use rfl (hG.1.1 _ (by decide +kernel))
  replace hl : lv_has ls 7 [(0, .ref (h 0)), (1, .long a1)] := hl
  have hS : va_S A s.heap s.heap [] := va_S.rf
  have L14 : ∀ (K : Int64 → Int32 → Option (Int64)), (∀ (x3_5 : Int64) (x5_5 : Int32), K x3_5 x5_5 = some z → ∀ (H : Heap) (locs : List Loc) (ls : Array Slot), va_P D vwCl (wX5 cy h m_day m_coins m_felts m_made m_worth m_rags m_water m_pulp m_beat m_sort m_nM m_mark m_size m_worn m_nT m_skill m_vat m_pair m_nQ m_allS m_pmark m_pgrade m_psheets m_loft t_day t_coins t_felts t_made t_worth t_rags t_water t_pulp t_beat t_sort t_nM t_mark t_size t_worn t_nT t_skill t_vat t_pair t_nQ t_allS t_pmark t_pgrade t_psheets t_loft) H → va_D A (wX5 cy h m_day m_coins m_felts m_made m_worth m_rags m_water m_pulp m_beat m_sort m_nM m_mark m_size m_worn m_nT m_skill m_vat m_pair m_nQ m_allS m_pmark m_pgrade m_psheets m_loft t_day t_coins t_felts t_made t_worth t_rags t_water t_pulp t_beat t_sort t_nM t_mark t_size t_worn t_nT t_skill t_vat t_pair t_nQ t_allS t_pmark t_pgrade t_psheets t_loft) → va_S A s.heap H locs → lv_has ls 7 [(0, .ref (h 0)), (3, .long x3_5), (5, .int x5_5)] → W p l e rX5_digestVats s m args below meth c H locs 0 0 Q (F0 m 5 ls [])) → ∀ (k : Nat) (x3_14 : Int64) (x5_14 : Int32) (x6_14 : Int32), fX5_digestVats_L14 m_pulp m_beat m_sort K k x3_14 x5_14 x6_14 = some z → ∀ (H : Heap) (locs : List Loc) (ls : Array Slot), va_P D vwCl (wX5 cy h m_day m_coins m_felts m_made m_worth m_rags m_water m_pulp m_beat m_sort m_nM m_mark m_size m_worn m_nT m_skill m_vat m_pair m_nQ m_allS m_pmark m_pgrade m_psheets m_loft t_day t_coins t_felts t_made t_worth t_rags t_water t_pulp t_beat t_sort t_nM t_mark t_size t_worn t_nT t_skill t_vat t_pair t_nQ t_allS t_pmark t_pgrade t_psheets t_loft) H → va_D A (wX5 cy h m_day m_coins m_felts m_made m_worth m_rags m_water m_pulp m_beat m_sort m_nM m_mark m_size m_worn m_nT m_skill m_vat m_pair m_nQ m_allS m_pmark m_pgrade m_psheets m_loft t_day t_coins t_felts t_made t_worth t_rags t_water t_pulp t_beat t_sort t_nM t_mark t_size t_worn t_nT t_skill t_vat t_pair t_nQ t_allS t_pmark t_pgrade t_psheets t_loft) → va_S A s.heap H locs → lv_has ls 7 [(0, .ref (h 0)), (3, .long x3_14), (5, .int x5_14), (6, .int x6_14)] → W p l e rX5_digestVats s m args below meth c H locs 0 0 Q (F0 m 14 ls []) := by
    intro K hK9 k
    induction k with
    | zero =>
      intro x3_14 x5_14 x6_14 hF
      rw [fX5_digestVats_L14] at hF
      cases hF
    | succ k ih =>
      intro x3_14 x5_14 x6_14 hF H locs ls hP hD hS hl
      rw [fX5_digestVats_L14] at hF
      refine lv_iload hx hb dX5_digestVats_14 (lv_at hl 3 rfl) ?_
      refine lv_iconst (v := 3) hx hb dX5_digestVats_16 (by decide) ?_
      refine lv_icmp_ge (tgt := 45) hx hb dX5_digestVats_17 (by decide) (fun c_2 => ?_) (fun c_2 => ?_)
      · replace hF := if_t hF c_2
        refine lv_iinc (v := x5_14 + 1) (lv' := [(5, .int (x5_14 + 1)), (0, .ref (h 0)), (3, .long x3_14), (6, .int x6_14)]) hx hb dX5_digestVats_45 hl (k := 2) rfl rfl (by decide) rfl (fun ls hl => ?_)
        refine lv_goto (tgt := 5) hx hb dX5_digestVats_48 (by decide) ?_
        exact hK9  x3_14 (x5_14 + 1)  hF _ _ _ hP hD hS (lv_sub hl [1, 2, 0] rfl)
      · replace hF := if_f hF c_2
        refine lv_lload_n hx hb dX5_digestVats_20 rfl (lv_at hl 1 rfl) ?_
        refine lv_aload_n hx hb dX5_digestVats_21 rfl (lv_at hl 0 rfl) ?_
        refine va_get (D := D) (C := RX5) (T := TX5) (N := 2) hx hb hts hiX5 hown hK hP 0 gtX5_0 rfl 0 (by decide) hf10 (fun _ h9 => h9) rfl dX5_digestVats_22 ?_
        refine va_getN (host := "RagVats") (D := D) (C := RX0) (T := TX0) (N := 12) hx hb hts hiX0 hown hK hP 1 gtX5_1 rfl 7 (by decide) hn81 (fun _ h9 => h9) rfl dX5_digestVats_25 ?_
        refine lv_iload hx hb dX5_digestVats_28 (lv_at hl 2 rfl) ?_
        refine lv_iload hx hb dX5_digestVats_30 (lv_at hl 3 rfl) ?_
        replace hF := bnd_some hF
        obtain ⟨z3, hz_3, hF⟩ := hF
        refine krI (kV (As := [.int x5_14, .int x6_14]) ⟨hx, hb, hml, hown, hts⟩ (kX4_tell l D cy sa (fun i => h (i + 4)) m_pulp m_beat m_sort x5_14 x6_14 z3 hz_3 _) (cwV 2 hts gX5_digestVats_X4_tell rfl rfl rfl (by decide +kernel) ⟨Nat.le_of_ble_eq_true rfl, Nat.le_of_ble_eq_true rfl⟩) hK hP hD hS hA hG [4, 5, 6, 7] hcX5_X4_4 ndX4_4 gtX4_0 rfl rfl rfl hl.1 [.long x3_14] rfl (Nat.le_of_ble_eq_true rfl) dX5_digestVats_32 ⟨(Nat.le_of_ble_eq_true rfl), (Nat.le_of_ble_eq_true rfl)⟩) hP hD hS hA [4, 5, 6, 7] hcX5_X4_4 (fun H locs hP hS => ?_)
        replace hF := bnd_some hF
        obtain ⟨z4, hz_4, hF⟩ := hF
        refine krL (kS (As := [.long x3_14, .int z3]) ⟨hx, hb, hml, hown, hts⟩ (kX5_mix l D cy sa x3_14 z3 z4 hz_4 _) (cwS 2 hts gX5_digestVats_X5_mix rfl rfl rfl (by decide +kernel) ⟨Nat.le_of_ble_eq_true rfl, Nat.le_of_ble_eq_true rfl⟩) hK hP hD hS hA hG [] rfl rfl rfl hl.1 [] rfl (Nat.le_of_ble_eq_true rfl) dX5_digestVats_35 ⟨(Nat.le_of_ble_eq_true rfl), (Nat.le_of_ble_eq_true rfl)⟩) hP hD hS hA [] rfl (fun H locs hP hS => ?_)
        refine lv_lstore_n (lv' := [(3, .long z4), (0, .ref (h 0)), (5, .int x5_14), (6, .int x6_14)]) hx hb dX5_digestVats_38 rfl hl (by decide) rfl (fun ls hl => ?_)
        refine lv_iinc (v := x6_14 + 1) (lv' := [(6, .int (x6_14 + 1)), (3, .long z4), (0, .ref (h 0)), (5, .int x5_14)]) hx hb dX5_digestVats_39 hl (k := 3) rfl rfl (by decide) rfl (fun ls hl => ?_)
        refine lv_goto (tgt := 14) hx hb dX5_digestVats_42 (by decide) ?_
        exact ih  z4 x5_14 (x6_14 + 1)  hF _ _ _ hP hD hS (lv_sub hl [2, 1, 3, 0] rfl)
  have L5 : ∀ (k : Nat) (x3_5 : Int64) (x5_5 : Int32), fX5_digestVats_L5 m_pulp m_beat m_sort k x3_5 x5_5 = some z → ∀ (H : Heap) (locs : List Loc) (ls : Array Slot), va_P D vwCl (wX5 cy h m_day m_coins m_felts m_made m_worth m_rags m_water m_pulp m_beat m_sort m_nM m_mark m_size m_worn m_nT m_skill m_vat m_pair m_nQ m_allS m_pmark m_pgrade m_psheets m_loft t_day t_coins t_felts t_made t_worth t_rags t_water t_pulp t_beat t_sort t_nM t_mark t_size t_worn t_nT t_skill t_vat t_pair t_nQ t_allS t_pmark t_pgrade t_psheets t_loft) H → va_D A (wX5 cy h m_day m_coins m_felts m_made m_worth m_rags m_water m_pulp m_beat m_sort m_nM m_mark m_size m_worn m_nT m_skill m_vat m_pair m_nQ m_allS m_pmark m_pgrade m_psheets m_loft t_day t_coins t_felts t_made t_worth t_rags t_water t_pulp t_beat t_sort t_nM t_mark t_size t_worn t_nT t_skill t_vat t_pair t_nQ t_allS t_pmark t_pgrade t_psheets t_loft) → va_S A s.heap H locs → lv_has ls 7 [(0, .ref (h 0)), (3, .long x3_5), (5, .int x5_5)] → W p l e rX5_digestVats s m args below meth c H locs 0 0 Q (F0 m 5 ls []) := by
    intro k
    induction k with
    | zero =>
      intro x3_5 x5_5 hF
      rw [fX5_digestVats_L5] at hF
      cases hF
    | succ k ih =>
      intro x3_5 x5_5 hF H locs ls hP hD hS hl
      rw [fX5_digestVats_L5] at hF
      refine lv_iload hx hb dX5_digestVats_5 (lv_at hl 2 rfl) ?_
      refine lv_iconst (v := 4) hx hb dX5_digestVats_7 (by decide) ?_
      refine lv_icmp_ge (tgt := 51) hx hb dX5_digestVats_8 (by decide) (fun c_1 => ?_) (fun c_1 => ?_)
      · replace hF := if_t hF c_1
        refine lv_lload_n hx hb dX5_digestVats_51 rfl (lv_at hl 1 rfl) ?_
        cases hF
        exact hQ _ _ _ _ _ _ (fun _ => 0) dX5_digestVats_52 hP hD hS (Nat.le_of_ble_eq_true rfl) (Nat.le_of_ble_eq_true rfl)
      · replace hF := if_f hF c_1
        refine lv_iconst (v := 0) hx hb dX5_digestVats_11 (by decide) ?_
        refine lv_istore (lv' := [(6, .int 0), (0, .ref (h 0)), (3, .long x3_5), (5, .int x5_5)]) hx hb dX5_digestVats_12 hl (by decide) rfl (fun ls hl => ?_)
        exact L14 _ ih 300 x3_5 x5_5 0  hF _ _ _ hP hD hS (lv_sub hl [1, 2, 3, 0] rfl)
  unfold fX5_digestVats at hF
  refine lv_lload_n hx hb dX5_digestVats_0 rfl (lv_at hl 1 rfl) ?_
  refine lv_lstore_n (lv' := [(3, .long a1), (0, .ref (h 0)), (1, .long a1)]) hx hb dX5_digestVats_1 rfl hl (by decide) rfl (fun ls hl => ?_)
  refine lv_iconst (v := 0) hx hb dX5_digestVats_2 (by decide) ?_
  refine lv_istore (lv' := [(5, .int 0), (3, .long a1), (0, .ref (h 0)), (1, .long a1)]) hx hb dX5_digestVats_3 hl (by decide) rfl (fun ls hl => ?_)
  exact L5 300 a1 0  hF _ _ _ hP hD hS (lv_sub hl [2, 1, 0] rfl)

def fX5_digestPairs_L23 (m_nM : Int32) (m_mark : FN) (m_size : FN) (m_worn : FN) (m_nT : Int32) (m_pair : FN) (K : Int64 → Int32 → Option (Int64)) : Nat → Int64 → Int32 → Int32 → Option (Int64)
  | 0, _, _, _ => none
  | k + 1, x3_23, x5_23, x6_23 => if 4 ≤ x6_23 then K x3_23 (x5_23 + 1) else (fX0_tellPair m_nM m_mark m_size m_worn m_nT m_pair x5_23 x6_23).bind fun z3 => (fX5_mix x3_23 z3).bind fun z4 => fX5_digestPairs_L23 m_nM m_mark m_size m_worn m_nT m_pair K k z4 x5_23 (x6_23 + 1)
def fX5_digestPairs_L5 (m_nM : Int32) (m_mark : FN) (m_size : FN) (m_worn : FN) (m_nT : Int32) (m_pair : FN) : Nat → Int64 → Int32 → Option (Int64)
  | 0, _, _ => none
  | k + 1, x3_5, x5_5 => if m_nM ≤ x5_5 then some x3_5 else fX5_digestPairs_L23 m_nM m_mark m_size m_worn m_nT m_pair (fX5_digestPairs_L5 m_nM m_mark m_size m_worn m_nT m_pair k) 300 x3_5 x5_5 0
def fX5_digestPairs (m_nM : Int32) (m_mark : FN) (m_size : FN) (m_worn : FN) (m_nT : Int32) (m_pair : FN) (a1 : Int64) : Option (Int64) := fX5_digestPairs_L5 m_nM m_mark m_size m_worn m_nT m_pair 300 a1 0
abbrev rX5_digestPairs : Room := { frames := 4, cells := 0, slots := 0, locals := 86 }
set_option maxHeartbeats 4000000 in
set_option maxRecDepth 100000 in
theorem kX5_digestPairs (l : Launch) (D : va_G) (cy : Nat → ClassId) (sa : Nat → Nat) (h : Nat → Nat) (m_day : Int32) (m_coins : Int32) (m_felts : Int32) (m_made : Int32) (m_worth : Int32) (m_rags : FN) (m_water : FN) (m_pulp : FN) (m_beat : FN) (m_sort : FN) (m_nM : Int32) (m_mark : FN) (m_size : FN) (m_worn : FN) (m_nT : Int32) (m_skill : FN) (m_vat : FN) (m_pair : FN) (m_nQ : Int32) (m_allS : Int32) (m_pmark : FN) (m_pgrade : FN) (m_psheets : FN) (m_loft : FN) (t_day : Int32) (t_coins : Int32) (t_felts : Int32) (t_made : Int32) (t_worth : Int32) (t_rags : FN) (t_water : FN) (t_pulp : FN) (t_beat : FN) (t_sort : FN) (t_nM : Int32) (t_mark : FN) (t_size : FN) (t_worn : FN) (t_nT : Int32) (t_skill : FN) (t_vat : FN) (t_pair : FN) (t_nQ : Int32) (t_allS : Int32) (t_pmark : FN) (t_pgrade : FN) (t_psheets : FN) (t_loft : FN) (a1 : Int64) (z : Int64) (hF : fX5_digestPairs m_nM m_mark m_size m_worn m_nT m_pair a1 = some z) : KL l D (tyW cy) sa yX5_digestPairs wsX5_digestPairs rX5_digestPairs [.ref (h 0), .long a1] (wX5 cy h m_day m_coins m_felts m_made m_worth m_rags m_water m_pulp m_beat m_sort m_nM m_mark m_size m_worn m_nT m_skill m_vat m_pair m_nQ m_allS m_pmark m_pgrade m_psheets m_loft t_day t_coins t_felts t_made t_worth t_rags t_water t_pulp t_beat t_sort t_nM t_mark t_size t_worn t_nT t_skill t_vat t_pair t_nQ t_allS t_pmark t_pgrade t_psheets t_loft) z (fun _ => wX5 cy h m_day m_coins m_felts m_made m_worth m_rags m_water m_pulp m_beat m_sort m_nM m_mark m_size m_worn m_nT m_skill m_vat m_pair m_nQ m_allS m_pmark m_pgrade m_psheets m_loft t_day t_coins t_felts t_made t_worth t_rags t_water t_pulp t_beat t_sort t_nM t_mark t_size t_worn t_nT t_skill t_vat t_pair t_nQ t_allS t_pmark t_pgrade t_psheets t_loft) 0 0 := by
  refine KL.of (cc := cX5_digestPairs) (maxL := 7) (by decide +kernel) rfl (Nat.le_of_ble_eq_true rfl) ?_
  intro p e s m args below meth c A ls Q hE hQ
  obtain ⟨hx, hb, hml, hown, hts, hA, hP, hK, hD, hG, hl, hnm⟩ := hE
  replace hown : s.vm.findClass RX5 = some m.cls := hown
  have hiX0 : ∀ w ∈ u_ws RX0 TX0 12, w ∈ wsX5_digestPairs := by decide +kernel
  have hiX1 : ∀ w ∈ u_ws RX1 TX1 4, w ∈ wsX5_digestPairs := by decide +kernel
  have hiX5 : ∀ w ∈ u_ws RX5 TX5 2, w ∈ wsX5_digestPairs := by decide +kernel
  have hf10 : (Cond.fieldLink RX5 10 "RagVats" "mill" "LRagVats$Mill;").before args s = true := hts _ (by decide +kernel)
  have hn112 : (Cond.fieldLinkNest RX5 112 "RagVats$Mill" "moulds" "LRagVats$Moulds;" "RagVats").before args s = true := va_Nw.use rfl (hG.1.1 _ (by decide +kernel))
  have hn116 : (Cond.fieldLinkNest RX5 116 "RagVats$Moulds" "number" "I" "RagVats").before args s = true := va_Nw.use rfl (hG.1.1 _ (by decide +kernel))
  replace hl : lv_has ls 7 [(0, .ref (h 0)), (1, .long a1)] := hl
  have hS : va_S A s.heap s.heap [] := va_S.rf
  have L23 : ∀ (K : Int64 → Int32 → Option (Int64)), (∀ (x3_5 : Int64) (x5_5 : Int32), K x3_5 x5_5 = some z → ∀ (H : Heap) (locs : List Loc) (ls : Array Slot), va_P D vwCl (wX5 cy h m_day m_coins m_felts m_made m_worth m_rags m_water m_pulp m_beat m_sort m_nM m_mark m_size m_worn m_nT m_skill m_vat m_pair m_nQ m_allS m_pmark m_pgrade m_psheets m_loft t_day t_coins t_felts t_made t_worth t_rags t_water t_pulp t_beat t_sort t_nM t_mark t_size t_worn t_nT t_skill t_vat t_pair t_nQ t_allS t_pmark t_pgrade t_psheets t_loft) H → va_D A (wX5 cy h m_day m_coins m_felts m_made m_worth m_rags m_water m_pulp m_beat m_sort m_nM m_mark m_size m_worn m_nT m_skill m_vat m_pair m_nQ m_allS m_pmark m_pgrade m_psheets m_loft t_day t_coins t_felts t_made t_worth t_rags t_water t_pulp t_beat t_sort t_nM t_mark t_size t_worn t_nT t_skill t_vat t_pair t_nQ t_allS t_pmark t_pgrade t_psheets t_loft) → va_S A s.heap H locs → lv_has ls 7 [(0, .ref (h 0)), (3, .long x3_5), (5, .int x5_5)] → W p l e rX5_digestPairs s m args below meth c H locs 0 0 Q (F0 m 5 ls [])) → ∀ (k : Nat) (x3_23 : Int64) (x5_23 : Int32) (x6_23 : Int32), fX5_digestPairs_L23 m_nM m_mark m_size m_worn m_nT m_pair K k x3_23 x5_23 x6_23 = some z → ∀ (H : Heap) (locs : List Loc) (ls : Array Slot), va_P D vwCl (wX5 cy h m_day m_coins m_felts m_made m_worth m_rags m_water m_pulp m_beat m_sort m_nM m_mark m_size m_worn m_nT m_skill m_vat m_pair m_nQ m_allS m_pmark m_pgrade m_psheets m_loft t_day t_coins t_felts t_made t_worth t_rags t_water t_pulp t_beat t_sort t_nM t_mark t_size t_worn t_nT t_skill t_vat t_pair t_nQ t_allS t_pmark t_pgrade t_psheets t_loft) H → va_D A (wX5 cy h m_day m_coins m_felts m_made m_worth m_rags m_water m_pulp m_beat m_sort m_nM m_mark m_size m_worn m_nT m_skill m_vat m_pair m_nQ m_allS m_pmark m_pgrade m_psheets m_loft t_day t_coins t_felts t_made t_worth t_rags t_water t_pulp t_beat t_sort t_nM t_mark t_size t_worn t_nT t_skill t_vat t_pair t_nQ t_allS t_pmark t_pgrade t_psheets t_loft) → va_S A s.heap H locs → lv_has ls 7 [(0, .ref (h 0)), (3, .long x3_23), (5, .int x5_23), (6, .int x6_23)] → W p l e rX5_digestPairs s m args below meth c H locs 0 0 Q (F0 m 23 ls []) := by
    intro K hK9 k
    induction k with
    | zero =>
      intro x3_23 x5_23 x6_23 hF
      rw [fX5_digestPairs_L23] at hF
      cases hF
    | succ k ih =>
      intro x3_23 x5_23 x6_23 hF H locs ls hP hD hS hl
      rw [fX5_digestPairs_L23] at hF
      refine lv_iload hx hb dX5_digestPairs_23 (lv_at hl 3 rfl) ?_
      refine lv_iconst (v := 4) hx hb dX5_digestPairs_25 (by decide) ?_
      refine lv_icmp_ge (tgt := 51) hx hb dX5_digestPairs_26 (by decide) (fun c_2 => ?_) (fun c_2 => ?_)
      · replace hF := if_t hF c_2
        refine lv_iinc (v := x5_23 + 1) (lv' := [(5, .int (x5_23 + 1)), (0, .ref (h 0)), (3, .long x3_23), (6, .int x6_23)]) hx hb dX5_digestPairs_51 hl (k := 2) rfl rfl (by decide) rfl (fun ls hl => ?_)
        refine lv_goto (tgt := 5) hx hb dX5_digestPairs_54 (by decide) ?_
        exact hK9  x3_23 (x5_23 + 1)  hF _ _ _ hP hD hS (lv_sub hl [1, 2, 0] rfl)
      · replace hF := if_f hF c_2
        refine lv_lload_n hx hb dX5_digestPairs_29 rfl (lv_at hl 1 rfl) ?_
        refine lv_aload_n hx hb dX5_digestPairs_30 rfl (lv_at hl 0 rfl) ?_
        refine va_get (D := D) (C := RX5) (T := TX5) (N := 2) hx hb hts hiX5 hown hK hP 0 gtX5_0 rfl 0 (by decide) hf10 (fun _ h9 => h9) rfl dX5_digestPairs_31 ?_
        refine lv_iload hx hb dX5_digestPairs_34 (lv_at hl 2 rfl) ?_
        refine lv_iload hx hb dX5_digestPairs_36 (lv_at hl 3 rfl) ?_
        replace hF := bnd_some hF
        obtain ⟨z3, hz_3, hF⟩ := hF
        refine krI (kV (As := [.int x5_23, .int x6_23]) ⟨hx, hb, hml, hown, hts⟩ (kX0_tellPair l D cy sa (fun i => h (i + 1)) m_day m_coins m_felts m_made m_worth m_rags m_water m_pulp m_beat m_sort m_nM m_mark m_size m_worn m_nT m_skill m_vat m_pair m_nQ m_allS m_pmark m_pgrade m_psheets m_loft x5_23 x6_23 z3 hz_3 _) (cwV 2 hts gX5_digestPairs_X0_tellPair rfl rfl rfl (by decide +kernel) ⟨Nat.le_of_ble_eq_true rfl, Nat.le_of_ble_eq_true rfl⟩) hK hP hD hS hA hG [1, 2, 3, 4, 5, 6, 7, 8, 9, 10, 11, 12, 13, 14, 15, 16, 17, 18, 19, 20] hcX5_X0_1 ndX0_1 gtX0_0 rfl rfl rfl hl.1 [.long x3_23] rfl (Nat.le_of_ble_eq_true rfl) dX5_digestPairs_38 ⟨(Nat.le_of_ble_eq_true rfl), (Nat.le_of_ble_eq_true rfl)⟩) hP hD hS hA [1, 2, 3, 4, 5, 6, 7, 8, 9, 10, 11, 12, 13, 14, 15, 16, 17, 18, 19, 20] hcX5_X0_1 (fun H locs hP hS => ?_)
        replace hF := bnd_some hF
        obtain ⟨z4, hz_4, hF⟩ := hF
        refine krL (kS (As := [.long x3_23, .int z3]) ⟨hx, hb, hml, hown, hts⟩ (kX5_mix l D cy sa x3_23 z3 z4 hz_4 _) (cwS 2 hts gX5_digestPairs_X5_mix rfl rfl rfl (by decide +kernel) ⟨Nat.le_of_ble_eq_true rfl, Nat.le_of_ble_eq_true rfl⟩) hK hP hD hS hA hG [] rfl rfl rfl hl.1 [] rfl (Nat.le_of_ble_eq_true rfl) dX5_digestPairs_41 ⟨(Nat.le_of_ble_eq_true rfl), (Nat.le_of_ble_eq_true rfl)⟩) hP hD hS hA [] rfl (fun H locs hP hS => ?_)
        refine lv_lstore_n (lv' := [(3, .long z4), (0, .ref (h 0)), (5, .int x5_23), (6, .int x6_23)]) hx hb dX5_digestPairs_44 rfl hl (by decide) rfl (fun ls hl => ?_)
        refine lv_iinc (v := x6_23 + 1) (lv' := [(6, .int (x6_23 + 1)), (3, .long z4), (0, .ref (h 0)), (5, .int x5_23)]) hx hb dX5_digestPairs_45 hl (k := 3) rfl rfl (by decide) rfl (fun ls hl => ?_)
        refine lv_goto (tgt := 23) hx hb dX5_digestPairs_48 (by decide) ?_
        exact ih  z4 x5_23 (x6_23 + 1)  hF _ _ _ hP hD hS (lv_sub hl [2, 1, 3, 0] rfl)
  have L5 : ∀ (k : Nat) (x3_5 : Int64) (x5_5 : Int32), fX5_digestPairs_L5 m_nM m_mark m_size m_worn m_nT m_pair k x3_5 x5_5 = some z → ∀ (H : Heap) (locs : List Loc) (ls : Array Slot), va_P D vwCl (wX5 cy h m_day m_coins m_felts m_made m_worth m_rags m_water m_pulp m_beat m_sort m_nM m_mark m_size m_worn m_nT m_skill m_vat m_pair m_nQ m_allS m_pmark m_pgrade m_psheets m_loft t_day t_coins t_felts t_made t_worth t_rags t_water t_pulp t_beat t_sort t_nM t_mark t_size t_worn t_nT t_skill t_vat t_pair t_nQ t_allS t_pmark t_pgrade t_psheets t_loft) H → va_D A (wX5 cy h m_day m_coins m_felts m_made m_worth m_rags m_water m_pulp m_beat m_sort m_nM m_mark m_size m_worn m_nT m_skill m_vat m_pair m_nQ m_allS m_pmark m_pgrade m_psheets m_loft t_day t_coins t_felts t_made t_worth t_rags t_water t_pulp t_beat t_sort t_nM t_mark t_size t_worn t_nT t_skill t_vat t_pair t_nQ t_allS t_pmark t_pgrade t_psheets t_loft) → va_S A s.heap H locs → lv_has ls 7 [(0, .ref (h 0)), (3, .long x3_5), (5, .int x5_5)] → W p l e rX5_digestPairs s m args below meth c H locs 0 0 Q (F0 m 5 ls []) := by
    intro k
    induction k with
    | zero =>
      intro x3_5 x5_5 hF
      rw [fX5_digestPairs_L5] at hF
      cases hF
    | succ k ih =>
      intro x3_5 x5_5 hF H locs ls hP hD hS hl
      rw [fX5_digestPairs_L5] at hF
      refine lv_iload hx hb dX5_digestPairs_5 (lv_at hl 2 rfl) ?_
      refine lv_aload_n hx hb dX5_digestPairs_7 rfl (lv_at hl 0 rfl) ?_
      refine va_get (D := D) (C := RX5) (T := TX5) (N := 2) hx hb hts hiX5 hown hK hP 0 gtX5_0 rfl 0 (by decide) hf10 (fun _ h9 => h9) rfl dX5_digestPairs_8 ?_
      refine va_getN (host := "RagVats") (D := D) (C := RX0) (T := TX0) (N := 12) hx hb hts hiX0 hown hK hP 1 gtX5_1 rfl 8 (by decide) hn112 (fun _ h9 => h9) rfl dX5_digestPairs_11 ?_
      refine va_getN (host := "RagVats") (D := D) (C := RX1) (T := TX1) (N := 4) hx hb hts hiX1 hown hK hP 8 gtX5_8 rfl 0 (by decide) hn116 (fun _ h9 => h9) rfl dX5_digestPairs_14 ?_
      refine lv_icmp_ge (tgt := 57) hx hb dX5_digestPairs_17 (by decide) (fun c_1 => ?_) (fun c_1 => ?_)
      · replace hF := if_t hF c_1
        refine lv_lload_n hx hb dX5_digestPairs_57 rfl (lv_at hl 1 rfl) ?_
        cases hF
        exact hQ _ _ _ _ _ _ (fun _ => 0) dX5_digestPairs_58 hP hD hS (Nat.le_of_ble_eq_true rfl) (Nat.le_of_ble_eq_true rfl)
      · replace hF := if_f hF c_1
        refine lv_iconst (v := 0) hx hb dX5_digestPairs_20 (by decide) ?_
        refine lv_istore (lv' := [(6, .int 0), (0, .ref (h 0)), (3, .long x3_5), (5, .int x5_5)]) hx hb dX5_digestPairs_21 hl (by decide) rfl (fun ls hl => ?_)
        exact L23 _ ih 300 x3_5 x5_5 0  hF _ _ _ hP hD hS (lv_sub hl [1, 2, 3, 0] rfl)
  unfold fX5_digestPairs at hF
  refine lv_lload_n hx hb dX5_digestPairs_0 rfl (lv_at hl 1 rfl) ?_
  refine lv_lstore_n (lv' := [(3, .long a1), (0, .ref (h 0)), (1, .long a1)]) hx hb dX5_digestPairs_1 rfl hl (by decide) rfl (fun ls hl => ?_)
  refine lv_iconst (v := 0) hx hb dX5_digestPairs_2 (by decide) ?_
  refine lv_istore (lv' := [(5, .int 0), (3, .long a1), (0, .ref (h 0)), (1, .long a1)]) hx hb dX5_digestPairs_3 hl (by decide) rfl (fun ls hl => ?_)
  exact L5 300 a1 0  hF _ _ _ hP hD hS (lv_sub hl [2, 1, 0] rfl)

def fX5_digestTeams_L23 (m_felts : Int32) (m_pulp : FN) (m_beat : FN) (m_nM : Int32) (m_size : FN) (m_nT : Int32) (m_skill : FN) (m_vat : FN) (m_pair : FN) (m_allS : Int32) (K : Int64 → Int32 → Option (Int64)) : Nat → Int64 → Int32 → Int32 → Option (Int64)
  | 0, _, _, _ => none
  | k + 1, x3_23, x5_23, x6_23 => if 4 ≤ x6_23 then K x3_23 (x5_23 + 1) else (fX0_tellTeam m_felts m_pulp m_beat m_nM m_size m_nT m_skill m_vat m_pair m_allS x5_23 x6_23).bind fun z3 => (fX5_mix x3_23 z3).bind fun z4 => fX5_digestTeams_L23 m_felts m_pulp m_beat m_nM m_size m_nT m_skill m_vat m_pair m_allS K k z4 x5_23 (x6_23 + 1)
def fX5_digestTeams_L5 (m_felts : Int32) (m_pulp : FN) (m_beat : FN) (m_nM : Int32) (m_size : FN) (m_nT : Int32) (m_skill : FN) (m_vat : FN) (m_pair : FN) (m_allS : Int32) : Nat → Int64 → Int32 → Option (Int64)
  | 0, _, _ => none
  | k + 1, x3_5, x5_5 => if m_nT ≤ x5_5 then some x3_5 else fX5_digestTeams_L23 m_felts m_pulp m_beat m_nM m_size m_nT m_skill m_vat m_pair m_allS (fX5_digestTeams_L5 m_felts m_pulp m_beat m_nM m_size m_nT m_skill m_vat m_pair m_allS k) 300 x3_5 x5_5 0
def fX5_digestTeams (m_felts : Int32) (m_pulp : FN) (m_beat : FN) (m_nM : Int32) (m_size : FN) (m_nT : Int32) (m_skill : FN) (m_vat : FN) (m_pair : FN) (m_allS : Int32) (a1 : Int64) : Option (Int64) := fX5_digestTeams_L5 m_felts m_pulp m_beat m_nM m_size m_nT m_skill m_vat m_pair m_allS 300 a1 0
abbrev rX5_digestTeams : Room := { frames := 4, cells := 0, slots := 0, locals := 89 }
set_option maxHeartbeats 4000000 in
set_option maxRecDepth 100000 in
theorem kX5_digestTeams (l : Launch) (D : va_G) (cy : Nat → ClassId) (sa : Nat → Nat) (h : Nat → Nat) (m_day : Int32) (m_coins : Int32) (m_felts : Int32) (m_made : Int32) (m_worth : Int32) (m_rags : FN) (m_water : FN) (m_pulp : FN) (m_beat : FN) (m_sort : FN) (m_nM : Int32) (m_mark : FN) (m_size : FN) (m_worn : FN) (m_nT : Int32) (m_skill : FN) (m_vat : FN) (m_pair : FN) (m_nQ : Int32) (m_allS : Int32) (m_pmark : FN) (m_pgrade : FN) (m_psheets : FN) (m_loft : FN) (t_day : Int32) (t_coins : Int32) (t_felts : Int32) (t_made : Int32) (t_worth : Int32) (t_rags : FN) (t_water : FN) (t_pulp : FN) (t_beat : FN) (t_sort : FN) (t_nM : Int32) (t_mark : FN) (t_size : FN) (t_worn : FN) (t_nT : Int32) (t_skill : FN) (t_vat : FN) (t_pair : FN) (t_nQ : Int32) (t_allS : Int32) (t_pmark : FN) (t_pgrade : FN) (t_psheets : FN) (t_loft : FN) (a1 : Int64) (z : Int64) (hF : fX5_digestTeams m_felts m_pulp m_beat m_nM m_size m_nT m_skill m_vat m_pair m_allS a1 = some z) : KL l D (tyW cy) sa yX5_digestTeams wsX5_digestTeams rX5_digestTeams [.ref (h 0), .long a1] (wX5 cy h m_day m_coins m_felts m_made m_worth m_rags m_water m_pulp m_beat m_sort m_nM m_mark m_size m_worn m_nT m_skill m_vat m_pair m_nQ m_allS m_pmark m_pgrade m_psheets m_loft t_day t_coins t_felts t_made t_worth t_rags t_water t_pulp t_beat t_sort t_nM t_mark t_size t_worn t_nT t_skill t_vat t_pair t_nQ t_allS t_pmark t_pgrade t_psheets t_loft) z (fun _ => wX5 cy h m_day m_coins m_felts m_made m_worth m_rags m_water m_pulp m_beat m_sort m_nM m_mark m_size m_worn m_nT m_skill m_vat m_pair m_nQ m_allS m_pmark m_pgrade m_psheets m_loft t_day t_coins t_felts t_made t_worth t_rags t_water t_pulp t_beat t_sort t_nM t_mark t_size t_worn t_nT t_skill t_vat t_pair t_nQ t_allS t_pmark t_pgrade t_psheets t_loft) 0 0 := by
  refine KL.of (cc := cX5_digestTeams) (maxL := 7) (by decide +kernel) rfl (Nat.le_of_ble_eq_true rfl) ?_
  intro p e s m args below meth c A ls Q hE hQ
  obtain ⟨hx, hb, hml, hown, hts, hA, hP, hK, hD, hG, hl, hnm⟩ := hE
  replace hown : s.vm.findClass RX5 = some m.cls := hown
  have hiX0 : ∀ w ∈ u_ws RX0 TX0 12, w ∈ wsX5_digestTeams := by decide +kernel
  have hiX3 : ∀ w ∈ u_ws RX3 TX3 4, w ∈ wsX5_digestTeams := by decide +kernel
  have hiX5 : ∀ w ∈ u_ws RX5 TX5 2, w ∈ wsX5_digestTeams := by decide +kernel
  have hf10 : (Cond.fieldLink RX5 10 "RagVats" "mill" "LRagVats$Mill;").before args s = true := hts _ (by decide +kernel)
  have hn143 : (Cond.fieldLinkNest RX5 143 "RagVats$Mill" "teams" "LRagVats$Teams;" "RagVats").before args s = true := va_Nw.use rfl (hG.1.1 _ (by decide +kernel))
  have hn147 : (Cond.fieldLinkNest RX5 147 "RagVats$Teams" "number" "I" "RagVats").before args s = true := va_Nw.use rfl (hG.1.1 _ (by decide +kernel))
  replace hl : lv_has ls 7 [(0, .ref (h 0)), (1, .long a1)] := hl
  have hS : va_S A s.heap s.heap [] := va_S.rf
  have L23 : ∀ (K : Int64 → Int32 → Option (Int64)), (∀ (x3_5 : Int64) (x5_5 : Int32), K x3_5 x5_5 = some z → ∀ (H : Heap) (locs : List Loc) (ls : Array Slot), va_P D vwCl (wX5 cy h m_day m_coins m_felts m_made m_worth m_rags m_water m_pulp m_beat m_sort m_nM m_mark m_size m_worn m_nT m_skill m_vat m_pair m_nQ m_allS m_pmark m_pgrade m_psheets m_loft t_day t_coins t_felts t_made t_worth t_rags t_water t_pulp t_beat t_sort t_nM t_mark t_size t_worn t_nT t_skill t_vat t_pair t_nQ t_allS t_pmark t_pgrade t_psheets t_loft) H → va_D A (wX5 cy h m_day m_coins m_felts m_made m_worth m_rags m_water m_pulp m_beat m_sort m_nM m_mark m_size m_worn m_nT m_skill m_vat m_pair m_nQ m_allS m_pmark m_pgrade m_psheets m_loft t_day t_coins t_felts t_made t_worth t_rags t_water t_pulp t_beat t_sort t_nM t_mark t_size t_worn t_nT t_skill t_vat t_pair t_nQ t_allS t_pmark t_pgrade t_psheets t_loft) → va_S A s.heap H locs → lv_has ls 7 [(0, .ref (h 0)), (3, .long x3_5), (5, .int x5_5)] → W p l e rX5_digestTeams s m args below meth c H locs 0 0 Q (F0 m 5 ls [])) → ∀ (k : Nat) (x3_23 : Int64) (x5_23 : Int32) (x6_23 : Int32), fX5_digestTeams_L23 m_felts m_pulp m_beat m_nM m_size m_nT m_skill m_vat m_pair m_allS K k x3_23 x5_23 x6_23 = some z → ∀ (H : Heap) (locs : List Loc) (ls : Array Slot), va_P D vwCl (wX5 cy h m_day m_coins m_felts m_made m_worth m_rags m_water m_pulp m_beat m_sort m_nM m_mark m_size m_worn m_nT m_skill m_vat m_pair m_nQ m_allS m_pmark m_pgrade m_psheets m_loft t_day t_coins t_felts t_made t_worth t_rags t_water t_pulp t_beat t_sort t_nM t_mark t_size t_worn t_nT t_skill t_vat t_pair t_nQ t_allS t_pmark t_pgrade t_psheets t_loft) H → va_D A (wX5 cy h m_day m_coins m_felts m_made m_worth m_rags m_water m_pulp m_beat m_sort m_nM m_mark m_size m_worn m_nT m_skill m_vat m_pair m_nQ m_allS m_pmark m_pgrade m_psheets m_loft t_day t_coins t_felts t_made t_worth t_rags t_water t_pulp t_beat t_sort t_nM t_mark t_size t_worn t_nT t_skill t_vat t_pair t_nQ t_allS t_pmark t_pgrade t_psheets t_loft) → va_S A s.heap H locs → lv_has ls 7 [(0, .ref (h 0)), (3, .long x3_23), (5, .int x5_23), (6, .int x6_23)] → W p l e rX5_digestTeams s m args below meth c H locs 0 0 Q (F0 m 23 ls []) := by
    intro K hK9 k
    induction k with
    | zero =>
      intro x3_23 x5_23 x6_23 hF
      rw [fX5_digestTeams_L23] at hF
      cases hF
    | succ k ih =>
      intro x3_23 x5_23 x6_23 hF H locs ls hP hD hS hl
      rw [fX5_digestTeams_L23] at hF
      refine lv_iload hx hb dX5_digestTeams_23 (lv_at hl 3 rfl) ?_
      refine lv_iconst (v := 4) hx hb dX5_digestTeams_25 (by decide) ?_
      refine lv_icmp_ge (tgt := 51) hx hb dX5_digestTeams_26 (by decide) (fun c_2 => ?_) (fun c_2 => ?_)
      · replace hF := if_t hF c_2
        refine lv_iinc (v := x5_23 + 1) (lv' := [(5, .int (x5_23 + 1)), (0, .ref (h 0)), (3, .long x3_23), (6, .int x6_23)]) hx hb dX5_digestTeams_51 hl (k := 2) rfl rfl (by decide) rfl (fun ls hl => ?_)
        refine lv_goto (tgt := 5) hx hb dX5_digestTeams_54 (by decide) ?_
        exact hK9  x3_23 (x5_23 + 1)  hF _ _ _ hP hD hS (lv_sub hl [1, 2, 0] rfl)
      · replace hF := if_f hF c_2
        refine lv_lload_n hx hb dX5_digestTeams_29 rfl (lv_at hl 1 rfl) ?_
        refine lv_aload_n hx hb dX5_digestTeams_30 rfl (lv_at hl 0 rfl) ?_
        refine va_get (D := D) (C := RX5) (T := TX5) (N := 2) hx hb hts hiX5 hown hK hP 0 gtX5_0 rfl 0 (by decide) hf10 (fun _ h9 => h9) rfl dX5_digestTeams_31 ?_
        refine lv_iload hx hb dX5_digestTeams_34 (lv_at hl 2 rfl) ?_
        refine lv_iload hx hb dX5_digestTeams_36 (lv_at hl 3 rfl) ?_
        replace hF := bnd_some hF
        obtain ⟨z3, hz_3, hF⟩ := hF
        refine krI (kV (As := [.int x5_23, .int x6_23]) ⟨hx, hb, hml, hown, hts⟩ (kX0_tellTeam l D cy sa (fun i => h (i + 1)) m_day m_coins m_felts m_made m_worth m_rags m_water m_pulp m_beat m_sort m_nM m_mark m_size m_worn m_nT m_skill m_vat m_pair m_nQ m_allS m_pmark m_pgrade m_psheets m_loft x5_23 x6_23 z3 hz_3 _) (cwV 2 hts gX5_digestTeams_X0_tellTeam rfl rfl rfl (by decide +kernel) ⟨Nat.le_of_ble_eq_true rfl, Nat.le_of_ble_eq_true rfl⟩) hK hP hD hS hA hG [1, 2, 3, 4, 5, 6, 7, 8, 9, 10, 11, 12, 13, 14, 15, 16, 17, 18, 19, 20] hcX5_X0_1 ndX0_1 gtX0_0 rfl rfl rfl hl.1 [.long x3_23] rfl (Nat.le_of_ble_eq_true rfl) dX5_digestTeams_38 ⟨(Nat.le_of_ble_eq_true rfl), (Nat.le_of_ble_eq_true rfl)⟩) hP hD hS hA [1, 2, 3, 4, 5, 6, 7, 8, 9, 10, 11, 12, 13, 14, 15, 16, 17, 18, 19, 20] hcX5_X0_1 (fun H locs hP hS => ?_)
        replace hF := bnd_some hF
        obtain ⟨z4, hz_4, hF⟩ := hF
        refine krL (kS (As := [.long x3_23, .int z3]) ⟨hx, hb, hml, hown, hts⟩ (kX5_mix l D cy sa x3_23 z3 z4 hz_4 _) (cwS 2 hts gX5_digestTeams_X5_mix rfl rfl rfl (by decide +kernel) ⟨Nat.le_of_ble_eq_true rfl, Nat.le_of_ble_eq_true rfl⟩) hK hP hD hS hA hG [] rfl rfl rfl hl.1 [] rfl (Nat.le_of_ble_eq_true rfl) dX5_digestTeams_41 ⟨(Nat.le_of_ble_eq_true rfl), (Nat.le_of_ble_eq_true rfl)⟩) hP hD hS hA [] rfl (fun H locs hP hS => ?_)
        refine lv_lstore_n (lv' := [(3, .long z4), (0, .ref (h 0)), (5, .int x5_23), (6, .int x6_23)]) hx hb dX5_digestTeams_44 rfl hl (by decide) rfl (fun ls hl => ?_)
        refine lv_iinc (v := x6_23 + 1) (lv' := [(6, .int (x6_23 + 1)), (3, .long z4), (0, .ref (h 0)), (5, .int x5_23)]) hx hb dX5_digestTeams_45 hl (k := 3) rfl rfl (by decide) rfl (fun ls hl => ?_)
        refine lv_goto (tgt := 23) hx hb dX5_digestTeams_48 (by decide) ?_
        exact ih  z4 x5_23 (x6_23 + 1)  hF _ _ _ hP hD hS (lv_sub hl [2, 1, 3, 0] rfl)
  have L5 : ∀ (k : Nat) (x3_5 : Int64) (x5_5 : Int32), fX5_digestTeams_L5 m_felts m_pulp m_beat m_nM m_size m_nT m_skill m_vat m_pair m_allS k x3_5 x5_5 = some z → ∀ (H : Heap) (locs : List Loc) (ls : Array Slot), va_P D vwCl (wX5 cy h m_day m_coins m_felts m_made m_worth m_rags m_water m_pulp m_beat m_sort m_nM m_mark m_size m_worn m_nT m_skill m_vat m_pair m_nQ m_allS m_pmark m_pgrade m_psheets m_loft t_day t_coins t_felts t_made t_worth t_rags t_water t_pulp t_beat t_sort t_nM t_mark t_size t_worn t_nT t_skill t_vat t_pair t_nQ t_allS t_pmark t_pgrade t_psheets t_loft) H → va_D A (wX5 cy h m_day m_coins m_felts m_made m_worth m_rags m_water m_pulp m_beat m_sort m_nM m_mark m_size m_worn m_nT m_skill m_vat m_pair m_nQ m_allS m_pmark m_pgrade m_psheets m_loft t_day t_coins t_felts t_made t_worth t_rags t_water t_pulp t_beat t_sort t_nM t_mark t_size t_worn t_nT t_skill t_vat t_pair t_nQ t_allS t_pmark t_pgrade t_psheets t_loft) → va_S A s.heap H locs → lv_has ls 7 [(0, .ref (h 0)), (3, .long x3_5), (5, .int x5_5)] → W p l e rX5_digestTeams s m args below meth c H locs 0 0 Q (F0 m 5 ls []) := by
    intro k
    induction k with
    | zero =>
      intro x3_5 x5_5 hF
      rw [fX5_digestTeams_L5] at hF
      cases hF
    | succ k ih =>
      intro x3_5 x5_5 hF H locs ls hP hD hS hl
      rw [fX5_digestTeams_L5] at hF
      refine lv_iload hx hb dX5_digestTeams_5 (lv_at hl 2 rfl) ?_
      refine lv_aload_n hx hb dX5_digestTeams_7 rfl (lv_at hl 0 rfl) ?_
      refine va_get (D := D) (C := RX5) (T := TX5) (N := 2) hx hb hts hiX5 hown hK hP 0 gtX5_0 rfl 0 (by decide) hf10 (fun _ h9 => h9) rfl dX5_digestTeams_8 ?_
      refine va_getN (host := "RagVats") (D := D) (C := RX0) (T := TX0) (N := 12) hx hb hts hiX0 hown hK hP 1 gtX5_1 rfl 9 (by decide) hn143 (fun _ h9 => h9) rfl dX5_digestTeams_11 ?_
      refine va_getN (host := "RagVats") (D := D) (C := RX3) (T := TX3) (N := 4) hx hb hts hiX3 hown hK hP 12 gtX5_12 rfl 0 (by decide) hn147 (fun _ h9 => h9) rfl dX5_digestTeams_14 ?_
      refine lv_icmp_ge (tgt := 57) hx hb dX5_digestTeams_17 (by decide) (fun c_1 => ?_) (fun c_1 => ?_)
      · replace hF := if_t hF c_1
        refine lv_lload_n hx hb dX5_digestTeams_57 rfl (lv_at hl 1 rfl) ?_
        cases hF
        exact hQ _ _ _ _ _ _ (fun _ => 0) dX5_digestTeams_58 hP hD hS (Nat.le_of_ble_eq_true rfl) (Nat.le_of_ble_eq_true rfl)
      · replace hF := if_f hF c_1
        refine lv_iconst (v := 0) hx hb dX5_digestTeams_20 (by decide) ?_
        refine lv_istore (lv' := [(6, .int 0), (0, .ref (h 0)), (3, .long x3_5), (5, .int x5_5)]) hx hb dX5_digestTeams_21 hl (by decide) rfl (fun ls hl => ?_)
        exact L23 _ ih 300 x3_5 x5_5 0  hF _ _ _ hP hD hS (lv_sub hl [1, 2, 3, 0] rfl)
  unfold fX5_digestTeams at hF
  refine lv_lload_n hx hb dX5_digestTeams_0 rfl (lv_at hl 1 rfl) ?_
  refine lv_lstore_n (lv' := [(3, .long a1), (0, .ref (h 0)), (1, .long a1)]) hx hb dX5_digestTeams_1 rfl hl (by decide) rfl (fun ls hl => ?_)
  refine lv_iconst (v := 0) hx hb dX5_digestTeams_2 (by decide) ?_
  refine lv_istore (lv' := [(5, .int 0), (3, .long a1), (0, .ref (h 0)), (1, .long a1)]) hx hb dX5_digestTeams_3 hl (by decide) rfl (fun ls hl => ?_)
  exact L5 300 a1 0  hF _ _ _ hP hD hS (lv_sub hl [2, 1, 0] rfl)

def fX5_digestPosts_L23 (m_nQ : Int32) (m_pmark : FN) (m_pgrade : FN) (m_psheets : FN) (K : Int64 → Int32 → Option (Int64)) : Nat → Int64 → Int32 → Int32 → Option (Int64)
  | 0, _, _, _ => none
  | k + 1, x3_23, x5_23, x6_23 => if 3 ≤ x6_23 then K x3_23 (x5_23 + 1) else (fX2_tell m_nQ m_pmark m_pgrade m_psheets x5_23 x6_23).bind fun z3 => (fX5_mix x3_23 z3).bind fun z4 => fX5_digestPosts_L23 m_nQ m_pmark m_pgrade m_psheets K k z4 x5_23 (x6_23 + 1)
def fX5_digestPosts_L5 (m_nQ : Int32) (m_pmark : FN) (m_pgrade : FN) (m_psheets : FN) : Nat → Int64 → Int32 → Option (Int64)
  | 0, _, _ => none
  | k + 1, x3_5, x5_5 => if m_nQ ≤ x5_5 then some x3_5 else fX5_digestPosts_L23 m_nQ m_pmark m_pgrade m_psheets (fX5_digestPosts_L5 m_nQ m_pmark m_pgrade m_psheets k) 300 x3_5 x5_5 0
def fX5_digestPosts (m_nQ : Int32) (m_pmark : FN) (m_pgrade : FN) (m_psheets : FN) (a1 : Int64) : Option (Int64) := fX5_digestPosts_L5 m_nQ m_pmark m_pgrade m_psheets 300 a1 0
abbrev rX5_digestPosts : Room := { frames := 3, cells := 0, slots := 0, locals := 64 }
set_option maxHeartbeats 4000000 in
set_option maxRecDepth 100000 in
theorem kX5_digestPosts (l : Launch) (D : va_G) (cy : Nat → ClassId) (sa : Nat → Nat) (h : Nat → Nat) (m_day : Int32) (m_coins : Int32) (m_felts : Int32) (m_made : Int32) (m_worth : Int32) (m_rags : FN) (m_water : FN) (m_pulp : FN) (m_beat : FN) (m_sort : FN) (m_nM : Int32) (m_mark : FN) (m_size : FN) (m_worn : FN) (m_nT : Int32) (m_skill : FN) (m_vat : FN) (m_pair : FN) (m_nQ : Int32) (m_allS : Int32) (m_pmark : FN) (m_pgrade : FN) (m_psheets : FN) (m_loft : FN) (t_day : Int32) (t_coins : Int32) (t_felts : Int32) (t_made : Int32) (t_worth : Int32) (t_rags : FN) (t_water : FN) (t_pulp : FN) (t_beat : FN) (t_sort : FN) (t_nM : Int32) (t_mark : FN) (t_size : FN) (t_worn : FN) (t_nT : Int32) (t_skill : FN) (t_vat : FN) (t_pair : FN) (t_nQ : Int32) (t_allS : Int32) (t_pmark : FN) (t_pgrade : FN) (t_psheets : FN) (t_loft : FN) (a1 : Int64) (z : Int64) (hF : fX5_digestPosts m_nQ m_pmark m_pgrade m_psheets a1 = some z) : KL l D (tyW cy) sa yX5_digestPosts wsX5_digestPosts rX5_digestPosts [.ref (h 0), .long a1] (wX5 cy h m_day m_coins m_felts m_made m_worth m_rags m_water m_pulp m_beat m_sort m_nM m_mark m_size m_worn m_nT m_skill m_vat m_pair m_nQ m_allS m_pmark m_pgrade m_psheets m_loft t_day t_coins t_felts t_made t_worth t_rags t_water t_pulp t_beat t_sort t_nM t_mark t_size t_worn t_nT t_skill t_vat t_pair t_nQ t_allS t_pmark t_pgrade t_psheets t_loft) z (fun _ => wX5 cy h m_day m_coins m_felts m_made m_worth m_rags m_water m_pulp m_beat m_sort m_nM m_mark m_size m_worn m_nT m_skill m_vat m_pair m_nQ m_allS m_pmark m_pgrade m_psheets m_loft t_day t_coins t_felts t_made t_worth t_rags t_water t_pulp t_beat t_sort t_nM t_mark t_size t_worn t_nT t_skill t_vat t_pair t_nQ t_allS t_pmark t_pgrade t_psheets t_loft) 0 0 := by
  refine KL.of (cc := cX5_digestPosts) (maxL := 7) (by decide +kernel) rfl (Nat.le_of_ble_eq_true rfl) ?_
  intro p e s m args below meth c A ls Q hE hQ
  obtain ⟨hx, hb, hml, hown, hts, hA, hP, hK, hD, hG, hl, hnm⟩ := hE
  replace hown : s.vm.findClass RX5 = some m.cls := hown
  have hiX0 : ∀ w ∈ u_ws RX0 TX0 12, w ∈ wsX5_digestPosts := by decide +kernel
  have hiX2 : ∀ w ∈ u_ws RX2 TX2 5, w ∈ wsX5_digestPosts := by decide +kernel
  have hiX5 : ∀ w ∈ u_ws RX5 TX5 2, w ∈ wsX5_digestPosts := by decide +kernel
  have hf10 : (Cond.fieldLink RX5 10 "RagVats" "mill" "LRagVats$Mill;").before args s = true := hts _ (by decide +kernel)
  have hn190 : (Cond.fieldLinkNest RX5 190 "RagVats$Mill" "posts" "LRagVats$Posts;" "RagVats").before args s = true := va_Nw.use rfl (hG.1.1 _ (by decide +kernel))
  have hn264 : (Cond.fieldLinkNest RX5 264 "RagVats$Posts" "number" "I" "RagVats").before args s = true := va_Nw.use rfl (hG.1.1 _ (by decide +kernel))
  replace hl : lv_has ls 7 [(0, .ref (h 0)), (1, .long a1)] := hl
  have hS : va_S A s.heap s.heap [] := va_S.rf
  have L23 : ∀ (K : Int64 → Int32 → Option (Int64)), (∀ (x3_5 : Int64) (x5_5 : Int32), K x3_5 x5_5 = some z → ∀ (H : Heap) (locs : List Loc) (ls : Array Slot), va_P D vwCl (wX5 cy h m_day m_coins m_felts m_made m_worth m_rags m_water m_pulp m_beat m_sort m_nM m_mark m_size m_worn m_nT m_skill m_vat m_pair m_nQ m_allS m_pmark m_pgrade m_psheets m_loft t_day t_coins t_felts t_made t_worth t_rags t_water t_pulp t_beat t_sort t_nM t_mark t_size t_worn t_nT t_skill t_vat t_pair t_nQ t_allS t_pmark t_pgrade t_psheets t_loft) H → va_D A (wX5 cy h m_day m_coins m_felts m_made m_worth m_rags m_water m_pulp m_beat m_sort m_nM m_mark m_size m_worn m_nT m_skill m_vat m_pair m_nQ m_allS m_pmark m_pgrade m_psheets m_loft t_day t_coins t_felts t_made t_worth t_rags t_water t_pulp t_beat t_sort t_nM t_mark t_size t_worn t_nT t_skill t_vat t_pair t_nQ t_allS t_pmark t_pgrade t_psheets t_loft) → va_S A s.heap H locs → lv_has ls 7 [(0, .ref (h 0)), (3, .long x3_5), (5, .int x5_5)] → W p l e rX5_digestPosts s m args below meth c H locs 0 0 Q (F0 m 5 ls [])) → ∀ (k : Nat) (x3_23 : Int64) (x5_23 : Int32) (x6_23 : Int32), fX5_digestPosts_L23 m_nQ m_pmark m_pgrade m_psheets K k x3_23 x5_23 x6_23 = some z → ∀ (H : Heap) (locs : List Loc) (ls : Array Slot), va_P D vwCl (wX5 cy h m_day m_coins m_felts m_made m_worth m_rags m_water m_pulp m_beat m_sort m_nM m_mark m_size m_worn m_nT m_skill m_vat m_pair m_nQ m_allS m_pmark m_pgrade m_psheets m_loft t_day t_coins t_felts t_made t_worth t_rags t_water t_pulp t_beat t_sort t_nM t_mark t_size t_worn t_nT t_skill t_vat t_pair t_nQ t_allS t_pmark t_pgrade t_psheets t_loft) H → va_D A (wX5 cy h m_day m_coins m_felts m_made m_worth m_rags m_water m_pulp m_beat m_sort m_nM m_mark m_size m_worn m_nT m_skill m_vat m_pair m_nQ m_allS m_pmark m_pgrade m_psheets m_loft t_day t_coins t_felts t_made t_worth t_rags t_water t_pulp t_beat t_sort t_nM t_mark t_size t_worn t_nT t_skill t_vat t_pair t_nQ t_allS t_pmark t_pgrade t_psheets t_loft) → va_S A s.heap H locs → lv_has ls 7 [(0, .ref (h 0)), (3, .long x3_23), (5, .int x5_23), (6, .int x6_23)] → W p l e rX5_digestPosts s m args below meth c H locs 0 0 Q (F0 m 23 ls []) := by
    intro K hK9 k
    induction k with
    | zero =>
      intro x3_23 x5_23 x6_23 hF
      rw [fX5_digestPosts_L23] at hF
      cases hF
    | succ k ih =>
      intro x3_23 x5_23 x6_23 hF H locs ls hP hD hS hl
      rw [fX5_digestPosts_L23] at hF
      refine lv_iload hx hb dX5_digestPosts_23 (lv_at hl 3 rfl) ?_
      refine lv_iconst (v := 3) hx hb dX5_digestPosts_25 (by decide) ?_
      refine lv_icmp_ge (tgt := 54) hx hb dX5_digestPosts_26 (by decide) (fun c_2 => ?_) (fun c_2 => ?_)
      · replace hF := if_t hF c_2
        refine lv_iinc (v := x5_23 + 1) (lv' := [(5, .int (x5_23 + 1)), (0, .ref (h 0)), (3, .long x3_23), (6, .int x6_23)]) hx hb dX5_digestPosts_54 hl (k := 2) rfl rfl (by decide) rfl (fun ls hl => ?_)
        refine lv_goto (tgt := 5) hx hb dX5_digestPosts_57 (by decide) ?_
        exact hK9  x3_23 (x5_23 + 1)  hF _ _ _ hP hD hS (lv_sub hl [1, 2, 0] rfl)
      · replace hF := if_f hF c_2
        refine lv_lload_n hx hb dX5_digestPosts_29 rfl (lv_at hl 1 rfl) ?_
        refine lv_aload_n hx hb dX5_digestPosts_30 rfl (lv_at hl 0 rfl) ?_
        refine va_get (D := D) (C := RX5) (T := TX5) (N := 2) hx hb hts hiX5 hown hK hP 0 gtX5_0 rfl 0 (by decide) hf10 (fun _ h9 => h9) rfl dX5_digestPosts_31 ?_
        refine va_getN (host := "RagVats") (D := D) (C := RX0) (T := TX0) (N := 12) hx hb hts hiX0 hown hK hP 1 gtX5_1 rfl 10 (by decide) hn190 (fun _ h9 => h9) rfl dX5_digestPosts_34 ?_
        refine lv_iload hx hb dX5_digestPosts_37 (lv_at hl 2 rfl) ?_
        refine lv_iload hx hb dX5_digestPosts_39 (lv_at hl 3 rfl) ?_
        replace hF := bnd_some hF
        obtain ⟨z3, hz_3, hF⟩ := hF
        refine krI (kV (As := [.int x5_23, .int x6_23]) ⟨hx, hb, hml, hown, hts⟩ (kX2_tell l D cy sa (fun i => h (i + 16)) m_nQ m_allS m_pmark m_pgrade m_psheets x5_23 x6_23 z3 hz_3 _) (cwV 2 hts gX5_digestPosts_X2_tell rfl rfl rfl (by decide +kernel) ⟨Nat.le_of_ble_eq_true rfl, Nat.le_of_ble_eq_true rfl⟩) hK hP hD hS hA hG [16, 17, 18, 19] hcX5_X2_16 ndX2_16 gtX2_0 rfl rfl rfl hl.1 [.long x3_23] rfl (Nat.le_of_ble_eq_true rfl) dX5_digestPosts_41 ⟨(Nat.le_of_ble_eq_true rfl), (Nat.le_of_ble_eq_true rfl)⟩) hP hD hS hA [16, 17, 18, 19] hcX5_X2_16 (fun H locs hP hS => ?_)
        replace hF := bnd_some hF
        obtain ⟨z4, hz_4, hF⟩ := hF
        refine krL (kS (As := [.long x3_23, .int z3]) ⟨hx, hb, hml, hown, hts⟩ (kX5_mix l D cy sa x3_23 z3 z4 hz_4 _) (cwS 2 hts gX5_digestPosts_X5_mix rfl rfl rfl (by decide +kernel) ⟨Nat.le_of_ble_eq_true rfl, Nat.le_of_ble_eq_true rfl⟩) hK hP hD hS hA hG [] rfl rfl rfl hl.1 [] rfl (Nat.le_of_ble_eq_true rfl) dX5_digestPosts_44 ⟨(Nat.le_of_ble_eq_true rfl), (Nat.le_of_ble_eq_true rfl)⟩) hP hD hS hA [] rfl (fun H locs hP hS => ?_)
        refine lv_lstore_n (lv' := [(3, .long z4), (0, .ref (h 0)), (5, .int x5_23), (6, .int x6_23)]) hx hb dX5_digestPosts_47 rfl hl (by decide) rfl (fun ls hl => ?_)
        refine lv_iinc (v := x6_23 + 1) (lv' := [(6, .int (x6_23 + 1)), (3, .long z4), (0, .ref (h 0)), (5, .int x5_23)]) hx hb dX5_digestPosts_48 hl (k := 3) rfl rfl (by decide) rfl (fun ls hl => ?_)
        refine lv_goto (tgt := 23) hx hb dX5_digestPosts_51 (by decide) ?_
        exact ih  z4 x5_23 (x6_23 + 1)  hF _ _ _ hP hD hS (lv_sub hl [2, 1, 3, 0] rfl)
  have L5 : ∀ (k : Nat) (x3_5 : Int64) (x5_5 : Int32), fX5_digestPosts_L5 m_nQ m_pmark m_pgrade m_psheets k x3_5 x5_5 = some z → ∀ (H : Heap) (locs : List Loc) (ls : Array Slot), va_P D vwCl (wX5 cy h m_day m_coins m_felts m_made m_worth m_rags m_water m_pulp m_beat m_sort m_nM m_mark m_size m_worn m_nT m_skill m_vat m_pair m_nQ m_allS m_pmark m_pgrade m_psheets m_loft t_day t_coins t_felts t_made t_worth t_rags t_water t_pulp t_beat t_sort t_nM t_mark t_size t_worn t_nT t_skill t_vat t_pair t_nQ t_allS t_pmark t_pgrade t_psheets t_loft) H → va_D A (wX5 cy h m_day m_coins m_felts m_made m_worth m_rags m_water m_pulp m_beat m_sort m_nM m_mark m_size m_worn m_nT m_skill m_vat m_pair m_nQ m_allS m_pmark m_pgrade m_psheets m_loft t_day t_coins t_felts t_made t_worth t_rags t_water t_pulp t_beat t_sort t_nM t_mark t_size t_worn t_nT t_skill t_vat t_pair t_nQ t_allS t_pmark t_pgrade t_psheets t_loft) → va_S A s.heap H locs → lv_has ls 7 [(0, .ref (h 0)), (3, .long x3_5), (5, .int x5_5)] → W p l e rX5_digestPosts s m args below meth c H locs 0 0 Q (F0 m 5 ls []) := by
    intro k
    induction k with
    | zero =>
      intro x3_5 x5_5 hF
      rw [fX5_digestPosts_L5] at hF
      cases hF
    | succ k ih =>
      intro x3_5 x5_5 hF H locs ls hP hD hS hl
      rw [fX5_digestPosts_L5] at hF
      refine lv_iload hx hb dX5_digestPosts_5 (lv_at hl 2 rfl) ?_
      refine lv_aload_n hx hb dX5_digestPosts_7 rfl (lv_at hl 0 rfl) ?_
      refine va_get (D := D) (C := RX5) (T := TX5) (N := 2) hx hb hts hiX5 hown hK hP 0 gtX5_0 rfl 0 (by decide) hf10 (fun _ h9 => h9) rfl dX5_digestPosts_8 ?_
      refine va_getN (host := "RagVats") (D := D) (C := RX0) (T := TX0) (N := 12) hx hb hts hiX0 hown hK hP 1 gtX5_1 rfl 10 (by decide) hn190 (fun _ h9 => h9) rfl dX5_digestPosts_11 ?_
      refine va_getN (host := "RagVats") (D := D) (C := RX2) (T := TX2) (N := 5) hx hb hts hiX2 hown hK hP 16 gtX5_16 rfl 0 (by decide) hn264 (fun _ h9 => h9) rfl dX5_digestPosts_14 ?_
      refine lv_icmp_ge (tgt := 60) hx hb dX5_digestPosts_17 (by decide) (fun c_1 => ?_) (fun c_1 => ?_)
      · replace hF := if_t hF c_1
        refine lv_lload_n hx hb dX5_digestPosts_60 rfl (lv_at hl 1 rfl) ?_
        cases hF
        exact hQ _ _ _ _ _ _ (fun _ => 0) dX5_digestPosts_61 hP hD hS (Nat.le_of_ble_eq_true rfl) (Nat.le_of_ble_eq_true rfl)
      · replace hF := if_f hF c_1
        refine lv_iconst (v := 0) hx hb dX5_digestPosts_20 (by decide) ?_
        refine lv_istore (lv' := [(6, .int 0), (0, .ref (h 0)), (3, .long x3_5), (5, .int x5_5)]) hx hb dX5_digestPosts_21 hl (by decide) rfl (fun ls hl => ?_)
        exact L23 _ ih 300 x3_5 x5_5 0  hF _ _ _ hP hD hS (lv_sub hl [1, 2, 3, 0] rfl)
  unfold fX5_digestPosts at hF
  refine lv_lload_n hx hb dX5_digestPosts_0 rfl (lv_at hl 1 rfl) ?_
  refine lv_lstore_n (lv' := [(3, .long a1), (0, .ref (h 0)), (1, .long a1)]) hx hb dX5_digestPosts_1 rfl hl (by decide) rfl (fun ls hl => ?_)
  refine lv_iconst (v := 0) hx hb dX5_digestPosts_2 (by decide) ?_
  refine lv_istore (lv' := [(5, .int 0), (3, .long a1), (0, .ref (h 0)), (1, .long a1)]) hx hb dX5_digestPosts_3 hl (by decide) rfl (fun ls hl => ?_)
  exact L5 300 a1 0  hF _ _ _ hP hD hS (lv_sub hl [2, 1, 0] rfl)

def fX5_digestLoft_L15 (m_loft : FN) (K : Int64 → Int32 → Option (Int64)) : Nat → Int64 → Int32 → Int32 → Option (Int64)
  | 0, _, _, _ => none
  | k + 1, x3_15, x5_15, x6_15 => if 3 ≤ x6_15 then K x3_15 (x5_15 + 1) else (fX0_hanging m_loft x5_15 x6_15).bind fun z3 => (fX5_mix x3_15 z3).bind fun z4 => fX5_digestLoft_L15 m_loft K k z4 x5_15 (x6_15 + 1)
def fX5_digestLoft_L5 (m_loft : FN) : Nat → Int64 → Int32 → Option (Int64)
  | 0, _, _ => none
  | k + 1, x3_5, x5_5 => if 10 ≤ x5_5 then some x3_5 else fX5_digestLoft_L15 m_loft (fX5_digestLoft_L5 m_loft k) 300 x3_5 x5_5 0
def fX5_digestLoft (m_loft : FN) (a1 : Int64) : Option (Int64) := fX5_digestLoft_L5 m_loft 300 a1 0
abbrev rX5_digestLoft : Room := { frames := 2, cells := 0, slots := 0, locals := 43 }
set_option maxHeartbeats 4000000 in
set_option maxRecDepth 100000 in
theorem kX5_digestLoft (l : Launch) (D : va_G) (cy : Nat → ClassId) (sa : Nat → Nat) (h : Nat → Nat) (m_day : Int32) (m_coins : Int32) (m_felts : Int32) (m_made : Int32) (m_worth : Int32) (m_rags : FN) (m_water : FN) (m_pulp : FN) (m_beat : FN) (m_sort : FN) (m_nM : Int32) (m_mark : FN) (m_size : FN) (m_worn : FN) (m_nT : Int32) (m_skill : FN) (m_vat : FN) (m_pair : FN) (m_nQ : Int32) (m_allS : Int32) (m_pmark : FN) (m_pgrade : FN) (m_psheets : FN) (m_loft : FN) (t_day : Int32) (t_coins : Int32) (t_felts : Int32) (t_made : Int32) (t_worth : Int32) (t_rags : FN) (t_water : FN) (t_pulp : FN) (t_beat : FN) (t_sort : FN) (t_nM : Int32) (t_mark : FN) (t_size : FN) (t_worn : FN) (t_nT : Int32) (t_skill : FN) (t_vat : FN) (t_pair : FN) (t_nQ : Int32) (t_allS : Int32) (t_pmark : FN) (t_pgrade : FN) (t_psheets : FN) (t_loft : FN) (a1 : Int64) (z : Int64) (hF : fX5_digestLoft m_loft a1 = some z) : KL l D (tyW cy) sa yX5_digestLoft wsX5_digestLoft rX5_digestLoft [.ref (h 0), .long a1] (wX5 cy h m_day m_coins m_felts m_made m_worth m_rags m_water m_pulp m_beat m_sort m_nM m_mark m_size m_worn m_nT m_skill m_vat m_pair m_nQ m_allS m_pmark m_pgrade m_psheets m_loft t_day t_coins t_felts t_made t_worth t_rags t_water t_pulp t_beat t_sort t_nM t_mark t_size t_worn t_nT t_skill t_vat t_pair t_nQ t_allS t_pmark t_pgrade t_psheets t_loft) z (fun _ => wX5 cy h m_day m_coins m_felts m_made m_worth m_rags m_water m_pulp m_beat m_sort m_nM m_mark m_size m_worn m_nT m_skill m_vat m_pair m_nQ m_allS m_pmark m_pgrade m_psheets m_loft t_day t_coins t_felts t_made t_worth t_rags t_water t_pulp t_beat t_sort t_nM t_mark t_size t_worn t_nT t_skill t_vat t_pair t_nQ t_allS t_pmark t_pgrade t_psheets t_loft) 0 0 := by
  refine KL.of (cc := cX5_digestLoft) (maxL := 7) (by decide +kernel) rfl (Nat.le_of_ble_eq_true rfl) ?_
  intro p e s m args below meth c A ls Q hE hQ
  obtain ⟨hx, hb, hml, hown, hts, hA, hP, hK, hD, hG, hl, hnm⟩ := hE
  replace hown : s.vm.findClass RX5 = some m.cls := hown
  have hiX5 : ∀ w ∈ u_ws RX5 TX5 2, w ∈ wsX5_digestLoft := by decide +kernel
  have hf10 : (Cond.fieldLink RX5 10 "RagVats" "mill" "LRagVats$Mill;").before args s = true := hts _ (by decide +kernel)
  replace hl : lv_has ls 7 [(0, .ref (h 0)), (1, .long a1)] := hl
  have hS : va_S A s.heap s.heap [] := va_S.rf
  have L15 : ∀ (K : Int64 → Int32 → Option (Int64)), (∀ (x3_5 : Int64) (x5_5 : Int32), K x3_5 x5_5 = some z → ∀ (H : Heap) (locs : List Loc) (ls : Array Slot), va_P D vwCl (wX5 cy h m_day m_coins m_felts m_made m_worth m_rags m_water m_pulp m_beat m_sort m_nM m_mark m_size m_worn m_nT m_skill m_vat m_pair m_nQ m_allS m_pmark m_pgrade m_psheets m_loft t_day t_coins t_felts t_made t_worth t_rags t_water t_pulp t_beat t_sort t_nM t_mark t_size t_worn t_nT t_skill t_vat t_pair t_nQ t_allS t_pmark t_pgrade t_psheets t_loft) H → va_D A (wX5 cy h m_day m_coins m_felts m_made m_worth m_rags m_water m_pulp m_beat m_sort m_nM m_mark m_size m_worn m_nT m_skill m_vat m_pair m_nQ m_allS m_pmark m_pgrade m_psheets m_loft t_day t_coins t_felts t_made t_worth t_rags t_water t_pulp t_beat t_sort t_nM t_mark t_size t_worn t_nT t_skill t_vat t_pair t_nQ t_allS t_pmark t_pgrade t_psheets t_loft) → va_S A s.heap H locs → lv_has ls 7 [(0, .ref (h 0)), (3, .long x3_5), (5, .int x5_5)] → W p l e rX5_digestLoft s m args below meth c H locs 0 0 Q (F0 m 5 ls [])) → ∀ (k : Nat) (x3_15 : Int64) (x5_15 : Int32) (x6_15 : Int32), fX5_digestLoft_L15 m_loft K k x3_15 x5_15 x6_15 = some z → ∀ (H : Heap) (locs : List Loc) (ls : Array Slot), va_P D vwCl (wX5 cy h m_day m_coins m_felts m_made m_worth m_rags m_water m_pulp m_beat m_sort m_nM m_mark m_size m_worn m_nT m_skill m_vat m_pair m_nQ m_allS m_pmark m_pgrade m_psheets m_loft t_day t_coins t_felts t_made t_worth t_rags t_water t_pulp t_beat t_sort t_nM t_mark t_size t_worn t_nT t_skill t_vat t_pair t_nQ t_allS t_pmark t_pgrade t_psheets t_loft) H → va_D A (wX5 cy h m_day m_coins m_felts m_made m_worth m_rags m_water m_pulp m_beat m_sort m_nM m_mark m_size m_worn m_nT m_skill m_vat m_pair m_nQ m_allS m_pmark m_pgrade m_psheets m_loft t_day t_coins t_felts t_made t_worth t_rags t_water t_pulp t_beat t_sort t_nM t_mark t_size t_worn t_nT t_skill t_vat t_pair t_nQ t_allS t_pmark t_pgrade t_psheets t_loft) → va_S A s.heap H locs → lv_has ls 7 [(0, .ref (h 0)), (3, .long x3_15), (5, .int x5_15), (6, .int x6_15)] → W p l e rX5_digestLoft s m args below meth c H locs 0 0 Q (F0 m 15 ls []) := by
    intro K hK9 k
    induction k with
    | zero =>
      intro x3_15 x5_15 x6_15 hF
      rw [fX5_digestLoft_L15] at hF
      cases hF
    | succ k ih =>
      intro x3_15 x5_15 x6_15 hF H locs ls hP hD hS hl
      rw [fX5_digestLoft_L15] at hF
      refine lv_iload hx hb dX5_digestLoft_15 (lv_at hl 3 rfl) ?_
      refine lv_iconst (v := 3) hx hb dX5_digestLoft_17 (by decide) ?_
      refine lv_icmp_ge (tgt := 43) hx hb dX5_digestLoft_18 (by decide) (fun c_2 => ?_) (fun c_2 => ?_)
      · replace hF := if_t hF c_2
        refine lv_iinc (v := x5_15 + 1) (lv' := [(5, .int (x5_15 + 1)), (0, .ref (h 0)), (3, .long x3_15), (6, .int x6_15)]) hx hb dX5_digestLoft_43 hl (k := 2) rfl rfl (by decide) rfl (fun ls hl => ?_)
        refine lv_goto (tgt := 5) hx hb dX5_digestLoft_46 (by decide) ?_
        exact hK9  x3_15 (x5_15 + 1)  hF _ _ _ hP hD hS (lv_sub hl [1, 2, 0] rfl)
      · replace hF := if_f hF c_2
        refine lv_lload_n hx hb dX5_digestLoft_21 rfl (lv_at hl 1 rfl) ?_
        refine lv_aload_n hx hb dX5_digestLoft_22 rfl (lv_at hl 0 rfl) ?_
        refine va_get (D := D) (C := RX5) (T := TX5) (N := 2) hx hb hts hiX5 hown hK hP 0 gtX5_0 rfl 0 (by decide) hf10 (fun _ h9 => h9) rfl dX5_digestLoft_23 ?_
        refine lv_iload hx hb dX5_digestLoft_26 (lv_at hl 2 rfl) ?_
        refine lv_iload hx hb dX5_digestLoft_28 (lv_at hl 3 rfl) ?_
        replace hF := bnd_some hF
        obtain ⟨z3, hz_3, hF⟩ := hF
        refine krI (kV (As := [.int x5_15, .int x6_15]) ⟨hx, hb, hml, hown, hts⟩ (kX0_hanging l D cy sa (fun i => h (i + 1)) m_day m_coins m_felts m_made m_worth m_rags m_water m_pulp m_beat m_sort m_nM m_mark m_size m_worn m_nT m_skill m_vat m_pair m_nQ m_allS m_pmark m_pgrade m_psheets m_loft x5_15 x6_15 z3 hz_3 _) (cwV 2 hts gX5_digestLoft_X0_hanging rfl rfl rfl (by decide +kernel) ⟨Nat.le_of_ble_eq_true rfl, Nat.le_of_ble_eq_true rfl⟩) hK hP hD hS hA hG [1, 2, 3, 4, 5, 6, 7, 8, 9, 10, 11, 12, 13, 14, 15, 16, 17, 18, 19, 20] hcX5_X0_1 ndX0_1 gtX0_0 rfl rfl rfl hl.1 [.long x3_15] rfl (Nat.le_of_ble_eq_true rfl) dX5_digestLoft_30 ⟨(Nat.le_of_ble_eq_true rfl), (Nat.le_of_ble_eq_true rfl)⟩) hP hD hS hA [1, 2, 3, 4, 5, 6, 7, 8, 9, 10, 11, 12, 13, 14, 15, 16, 17, 18, 19, 20] hcX5_X0_1 (fun H locs hP hS => ?_)
        replace hF := bnd_some hF
        obtain ⟨z4, hz_4, hF⟩ := hF
        refine krL (kS (As := [.long x3_15, .int z3]) ⟨hx, hb, hml, hown, hts⟩ (kX5_mix l D cy sa x3_15 z3 z4 hz_4 _) (cwS 2 hts gX5_digestLoft_X5_mix rfl rfl rfl (by decide +kernel) ⟨Nat.le_of_ble_eq_true rfl, Nat.le_of_ble_eq_true rfl⟩) hK hP hD hS hA hG [] rfl rfl rfl hl.1 [] rfl (Nat.le_of_ble_eq_true rfl) dX5_digestLoft_33 ⟨(Nat.le_of_ble_eq_true rfl), (Nat.le_of_ble_eq_true rfl)⟩) hP hD hS hA [] rfl (fun H locs hP hS => ?_)
        refine lv_lstore_n (lv' := [(3, .long z4), (0, .ref (h 0)), (5, .int x5_15), (6, .int x6_15)]) hx hb dX5_digestLoft_36 rfl hl (by decide) rfl (fun ls hl => ?_)
        refine lv_iinc (v := x6_15 + 1) (lv' := [(6, .int (x6_15 + 1)), (3, .long z4), (0, .ref (h 0)), (5, .int x5_15)]) hx hb dX5_digestLoft_37 hl (k := 3) rfl rfl (by decide) rfl (fun ls hl => ?_)
        refine lv_goto (tgt := 15) hx hb dX5_digestLoft_40 (by decide) ?_
        exact ih  z4 x5_15 (x6_15 + 1)  hF _ _ _ hP hD hS (lv_sub hl [2, 1, 3, 0] rfl)
  have L5 : ∀ (k : Nat) (x3_5 : Int64) (x5_5 : Int32), fX5_digestLoft_L5 m_loft k x3_5 x5_5 = some z → ∀ (H : Heap) (locs : List Loc) (ls : Array Slot), va_P D vwCl (wX5 cy h m_day m_coins m_felts m_made m_worth m_rags m_water m_pulp m_beat m_sort m_nM m_mark m_size m_worn m_nT m_skill m_vat m_pair m_nQ m_allS m_pmark m_pgrade m_psheets m_loft t_day t_coins t_felts t_made t_worth t_rags t_water t_pulp t_beat t_sort t_nM t_mark t_size t_worn t_nT t_skill t_vat t_pair t_nQ t_allS t_pmark t_pgrade t_psheets t_loft) H → va_D A (wX5 cy h m_day m_coins m_felts m_made m_worth m_rags m_water m_pulp m_beat m_sort m_nM m_mark m_size m_worn m_nT m_skill m_vat m_pair m_nQ m_allS m_pmark m_pgrade m_psheets m_loft t_day t_coins t_felts t_made t_worth t_rags t_water t_pulp t_beat t_sort t_nM t_mark t_size t_worn t_nT t_skill t_vat t_pair t_nQ t_allS t_pmark t_pgrade t_psheets t_loft) → va_S A s.heap H locs → lv_has ls 7 [(0, .ref (h 0)), (3, .long x3_5), (5, .int x5_5)] → W p l e rX5_digestLoft s m args below meth c H locs 0 0 Q (F0 m 5 ls []) := by
    intro k
    induction k with
    | zero =>
      intro x3_5 x5_5 hF
      rw [fX5_digestLoft_L5] at hF
      cases hF
    | succ k ih =>
      intro x3_5 x5_5 hF H locs ls hP hD hS hl
      rw [fX5_digestLoft_L5] at hF
      refine lv_iload hx hb dX5_digestLoft_5 (lv_at hl 2 rfl) ?_
      refine lv_bipush (v := 10) hx hb dX5_digestLoft_7 (by decide) ?_
      refine lv_icmp_ge (tgt := 49) hx hb dX5_digestLoft_9 (by decide) (fun c_1 => ?_) (fun c_1 => ?_)
      · replace hF := if_t hF c_1
        refine lv_lload_n hx hb dX5_digestLoft_49 rfl (lv_at hl 1 rfl) ?_
        cases hF
        exact hQ _ _ _ _ _ _ (fun _ => 0) dX5_digestLoft_50 hP hD hS (Nat.le_of_ble_eq_true rfl) (Nat.le_of_ble_eq_true rfl)
      · replace hF := if_f hF c_1
        refine lv_iconst (v := 0) hx hb dX5_digestLoft_12 (by decide) ?_
        refine lv_istore (lv' := [(6, .int 0), (0, .ref (h 0)), (3, .long x3_5), (5, .int x5_5)]) hx hb dX5_digestLoft_13 hl (by decide) rfl (fun ls hl => ?_)
        exact L15 _ ih 300 x3_5 x5_5 0  hF _ _ _ hP hD hS (lv_sub hl [1, 2, 3, 0] rfl)
  unfold fX5_digestLoft at hF
  refine lv_lload_n hx hb dX5_digestLoft_0 rfl (lv_at hl 1 rfl) ?_
  refine lv_lstore_n (lv' := [(3, .long a1), (0, .ref (h 0)), (1, .long a1)]) hx hb dX5_digestLoft_1 rfl hl (by decide) rfl (fun ls hl => ?_)
  refine lv_iconst (v := 0) hx hb dX5_digestLoft_2 (by decide) ?_
  refine lv_istore (lv' := [(5, .int 0), (3, .long a1), (0, .ref (h 0)), (1, .long a1)]) hx hb dX5_digestLoft_3 hl (by decide) rfl (fun ls hl => ?_)
  exact L5 300 a1 0  hF _ _ _ hP hD hS (lv_sub hl [2, 1, 0] rfl)

def fX5_digest (m_day : Int32) (m_coins : Int32) (m_felts : Int32) (m_made : Int32) (m_worth : Int32) (m_rags : FN) (m_water : FN) (m_pulp : FN) (m_beat : FN) (m_sort : FN) (m_nM : Int32) (m_mark : FN) (m_size : FN) (m_worn : FN) (m_nT : Int32) (m_skill : FN) (m_vat : FN) (m_pair : FN) (m_nQ : Int32) (m_allS : Int32) (m_pmark : FN) (m_pgrade : FN) (m_psheets : FN) (m_loft : FN) : Option (Int64) := (fX5_digestCountsAndRiver m_day m_coins m_felts m_made m_worth m_rags m_water m_pulp m_nQ m_allS m_loft 1429).bind fun z1 => (fX5_digestVats m_pulp m_beat m_sort z1).bind fun z2 => (fX5_digestPairs m_nM m_mark m_size m_worn m_nT m_pair z2).bind fun z3 => (fX5_digestTeams m_felts m_pulp m_beat m_nM m_size m_nT m_skill m_vat m_pair m_allS z3).bind fun z4 => (fX5_digestPosts m_nQ m_pmark m_pgrade m_psheets z4).bind fun z5 => (fX5_digestLoft m_loft z5).bind fun z6 => some z6
abbrev rX5_digest : Room := { frames := 5, cells := 0, slots := 0, locals := 115 }
set_option maxHeartbeats 4000000 in
set_option maxRecDepth 100000 in
theorem kX5_digest (l : Launch) (D : va_G) (cy : Nat → ClassId) (sa : Nat → Nat) (h : Nat → Nat) (m_day : Int32) (m_coins : Int32) (m_felts : Int32) (m_made : Int32) (m_worth : Int32) (m_rags : FN) (m_water : FN) (m_pulp : FN) (m_beat : FN) (m_sort : FN) (m_nM : Int32) (m_mark : FN) (m_size : FN) (m_worn : FN) (m_nT : Int32) (m_skill : FN) (m_vat : FN) (m_pair : FN) (m_nQ : Int32) (m_allS : Int32) (m_pmark : FN) (m_pgrade : FN) (m_psheets : FN) (m_loft : FN) (t_day : Int32) (t_coins : Int32) (t_felts : Int32) (t_made : Int32) (t_worth : Int32) (t_rags : FN) (t_water : FN) (t_pulp : FN) (t_beat : FN) (t_sort : FN) (t_nM : Int32) (t_mark : FN) (t_size : FN) (t_worn : FN) (t_nT : Int32) (t_skill : FN) (t_vat : FN) (t_pair : FN) (t_nQ : Int32) (t_allS : Int32) (t_pmark : FN) (t_pgrade : FN) (t_psheets : FN) (t_loft : FN) (z : Int64) (hF : fX5_digest m_day m_coins m_felts m_made m_worth m_rags m_water m_pulp m_beat m_sort m_nM m_mark m_size m_worn m_nT m_skill m_vat m_pair m_nQ m_allS m_pmark m_pgrade m_psheets m_loft = some z) : KL l D (tyW cy) sa yX5_digest wsX5_digest rX5_digest [.ref (h 0)] (wX5 cy h m_day m_coins m_felts m_made m_worth m_rags m_water m_pulp m_beat m_sort m_nM m_mark m_size m_worn m_nT m_skill m_vat m_pair m_nQ m_allS m_pmark m_pgrade m_psheets m_loft t_day t_coins t_felts t_made t_worth t_rags t_water t_pulp t_beat t_sort t_nM t_mark t_size t_worn t_nT t_skill t_vat t_pair t_nQ t_allS t_pmark t_pgrade t_psheets t_loft) z (fun _ => wX5 cy h m_day m_coins m_felts m_made m_worth m_rags m_water m_pulp m_beat m_sort m_nM m_mark m_size m_worn m_nT m_skill m_vat m_pair m_nQ m_allS m_pmark m_pgrade m_psheets m_loft t_day t_coins t_felts t_made t_worth t_rags t_water t_pulp t_beat t_sort t_nM t_mark t_size t_worn t_nT t_skill t_vat t_pair t_nQ t_allS t_pmark t_pgrade t_psheets t_loft) 0 0 := by
  refine KL.of (cc := cX5_digest) (maxL := 3) (by decide +kernel) rfl (Nat.le_of_ble_eq_true rfl) ?_
  intro p e s m args below meth c A ls Q hE hQ
  obtain ⟨hx, hb, hml, hown, hts, hA, hP, hK, hD, hG, hl, hnm⟩ := hE
  replace hown : s.vm.findClass RX5 = some m.cls := hown
  replace hl : lv_has ls 3 [(0, .ref (h 0))] := hl
  have hS : va_S A s.heap s.heap [] := va_S.rf
  unfold fX5_digest at hF
  refine lv_aload_n hx hb dX5_digest_0 rfl (lv_at hl 0 rfl) ?_
  refine lv_ldc2 (own := RX5) (v := 1429) hx hb hown (hts _ (by decide +kernel)) dX5_digest_1 ?_
  replace hF := bnd_some hF
  obtain ⟨z1, hz_1, hF⟩ := hF
  refine krL (kV (As := [.long 1429]) ⟨hx, hb, hml, hown, hts⟩ (kX5_digestCountsAndRiver l D cy sa h m_day m_coins m_felts m_made m_worth m_rags m_water m_pulp m_beat m_sort m_nM m_mark m_size m_worn m_nT m_skill m_vat m_pair m_nQ m_allS m_pmark m_pgrade m_psheets m_loft t_day t_coins t_felts t_made t_worth t_rags t_water t_pulp t_beat t_sort t_nM t_mark t_size t_worn t_nT t_skill t_vat t_pair t_nQ t_allS t_pmark t_pgrade t_psheets t_loft 1429 z1 hz_1 _) (cwV 1 hts gX5_digest_X5_digestCountsAndRiver rfl rfl rfl (by decide +kernel) ⟨Nat.le_of_ble_eq_true rfl, Nat.le_of_ble_eq_true rfl⟩) hK hP hD hS hA hG [0, 1, 2, 3, 4, 5, 6, 7, 8, 9, 10, 11, 12, 13, 14, 15, 16, 17, 18, 19, 20, 21, 22, 23, 24, 25, 26, 27, 28, 29, 30, 31, 32, 33, 34, 35, 36, 37, 38, 39, 40] hcX5_X5_0 ndX5_0 gtX5_0 rfl rfl rfl hl.1 [] rfl (Nat.le_of_ble_eq_true rfl) dX5_digest_4 ⟨(Nat.le_of_ble_eq_true rfl), (Nat.le_of_ble_eq_true rfl)⟩) hP hD hS hA [0, 1, 2, 3, 4, 5, 6, 7, 8, 9, 10, 11, 12, 13, 14, 15, 16, 17, 18, 19, 20, 21, 22, 23, 24, 25, 26, 27, 28, 29, 30, 31, 32, 33, 34, 35, 36, 37, 38, 39, 40] hcX5_X5_0 (fun H locs hP hS => ?_)
  refine lv_lstore_n (lv' := [(1, .long z1), (0, .ref (h 0))]) hx hb dX5_digest_7 rfl hl (by decide) rfl (fun ls hl => ?_)
  refine lv_aload_n hx hb dX5_digest_8 rfl (lv_at hl 1 rfl) ?_
  refine lv_lload_n hx hb dX5_digest_9 rfl (lv_at hl 0 rfl) ?_
  replace hF := bnd_some hF
  obtain ⟨z2, hz_2, hF⟩ := hF
  refine krL (kV (As := [.long z1]) ⟨hx, hb, hml, hown, hts⟩ (kX5_digestVats l D cy sa h m_day m_coins m_felts m_made m_worth m_rags m_water m_pulp m_beat m_sort m_nM m_mark m_size m_worn m_nT m_skill m_vat m_pair m_nQ m_allS m_pmark m_pgrade m_psheets m_loft t_day t_coins t_felts t_made t_worth t_rags t_water t_pulp t_beat t_sort t_nM t_mark t_size t_worn t_nT t_skill t_vat t_pair t_nQ t_allS t_pmark t_pgrade t_psheets t_loft z1 z2 hz_2 _) (cwV 1 hts gX5_digest_X5_digestVats rfl rfl rfl (by decide +kernel) ⟨Nat.le_of_ble_eq_true rfl, Nat.le_of_ble_eq_true rfl⟩) hK hP hD hS hA hG [0, 1, 2, 3, 4, 5, 6, 7, 8, 9, 10, 11, 12, 13, 14, 15, 16, 17, 18, 19, 20, 21, 22, 23, 24, 25, 26, 27, 28, 29, 30, 31, 32, 33, 34, 35, 36, 37, 38, 39, 40] hcX5_X5_0 ndX5_0 gtX5_0 rfl rfl rfl hl.1 [] rfl (Nat.le_of_ble_eq_true rfl) dX5_digest_10 ⟨(Nat.le_of_ble_eq_true rfl), (Nat.le_of_ble_eq_true rfl)⟩) hP hD hS hA [0, 1, 2, 3, 4, 5, 6, 7, 8, 9, 10, 11, 12, 13, 14, 15, 16, 17, 18, 19, 20, 21, 22, 23, 24, 25, 26, 27, 28, 29, 30, 31, 32, 33, 34, 35, 36, 37, 38, 39, 40] hcX5_X5_0 (fun H locs hP hS => ?_)
  refine lv_lstore_n (lv' := [(1, .long z2), (0, .ref (h 0))]) hx hb dX5_digest_13 rfl hl (by decide) rfl (fun ls hl => ?_)
  refine lv_aload_n hx hb dX5_digest_14 rfl (lv_at hl 1 rfl) ?_
  refine lv_lload_n hx hb dX5_digest_15 rfl (lv_at hl 0 rfl) ?_
  replace hF := bnd_some hF
  obtain ⟨z3, hz_3, hF⟩ := hF
  refine krL (kV (As := [.long z2]) ⟨hx, hb, hml, hown, hts⟩ (kX5_digestPairs l D cy sa h m_day m_coins m_felts m_made m_worth m_rags m_water m_pulp m_beat m_sort m_nM m_mark m_size m_worn m_nT m_skill m_vat m_pair m_nQ m_allS m_pmark m_pgrade m_psheets m_loft t_day t_coins t_felts t_made t_worth t_rags t_water t_pulp t_beat t_sort t_nM t_mark t_size t_worn t_nT t_skill t_vat t_pair t_nQ t_allS t_pmark t_pgrade t_psheets t_loft z2 z3 hz_3 _) (cwV 1 hts gX5_digest_X5_digestPairs rfl rfl rfl (by decide +kernel) ⟨Nat.le_of_ble_eq_true rfl, Nat.le_of_ble_eq_true rfl⟩) hK hP hD hS hA hG [0, 1, 2, 3, 4, 5, 6, 7, 8, 9, 10, 11, 12, 13, 14, 15, 16, 17, 18, 19, 20, 21, 22, 23, 24, 25, 26, 27, 28, 29, 30, 31, 32, 33, 34, 35, 36, 37, 38, 39, 40] hcX5_X5_0 ndX5_0 gtX5_0 rfl rfl rfl hl.1 [] rfl (Nat.le_of_ble_eq_true rfl) dX5_digest_16 ⟨(Nat.le_of_ble_eq_true rfl), (Nat.le_of_ble_eq_true rfl)⟩) hP hD hS hA [0, 1, 2, 3, 4, 5, 6, 7, 8, 9, 10, 11, 12, 13, 14, 15, 16, 17, 18, 19, 20, 21, 22, 23, 24, 25, 26, 27, 28, 29, 30, 31, 32, 33, 34, 35, 36, 37, 38, 39, 40] hcX5_X5_0 (fun H locs hP hS => ?_)
  refine lv_lstore_n (lv' := [(1, .long z3), (0, .ref (h 0))]) hx hb dX5_digest_19 rfl hl (by decide) rfl (fun ls hl => ?_)
  refine lv_aload_n hx hb dX5_digest_20 rfl (lv_at hl 1 rfl) ?_
  refine lv_lload_n hx hb dX5_digest_21 rfl (lv_at hl 0 rfl) ?_
  replace hF := bnd_some hF
  obtain ⟨z4, hz_4, hF⟩ := hF
  refine krL (kV (As := [.long z3]) ⟨hx, hb, hml, hown, hts⟩ (kX5_digestTeams l D cy sa h m_day m_coins m_felts m_made m_worth m_rags m_water m_pulp m_beat m_sort m_nM m_mark m_size m_worn m_nT m_skill m_vat m_pair m_nQ m_allS m_pmark m_pgrade m_psheets m_loft t_day t_coins t_felts t_made t_worth t_rags t_water t_pulp t_beat t_sort t_nM t_mark t_size t_worn t_nT t_skill t_vat t_pair t_nQ t_allS t_pmark t_pgrade t_psheets t_loft z3 z4 hz_4 _) (cwV 1 hts gX5_digest_X5_digestTeams rfl rfl rfl (by decide +kernel) ⟨Nat.le_of_ble_eq_true rfl, Nat.le_of_ble_eq_true rfl⟩) hK hP hD hS hA hG [0, 1, 2, 3, 4, 5, 6, 7, 8, 9, 10, 11, 12, 13, 14, 15, 16, 17, 18, 19, 20, 21, 22, 23, 24, 25, 26, 27, 28, 29, 30, 31, 32, 33, 34, 35, 36, 37, 38, 39, 40] hcX5_X5_0 ndX5_0 gtX5_0 rfl rfl rfl hl.1 [] rfl (Nat.le_of_ble_eq_true rfl) dX5_digest_22 ⟨(Nat.le_of_ble_eq_true rfl), (Nat.le_of_ble_eq_true rfl)⟩) hP hD hS hA [0, 1, 2, 3, 4, 5, 6, 7, 8, 9, 10, 11, 12, 13, 14, 15, 16, 17, 18, 19, 20, 21, 22, 23, 24, 25, 26, 27, 28, 29, 30, 31, 32, 33, 34, 35, 36, 37, 38, 39, 40] hcX5_X5_0 (fun H locs hP hS => ?_)
  refine lv_lstore_n (lv' := [(1, .long z4), (0, .ref (h 0))]) hx hb dX5_digest_25 rfl hl (by decide) rfl (fun ls hl => ?_)
  refine lv_aload_n hx hb dX5_digest_26 rfl (lv_at hl 1 rfl) ?_
  refine lv_lload_n hx hb dX5_digest_27 rfl (lv_at hl 0 rfl) ?_
  replace hF := bnd_some hF
  obtain ⟨z5, hz_5, hF⟩ := hF
  refine krL (kV (As := [.long z4]) ⟨hx, hb, hml, hown, hts⟩ (kX5_digestPosts l D cy sa h m_day m_coins m_felts m_made m_worth m_rags m_water m_pulp m_beat m_sort m_nM m_mark m_size m_worn m_nT m_skill m_vat m_pair m_nQ m_allS m_pmark m_pgrade m_psheets m_loft t_day t_coins t_felts t_made t_worth t_rags t_water t_pulp t_beat t_sort t_nM t_mark t_size t_worn t_nT t_skill t_vat t_pair t_nQ t_allS t_pmark t_pgrade t_psheets t_loft z4 z5 hz_5 _) (cwV 1 hts gX5_digest_X5_digestPosts rfl rfl rfl (by decide +kernel) ⟨Nat.le_of_ble_eq_true rfl, Nat.le_of_ble_eq_true rfl⟩) hK hP hD hS hA hG [0, 1, 2, 3, 4, 5, 6, 7, 8, 9, 10, 11, 12, 13, 14, 15, 16, 17, 18, 19, 20, 21, 22, 23, 24, 25, 26, 27, 28, 29, 30, 31, 32, 33, 34, 35, 36, 37, 38, 39, 40] hcX5_X5_0 ndX5_0 gtX5_0 rfl rfl rfl hl.1 [] rfl (Nat.le_of_ble_eq_true rfl) dX5_digest_28 ⟨(Nat.le_of_ble_eq_true rfl), (Nat.le_of_ble_eq_true rfl)⟩) hP hD hS hA [0, 1, 2, 3, 4, 5, 6, 7, 8, 9, 10, 11, 12, 13, 14, 15, 16, 17, 18, 19, 20, 21, 22, 23, 24, 25, 26, 27, 28, 29, 30, 31, 32, 33, 34, 35, 36, 37, 38, 39, 40] hcX5_X5_0 (fun H locs hP hS => ?_)
  refine lv_lstore_n (lv' := [(1, .long z5), (0, .ref (h 0))]) hx hb dX5_digest_31 rfl hl (by decide) rfl (fun ls hl => ?_)
  refine lv_aload_n hx hb dX5_digest_32 rfl (lv_at hl 1 rfl) ?_
  refine lv_lload_n hx hb dX5_digest_33 rfl (lv_at hl 0 rfl) ?_
  replace hF := bnd_some hF
  obtain ⟨z6, hz_6, hF⟩ := hF
  refine krL (kV (As := [.long z5]) ⟨hx, hb, hml, hown, hts⟩ (kX5_digestLoft l D cy sa h m_day m_coins m_felts m_made m_worth m_rags m_water m_pulp m_beat m_sort m_nM m_mark m_size m_worn m_nT m_skill m_vat m_pair m_nQ m_allS m_pmark m_pgrade m_psheets m_loft t_day t_coins t_felts t_made t_worth t_rags t_water t_pulp t_beat t_sort t_nM t_mark t_size t_worn t_nT t_skill t_vat t_pair t_nQ t_allS t_pmark t_pgrade t_psheets t_loft z5 z6 hz_6 _) (cwV 1 hts gX5_digest_X5_digestLoft rfl rfl rfl (by decide +kernel) ⟨Nat.le_of_ble_eq_true rfl, Nat.le_of_ble_eq_true rfl⟩) hK hP hD hS hA hG [0, 1, 2, 3, 4, 5, 6, 7, 8, 9, 10, 11, 12, 13, 14, 15, 16, 17, 18, 19, 20, 21, 22, 23, 24, 25, 26, 27, 28, 29, 30, 31, 32, 33, 34, 35, 36, 37, 38, 39, 40] hcX5_X5_0 ndX5_0 gtX5_0 rfl rfl rfl hl.1 [] rfl (Nat.le_of_ble_eq_true rfl) dX5_digest_34 ⟨(Nat.le_of_ble_eq_true rfl), (Nat.le_of_ble_eq_true rfl)⟩) hP hD hS hA [0, 1, 2, 3, 4, 5, 6, 7, 8, 9, 10, 11, 12, 13, 14, 15, 16, 17, 18, 19, 20, 21, 22, 23, 24, 25, 26, 27, 28, 29, 30, 31, 32, 33, 34, 35, 36, 37, 38, 39, 40] hcX5_X5_0 (fun H locs hP hS => ?_)
  cases hF
  exact hQ _ _ _ _ _ _ (fun _ => 0) dX5_digest_37 hP hD hS (Nat.le_of_ble_eq_true rfl) (Nat.le_of_ble_eq_true rfl)
