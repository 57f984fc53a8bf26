def fX0_becomeLike (o_day : Int32) (o_coins : Int32) (o_felts : Int32) (o_made : Int32) (o_worth : Int32) (o_rags : FN) (o_water : FN) (o_pulp : FN) (o_beat : FN) (o_sort : FN) (o_nM : Int32) (o_mark : FN) (o_size : FN) (o_worn : FN) (o_nT : Int32) (o_skill : FN) (o_vat : FN) (o_pair : FN) (o_nQ : Int32) (o_allS : Int32) (o_pmark : FN) (o_pgrade : FN) (o_psheets : FN) (o_loft : FN) : Option (Int32 × Int32 × Int32 × Int32 × Int32 × FN × FN × FN × FN × FN × Int32 × FN × FN × FN × Int32 × FN × FN × FN × Int32 × Int32 × FN × FN × FN × FN) := (fX4_becomeLike o_pulp o_beat o_sort).bind fun z3 => (fX1_becomeLike o_nM o_mark o_size o_worn).bind fun z4 => (fX3_becomeLike o_nT o_skill o_vat o_pair).bind fun z5 => (fX2_becomeLike o_nQ o_allS o_pmark o_pgrade o_psheets).bind fun z6 => some (o_day, o_coins, o_felts, o_made, o_worth, o_rags, o_water, z3.1, z3.2.1, z3.2.2, z4.1, z4.2.1, z4.2.2.1, z4.2.2.2, z5.1, z5.2.1, z5.2.2.1, z5.2.2.2, z6.1, z6.2.1, z6.2.2.1, z6.2.2.2.1, z6.2.2.2.2, o_loft)
abbrev rX0_becomeLike : Room := { frames := 2, cells := 0, slots := 0, locals := 61 }
set_option maxHeartbeats 4000000 in
set_option maxRecDepth 100000 in
theorem kX0_becomeLike (l : Launch) (D : va_G) (cy : Nat → ClassId) (sa : SAT) (h : Nat → Nat) (g : Nat → Nat) (day : Int32) (coins : Int32) (felts : Int32) (made : Int32) (worth : Int32) (rags : FN) (water : FN) (pulp : FN) (beat : FN) (sort : FN) (nM : Int32) (mark : FN) (size : FN) (worn : FN) (nT : Int32) (skill : FN) (vat : FN) (pair : FN) (nQ : Int32) (allS : Int32) (pmark : FN) (pgrade : FN) (psheets : FN) (loft : FN) (o_day : Int32) (o_coins : Int32) (o_felts : Int32) (o_made : Int32) (o_worth : Int32) (o_rags : FN) (o_water : FN) (o_pulp : FN) (o_beat : FN) (o_sort : FN) (o_nM : Int32) (o_mark : FN) (o_size : FN) (o_worn : FN) (o_nT : Int32) (o_skill : FN) (o_vat : FN) (o_pair : FN) (o_nQ : Int32) (o_allS : Int32) (o_pmark : FN) (o_pgrade : FN) (o_psheets : FN) (o_loft : FN) (z : Int32 × Int32 × Int32 × Int32 × Int32 × FN × FN × FN × FN × FN × Int32 × FN × FN × FN × Int32 × FN × FN × FN × Int32 × Int32 × FN × FN × FN × FN) (hF : fX0_becomeLike o_day o_coins o_felts o_made o_worth o_rags o_water o_pulp o_beat o_sort o_nM o_mark o_size o_worn o_nT o_skill o_vat o_pair o_nQ o_allS o_pmark o_pgrade o_psheets o_loft = some z) : KV l D (tyW cy) sa yX0_becomeLike wsX0_becomeLike rX0_becomeLike [.ref (h 0), .ref (g 0)] (wX0X0 cy h g day coins felts made worth rags water pulp beat sort nM mark size worn nT skill vat pair nQ allS pmark pgrade psheets loft o_day o_coins o_felts o_made o_worth o_rags o_water o_pulp o_beat o_sort o_nM o_mark o_size o_worn o_nT o_skill o_vat o_pair o_nQ o_allS o_pmark o_pgrade o_psheets o_loft) (fun _ => wX0X0 cy h g z.1 z.2.1 z.2.2.1 z.2.2.2.1 z.2.2.2.2.1 z.2.2.2.2.2.1 z.2.2.2.2.2.2.1 z.2.2.2.2.2.2.2.1 z.2.2.2.2.2.2.2.2.1 z.2.2.2.2.2.2.2.2.2.1 z.2.2.2.2.2.2.2.2.2.2.1 z.2.2.2.2.2.2.2.2.2.2.2.1 z.2.2.2.2.2.2.2.2.2.2.2.2.1 z.2.2.2.2.2.2.2.2.2.2.2.2.2.1 z.2.2.2.2.2.2.2.2.2.2.2.2.2.2.1 z.2.2.2.2.2.2.2.2.2.2.2.2.2.2.2.1 z.2.2.2.2.2.2.2.2.2.2.2.2.2.2.2.2.1 z.2.2.2.2.2.2.2.2.2.2.2.2.2.2.2.2.2.1 z.2.2.2.2.2.2.2.2.2.2.2.2.2.2.2.2.2.2.1 z.2.2.2.2.2.2.2.2.2.2.2.2.2.2.2.2.2.2.2.1 z.2.2.2.2.2.2.2.2.2.2.2.2.2.2.2.2.2.2.2.2.1 z.2.2.2.2.2.2.2.2.2.2.2.2.2.2.2.2.2.2.2.2.2.1 z.2.2.2.2.2.2.2.2.2.2.2.2.2.2.2.2.2.2.2.2.2.2.1 z.2.2.2.2.2.2.2.2.2.2.2.2.2.2.2.2.2.2.2.2.2.2.2 o_day o_coins o_felts o_made o_worth o_rags o_water o_pulp o_beat o_sort o_nM o_mark o_size o_worn o_nT o_skill o_vat o_pair o_nQ o_allS o_pmark o_pgrade o_psheets o_loft) 0 0 := by
  refine KV.of (cc := cX0_becomeLike) (maxL := 2) (by decide +kernel) rfl (Nat.le_of_ble_eq_true rfl) ?_
  intro p e s m args below meth c A ls Q hE hQ
  obtain ⟨hx, hb, hml, hown, hts, hA, hP, hK, hD, hG, hl, hnm⟩ := hE
  replace hown : s.vm.findClass RX0 = some m.cls := hown
  have hiX0 : ∀ w ∈ u_ws RX0 TX0 12, w ∈ wsX0_becomeLike := by decide +kernel
  have hf9 : (Cond.fieldLink RX0 9 "RagVats$Mill" "day" "I").before args s = true := hts _ (by decide +kernel)
  have hf15 : (Cond.fieldLink RX0 15 "RagVats$Mill" "coins" "I").before args s = true := hts _ (by decide +kernel)
  have hf18 : (Cond.fieldLink RX0 18 "RagVats$Mill" "felts" "I").before args s = true := hts _ (by decide +kernel)
  have hf21 : (Cond.fieldLink RX0 21 "RagVats$Mill" "made" "I").before args s = true := hts _ (by decide +kernel)
  have hf24 : (Cond.fieldLink RX0 24 "RagVats$Mill" "worth" "I").before args s = true := hts _ (by decide +kernel)
  have hf27 : (Cond.fieldLink RX0 27 "RagVats$Mill" "rags" "[I").before args s = true := hts _ (by decide +kernel)
  have hf31 : (Cond.fieldLink RX0 31 "RagVats$Mill" "water" "[I").before args s = true := hts _ (by decide +kernel)
  have hf37 : (Cond.fieldLink RX0 37 "RagVats$Mill" "vats" "LRagVats$Vats;").before args s = true := hts _ (by decide +kernel)
  have hf44 : (Cond.fieldLink RX0 44 "RagVats$Mill" "moulds" "LRagVats$Moulds;").before args s = true := hts _ (by decide +kernel)
  have hf51 : (Cond.fieldLink RX0 51 "RagVats$Mill" "teams" "LRagVats$Teams;").before args s = true := hts _ (by decide +kernel)
  have hf58 : (Cond.fieldLink RX0 58 "RagVats$Mill" "posts" "LRagVats$Posts;").before args s = true := hts _ (by decide +kernel)
  have hf62 : (Cond.fieldLink RX0 62 "RagVats$Mill" "loft" "[I").before args s = true := hts _ (by decide +kernel)
  replace hl : lv_has ls 2 [(0, .ref (h 0)), (1, .ref (g 0))] := hl
  have hS : va_S A s.heap s.heap [] := va_S.rf
  unfold fX0_becomeLike at hF
  refine lv_aload_n hx hb dX0_becomeLike_0 rfl (lv_at hl 0 rfl) ?_
  refine lv_aload_n hx hb dX0_becomeLike_1 rfl (lv_at hl 1 rfl) ?_
  refine va_get (D := D) (C := RX0) (T := TX0) (N := 12) hx hb hts hiX0 hown hK hP 20 gtX0X0_20 rfl 0 (by decide) hf9 (fun _ h9 => h9) rfl dX0_becomeLike_2 ?_
  refine va_put (D := D) (v := .int o_day) (ty := .int) (C := RX0) (T := TX0) (N := 12) hx hb hts hiX0 tyX0 tyX0_ok nmX0 hown hK hP hD hS 0 gtX0X0_0 rfl 0 (by decide) hf9 (fun _ h9 => h9) rfl (by decide +kernel) rfl rfl (Nat.le_of_ble_eq_true rfl) dX0_becomeLike_5 (fun H locs hP hD hS => ?_)
  rw [stX0X0_0_0] at hP hD
  refine lv_aload_n hx hb dX0_becomeLike_8 rfl (lv_at hl 0 rfl) ?_
  refine lv_aload_n hx hb dX0_becomeLike_9 rfl (lv_at hl 1 rfl) ?_
  refine va_get (D := D) (C := RX0) (T := TX0) (N := 12) hx hb hts hiX0 hown hK hP 20 gtX0X0_20 rfl 1 (by decide) hf15 (fun _ h9 => h9) rfl dX0_becomeLike_10 ?_
  refine va_put (D := D) (v := .int o_coins) (ty := .int) (C := RX0) (T := TX0) (N := 12) hx hb hts hiX0 tyX0 tyX0_ok nmX0 hown hK hP hD hS 0 gtX0X0_0 rfl 1 (by decide) hf15 (fun _ h9 => h9) rfl (by decide +kernel) rfl rfl (Nat.le_of_ble_eq_true rfl) dX0_becomeLike_13 (fun H locs hP hD hS => ?_)
  rw [stX0X0_0_1] at hP hD
  refine lv_aload_n hx hb dX0_becomeLike_16 rfl (lv_at hl 0 rfl) ?_
  refine lv_aload_n hx hb dX0_becomeLike_17 rfl (lv_at hl 1 rfl) ?_
  refine va_get (D := D) (C := RX0) (T := TX0) (N := 12) hx hb hts hiX0 hown hK hP 20 gtX0X0_20 rfl 2 (by decide) hf18 (fun _ h9 => h9) rfl dX0_becomeLike_18 ?_
  refine va_put (D := D) (v := .int o_felts) (ty := .int) (C := RX0) (T := TX0) (N := 12) hx hb hts hiX0 tyX0 tyX0_ok nmX0 hown hK hP hD hS 0 gtX0X0_0 rfl 2 (by decide) hf18 (fun _ h9 => h9) rfl (by decide +kernel) rfl rfl (Nat.le_of_ble_eq_true rfl) dX0_becomeLike_21 (fun H locs hP hD hS => ?_)
  rw [stX0X0_0_2] at hP hD
  refine lv_aload_n hx hb dX0_becomeLike_24 rfl (lv_at hl 0 rfl) ?_
  refine lv_aload_n hx hb dX0_becomeLike_25 rfl (lv_at hl 1 rfl) ?_
  refine va_get (D := D) (C := RX0) (T := TX0) (N := 12) hx hb hts hiX0 hown hK hP 20 gtX0X0_20 rfl 3 (by decide) hf21 (fun _ h9 => h9) rfl dX0_becomeLike_26 ?_
  refine va_put (D := D) (v := .int o_made) (ty := .int) (C := RX0) (T := TX0) (N := 12) hx hb hts hiX0 tyX0 tyX0_ok nmX0 hown hK hP hD hS 0 gtX0X0_0 rfl 3 (by decide) hf21 (fun _ h9 => h9) rfl (by decide +kernel) rfl rfl (Nat.le_of_ble_eq_true rfl) dX0_becomeLike_29 (fun H locs hP hD hS => ?_)
  rw [stX0X0_0_3] at hP hD
  refine lv_aload_n hx hb dX0_becomeLike_32 rfl (lv_at hl 0 rfl) ?_
  refine lv_aload_n hx hb dX0_becomeLike_33 rfl (lv_at hl 1 rfl) ?_
  refine va_get (D := D) (C := RX0) (T := TX0) (N := 12) hx hb hts hiX0 hown hK hP 20 gtX0X0_20 rfl 4 (by decide) hf24 (fun _ h9 => h9) rfl dX0_becomeLike_34 ?_
  refine va_put (D := D) (v := .int o_worth) (ty := .int) (C := RX0) (T := TX0) (N := 12) hx hb hts hiX0 tyX0 tyX0_ok nmX0 hown hK hP hD hS 0 gtX0X0_0 rfl 4 (by decide) hf24 (fun _ h9 => h9) rfl (by decide +kernel) rfl rfl (Nat.le_of_ble_eq_true rfl) dX0_becomeLike_37 (fun H locs hP hD hS => ?_)
  rw [stX0X0_0_4] at hP hD
  refine lv_aload_n hx hb dX0_becomeLike_40 rfl (lv_at hl 1 rfl) ?_
  refine va_get (D := D) (C := RX0) (T := TX0) (N := 12) hx hb hts hiX0 hown hK hP 20 gtX0X0_20 rfl 5 (by decide) hf27 (fun _ h9 => h9) rfl dX0_becomeLike_41 ?_
  refine lv_iconst (v := 0) hx hb dX0_becomeLike_44 (by decide) ?_
  refine lv_aload_n hx hb dX0_becomeLike_45 rfl (lv_at hl 0 rfl) ?_
  refine va_get (D := D) (C := RX0) (T := TX0) (N := 12) hx hb hts hiX0 hown hK hP 0 gtX0X0_0 rfl 5 (by decide) hf27 (fun _ h9 => h9) rfl dX0_becomeLike_46 ?_
  refine lv_iconst (v := 0) hx hb dX0_becomeLike_49 (by decide) ?_
  refine lv_iconst (v := 3) hx hb dX0_becomeLike_50 (by decide) ?_
  refine va_copyi (own := RX0) hx hb (hml.trans hl.1.symm) hown (hts (.methodLink RX0 71 arraycopyName) (by decide +kernel)) (hts (.native arraycopyName) (by decide +kernel)) (hts (.static arraycopyName) (by decide +kernel)) (hts (.initialized "java/lang/System") (by decide +kernel)) hK hP hD hS 21 1 0 0 gtX0X0_21 gtX0X0_1 rfl rfl rfl (by decide) (by decide) (by decide) (by decide) (by decide) (fun _ _ => rfl) (Nat.le_of_ble_eq_true rfl) (by decide) dX0_becomeLike_51 (fun H locs hP hD hS => ?_)
  replace hP := kcopy hP rfl
  replace hD := kcopyD (e2 := .inl (cy 0, 3, .inl o_rags)) hD
  rw [stX0X0_1] at hP hD
  refine lv_aload_n hx hb dX0_becomeLike_54 rfl (lv_at hl 1 rfl) ?_
  refine va_get (D := D) (C := RX0) (T := TX0) (N := 12) hx hb hts hiX0 hown hK hP 20 gtX0X0_20 rfl 6 (by decide) hf31 (fun _ h9 => h9) rfl dX0_becomeLike_55 ?_
  refine lv_iconst (v := 0) hx hb dX0_becomeLike_58 (by decide) ?_
  refine lv_aload_n hx hb dX0_becomeLike_59 rfl (lv_at hl 0 rfl) ?_
  refine va_get (D := D) (C := RX0) (T := TX0) (N := 12) hx hb hts hiX0 hown hK hP 0 gtX0X0_0 rfl 6 (by decide) hf31 (fun _ h9 => h9) rfl dX0_becomeLike_60 ?_
  refine lv_iconst (v := 0) hx hb dX0_becomeLike_63 (by decide) ?_
  refine lv_bipush (v := 7) hx hb dX0_becomeLike_64 (by decide) ?_
  refine va_copyi (own := RX0) hx hb (hml.trans hl.1.symm) hown (hts (.methodLink RX0 71 arraycopyName) (by decide +kernel)) (hts (.native arraycopyName) (by decide +kernel)) (hts (.static arraycopyName) (by decide +kernel)) (hts (.initialized "java/lang/System") (by decide +kernel)) hK hP hD hS 22 2 0 0 gtX0X0_22 gtX0X0_2 rfl rfl rfl (by decide) (by decide) (by decide) (by decide) (by decide) (fun _ _ => rfl) (Nat.le_of_ble_eq_true rfl) (by decide) dX0_becomeLike_66 (fun H locs hP hD hS => ?_)
  replace hP := kcopy hP rfl
  replace hD := kcopyD (e2 := .inl (cy 0, 7, .inl o_water)) hD
  rw [stX0X0_2] at hP hD
  refine lv_aload_n hx hb dX0_becomeLike_69 rfl (lv_at hl 0 rfl) ?_
  refine va_get (D := D) (C := RX0) (T := TX0) (N := 12) hx hb hts hiX0 hown hK hP 0 gtX0X0_0 rfl 7 (by decide) hf37 (fun _ h9 => h9) rfl dX0_becomeLike_70 ?_
  refine lv_aload_n hx hb dX0_becomeLike_73 rfl (lv_at hl 1 rfl) ?_
  refine va_get (D := D) (C := RX0) (T := TX0) (N := 12) hx hb hts hiX0 hown hK hP 20 gtX0X0_20 rfl 7 (by decide) hf37 (fun _ h9 => h9) rfl dX0_becomeLike_74 ?_
  replace hF := bnd_some hF
  obtain ⟨z3, hz_3, hF⟩ := hF
  refine kwVE (kV (As := [.ref (g 3)]) ⟨hx, hb, hml, hown, hts⟩ (kX4_becomeLike l D cy sa (fun i => h (i + 3)) (fun i => g (i + 3)) pulp beat sort o_pulp o_beat o_sort z3 hz_3 _) (cwV 1 hts gX0_becomeLike_X4_becomeLike rfl rfl rfl (by decide +kernel) ⟨Nat.le_of_ble_eq_true rfl, Nat.le_of_ble_eq_true rfl⟩) hK hP hD hS hA hG [3, 4, 5, 6, 23, 24, 25, 26] hcX0X0_X4X4_3_23 ndX4X4_3_23 gtX4X4_0 rfl rfl rfl hl.1 [] rfl (Nat.le_of_ble_eq_true rfl) dX0_becomeLike_77 ⟨(Nat.le_of_ble_eq_true rfl), (Nat.le_of_ble_eq_true rfl)⟩) hP hD hS hA [3, 4, 5, 6, 23, 24, 25, 26] hcX0X0_X4X4_3_23 hmX4X4 kpX0X0_X4X4_3_23 (fun H locs hP hD hS => ?_)
  refine lv_aload_n hx hb dX0_becomeLike_80 rfl (lv_at hl 0 rfl) ?_
  refine va_get (D := D) (C := RX0) (T := TX0) (N := 12) hx hb hts hiX0 hown hK hP 0 gtX0X0_0 rfl 8 (by decide) hf44 (fun _ h9 => h9) rfl dX0_becomeLike_81 ?_
  refine lv_aload_n hx hb dX0_becomeLike_84 rfl (lv_at hl 1 rfl) ?_
  refine va_get (D := D) (C := RX0) (T := TX0) (N := 12) hx hb hts hiX0 hown hK hP 20 gtX0X0_20 rfl 8 (by decide) hf44 (fun _ h9 => h9) rfl dX0_becomeLike_85 ?_
  replace hF := bnd_some hF
  obtain ⟨z4, hz_4, hF⟩ := hF
  refine kwVE (kV (As := [.ref (g 7)]) ⟨hx, hb, hml, hown, hts⟩ (kX1_becomeLike l D cy sa (fun i => h (i + 7)) (fun i => g (i + 7)) nM mark size worn o_nM o_mark o_size o_worn z4 hz_4 _) (cwV 1 hts gX0_becomeLike_X1_becomeLike rfl rfl rfl (by decide +kernel) ⟨Nat.le_of_ble_eq_true rfl, Nat.le_of_ble_eq_true rfl⟩) hK hP hD hS hA hG [7, 8, 9, 10, 27, 28, 29, 30] hcX0X0_X1X1_7_27 ndX1X1_7_27 gtX1X1_0 rfl rfl rfl hl.1 [] rfl (Nat.le_of_ble_eq_true rfl) dX0_becomeLike_88 ⟨(Nat.le_of_ble_eq_true rfl), (Nat.le_of_ble_eq_true rfl)⟩) hP hD hS hA [7, 8, 9, 10, 27, 28, 29, 30] hcX0X0_X1X1_7_27 hmX1X1 kpX0X0_X1X1_7_27 (fun H locs hP hD hS => ?_)
  refine lv_aload_n hx hb dX0_becomeLike_91 rfl (lv_at hl 0 rfl) ?_
  refine va_get (D := D) (C := RX0) (T := TX0) (N := 12) hx hb hts hiX0 hown hK hP 0 gtX0X0_0 rfl 9 (by decide) hf51 (fun _ h9 => h9) rfl dX0_becomeLike_92 ?_
  refine lv_aload_n hx hb dX0_becomeLike_95 rfl (lv_at hl 1 rfl) ?_
  refine va_get (D := D) (C := RX0) (T := TX0) (N := 12) hx hb hts hiX0 hown hK hP 20 gtX0X0_20 rfl 9 (by decide) hf51 (fun _ h9 => h9) rfl dX0_becomeLike_96 ?_
  replace hF := bnd_some hF
  obtain ⟨z5, hz_5, hF⟩ := hF
  refine kwVE (kV (As := [.ref (g 11)]) ⟨hx, hb, hml, hown, hts⟩ (kX3_becomeLike l D cy sa (fun i => h (i + 11)) (fun i => g (i + 11)) nT skill vat pair o_nT o_skill o_vat o_pair z5 hz_5 _) (cwV 1 hts gX0_becomeLike_X3_becomeLike rfl rfl rfl (by decide +kernel) ⟨Nat.le_of_ble_eq_true rfl, Nat.le_of_ble_eq_true rfl⟩) hK hP hD hS hA hG [11, 12, 13, 14, 31, 32, 33, 34] hcX0X0_X3X3_11_31 ndX3X3_11_31 gtX3X3_0 rfl rfl rfl hl.1 [] rfl (Nat.le_of_ble_eq_true rfl) dX0_becomeLike_99 ⟨(Nat.le_of_ble_eq_true rfl), (Nat.le_of_ble_eq_true rfl)⟩) hP hD hS hA [11, 12, 13, 14, 31, 32, 33, 34] hcX0X0_X3X3_11_31 hmX3X3 kpX0X0_X3X3_11_31 (fun H locs hP hD hS => ?_)
  refine lv_aload_n hx hb dX0_becomeLike_102 rfl (lv_at hl 0 rfl) ?_
  refine va_get (D := D) (C := RX0) (T := TX0) (N := 12) hx hb hts hiX0 hown hK hP 0 gtX0X0_0 rfl 10 (by decide) hf58 (fun _ h9 => h9) rfl dX0_becomeLike_103 ?_
  refine lv_aload_n hx hb dX0_becomeLike_106 rfl (lv_at hl 1 rfl) ?_
  refine va_get (D := D) (C := RX0) (T := TX0) (N := 12) hx hb hts hiX0 hown hK hP 20 gtX0X0_20 rfl 10 (by decide) hf58 (fun _ h9 => h9) rfl dX0_becomeLike_107 ?_
  replace hF := bnd_some hF
  obtain ⟨z6, hz_6, hF⟩ := hF
  refine kwVE (kV (As := [.ref (g 15)]) ⟨hx, hb, hml, hown, hts⟩ (kX2_becomeLike l D cy sa (fun i => h (i + 15)) (fun i => g (i + 15)) nQ allS pmark pgrade psheets o_nQ o_allS o_pmark o_pgrade o_psheets z6 hz_6 _) (cwV 1 hts gX0_becomeLike_X2_becomeLike rfl rfl rfl (by decide +kernel) ⟨Nat.le_of_ble_eq_true rfl, Nat.le_of_ble_eq_true rfl⟩) hK hP hD hS hA hG [15, 16, 17, 18, 35, 36, 37, 38] hcX0X0_X2X2_15_35 ndX2X2_15_35 gtX2X2_0 rfl rfl rfl hl.1 [] rfl (Nat.le_of_ble_eq_true rfl) dX0_becomeLike_110 ⟨(Nat.le_of_ble_eq_true rfl), (Nat.le_of_ble_eq_true rfl)⟩) hP hD hS hA [15, 16, 17, 18, 35, 36, 37, 38] hcX0X0_X2X2_15_35 hmX2X2 kpX0X0_X2X2_15_35 (fun H locs hP hD hS => ?_)
  refine lv_aload_n hx hb dX0_becomeLike_113 rfl (lv_at hl 1 rfl) ?_
  refine va_get (D := D) (C := RX0) (T := TX0) (N := 12) hx hb hts hiX0 hown hK hP 20 gtX0X0_20 rfl 11 (by decide) hf62 (fun _ h9 => h9) rfl dX0_becomeLike_114 ?_
  refine lv_iconst (v := 0) hx hb dX0_becomeLike_117 (by decide) ?_
  refine lv_aload_n hx hb dX0_becomeLike_118 rfl (lv_at hl 0 rfl) ?_
  refine va_get (D := D) (C := RX0) (T := TX0) (N := 12) hx hb hts hiX0 hown hK hP 0 gtX0X0_0 rfl 11 (by decide) hf62 (fun _ h9 => h9) rfl dX0_becomeLike_119 ?_
  refine lv_iconst (v := 0) hx hb dX0_becomeLike_122 (by decide) ?_
  refine lv_bipush (v := 30) hx hb dX0_becomeLike_123 (by decide) ?_
  refine va_copyi (own := RX0) hx hb (hml.trans hl.1.symm) hown (hts (.methodLink RX0 71 arraycopyName) (by decide +kernel)) (hts (.native arraycopyName) (by decide +kernel)) (hts (.static arraycopyName) (by decide +kernel)) (hts (.initialized "java/lang/System") (by decide +kernel)) hK hP hD hS 39 19 0 0 gtX0X0_39 gtX0X0_19 rfl rfl rfl (by decide) (by decide) (by decide) (by decide) (by decide) (fun _ _ => rfl) (Nat.le_of_ble_eq_true rfl) (by decide) dX0_becomeLike_125 (fun H locs hP hD hS => ?_)
  replace hP := kcopy hP rfl
  replace hD := kcopyD (e2 := .inl (cy 0, 30, .inl o_loft)) hD
  rw [stX0X0_19] at hP hD
  cases hF
  exact hQ _ _ _ _ _ _ (fun _ => 0) dX0_becomeLike_128 hP hD hS (Nat.le_of_ble_eq_true rfl) (Nat.le_of_ble_eq_true rfl)

def fX0_takeIn (felts : Int32) (rags : FN) (a1 : Int32) (a2 : Int32) : Option (Int32 × Int32 × FN) := (fX5_isBelow a1 3).bind fun z1 => if z1 = 0 then some (felts + a2, felts + a2, rags) else ckI a1 3 (ckI a1 3 (ckI a1 3 (some ((upd rags a1.toNatClampNeg ((rags a1.toNatClampNeg) + a2)) a1.toNatClampNeg, felts, upd rags a1.toNatClampNeg ((rags a1.toNatClampNeg) + a2)))))
abbrev rX0_takeIn : Room := { frames := 1, cells := 0, slots := 0, locals := 21 }
set_option maxHeartbeats 4000000 in
set_option maxRecDepth 100000 in
theorem kX0_takeIn (l : Launch) (D : va_G) (cy : Nat → ClassId) (sa : SAT) (h : Nat → Nat) (day : Int32) (coins : Int32) (felts : Int32) (made : Int32) (worth : Int32) (rags : FN) (water : FN) (pulp : FN) (beat : FN) (sort : FN) (nM : Int32) (mark : FN) (size : FN) (worn : FN) (nT : Int32) (skill : FN) (vat : FN) (pair : FN) (nQ : Int32) (allS : Int32) (pmark : FN) (pgrade : FN) (psheets : FN) (loft : FN) (a1 : Int32) (a2 : Int32) (z : Int32 × Int32 × FN) (hF : fX0_takeIn felts rags a1 a2 = some z) : KI l D (tyW cy) sa yX0_takeIn wsX0_takeIn rX0_takeIn [.ref (h 0), .int a1, .int a2] (wX0 cy h day coins felts made worth rags water pulp beat sort nM mark size worn nT skill vat pair nQ allS pmark pgrade psheets loft) z.1 (fun _ => wX0 cy h day coins z.2.1 made worth z.2.2 water pulp beat sort nM mark size worn nT skill vat pair nQ allS pmark pgrade psheets loft) 0 0 := by
  refine KI.of (cc := cX0_takeIn) (maxL := 3) (by decide +kernel) rfl (Nat.le_of_ble_eq_true rfl) ?_
  intro p e s m args below meth c A ls Q hE hQ
  obtain ⟨hx, hb, hml, hown, hts, hA, hP, hK, hD, hG, hl, hnm⟩ := hE
  replace hown : s.vm.findClass RX0 = some m.cls := hown
  have hiX0 : ∀ w ∈ u_ws RX0 TX0 12, w ∈ wsX0_takeIn := by decide +kernel
  have hf18 : (Cond.fieldLink RX0 18 "RagVats$Mill" "felts" "I").before args s = true := hts _ (by decide +kernel)
  have hf27 : (Cond.fieldLink RX0 27 "RagVats$Mill" "rags" "[I").before args s = true := hts _ (by decide +kernel)
  have hn90 : va_Nw (.methodLinkNest RX0 90 yX5_isBelow "RagVats") s := hG.1.1 _ (by decide +kernel)
  replace hl : lv_has ls 3 [(0, .ref (h 0)), (1, .int a1), (2, .int a2)] := hl
  have hS : va_S A s.heap s.heap [] := va_S.rf
  unfold fX0_takeIn at hF
  refine lv_iload_n hx hb dX0_takeIn_0 rfl (lv_at hl 1 rfl) ?_
  refine lv_iconst (v := 3) hx hb dX0_takeIn_1 (by decide) ?_
  replace hF := bnd_some hF
  obtain ⟨z1, hz_1, hF⟩ := hF
  refine krI (kSN (As := [.int a1, .int 3]) ⟨hx, hb, hml, hown, hts⟩ (kX5_isBelow l D cy sa a1 3 z1 hz_1 _) ⟨va_cnB (host := "RagVats") 2 hts gX0_takeIn_X5_isBelow_n90 rfl rfl rfl hn90 (hts (.initialized RX5) (by decide +kernel)) (by decide +kernel) ⟨Nat.le_of_ble_eq_true rfl, Nat.le_of_ble_eq_true rfl⟩, hts (.static yX5_isBelow) (by decide +kernel), trivial⟩ hK hP hD hS hA hG [] rfl rfl rfl hl.1 [] rfl (Nat.le_of_ble_eq_true rfl) dX0_takeIn_2 ⟨(Nat.le_of_ble_eq_true rfl), (Nat.le_of_ble_eq_true rfl)⟩) hP hD hS hA [] rfl (fun H locs hP hS => ?_)
  refine lv_if_ne (tgt := 23) hx hb dX0_takeIn_5 (by decide) (fun c_2 => ?_) (fun c_2 => ?_)
  · replace hF := if_f hF c_2
    refine lv_aload_n hx hb dX0_takeIn_23 rfl (lv_at hl 0 rfl) ?_
    refine va_get (D := D) (C := RX0) (T := TX0) (N := 12) hx hb hts hiX0 hown hK hP 0 gtX0_0 rfl 5 (by decide) hf27 (fun _ h9 => h9) rfl dX0_takeIn_24 ?_
    refine lv_iload_n hx hb dX0_takeIn_27 rfl (lv_at hl 1 rfl) ?_
    refine lv_dup2_11 hx hb dX0_takeIn_28 rfl rfl ?_
    replace hF := ckI_some hF
    obtain ⟨hi_3, hF⟩ := hF
    refine va_iald hx hb hK hP 1 0 gtX0_1 rfl hi_3 dX0_takeIn_29 ?_
    refine lv_iload_n hx hb dX0_takeIn_30 rfl (lv_at hl 2 rfl) ?_
    refine lv_iadd hx hb dX0_takeIn_31 ?_
    replace hF := ckI_some hF
    obtain ⟨hi_4, hF⟩ := hF
    refine va_iast hx hb hK hP hD hS 1 0 gtX0_1 rfl hi_4 dX0_takeIn_32 (fun H locs hP hD hS => ?_)
    rw [stX0_1] at hP hD
    refine lv_aload_n hx hb dX0_takeIn_33 rfl (lv_at hl 0 rfl) ?_
    refine va_get (D := D) (C := RX0) (T := TX0) (N := 12) hx hb hts hiX0 hown hK hP 0 gtX0_0 rfl 5 (by decide) hf27 (fun _ h9 => h9) rfl dX0_takeIn_34 ?_
    refine lv_iload_n hx hb dX0_takeIn_37 rfl (lv_at hl 1 rfl) ?_
    replace hF := ckI_some hF
    obtain ⟨hi_5, hF⟩ := hF
    refine va_iald hx hb hK hP 1 0 gtX0_1 rfl hi_5 dX0_takeIn_38 ?_
    cases hF
    exact hQ _ _ _ _ _ _ (fun _ => 0) dX0_takeIn_39 hP hD hS (Nat.le_of_ble_eq_true rfl) (Nat.le_of_ble_eq_true rfl)
  · replace hF := if_t hF c_2
    refine lv_aload_n hx hb dX0_takeIn_8 rfl (lv_at hl 0 rfl) ?_
    refine lv_dup hx hb dX0_takeIn_9 rfl ?_
    refine va_get (D := D) (C := RX0) (T := TX0) (N := 12) hx hb hts hiX0 hown hK hP 0 gtX0_0 rfl 2 (by decide) hf18 (fun _ h9 => h9) rfl dX0_takeIn_10 ?_
    refine lv_iload_n hx hb dX0_takeIn_13 rfl (lv_at hl 2 rfl) ?_
    refine lv_iadd hx hb dX0_takeIn_14 ?_
    refine va_put (D := D) (v := .int (felts + a2)) (ty := .int) (C := RX0) (T := TX0) (N := 12) hx hb hts hiX0 tyX0 tyX0_ok nmX0 hown hK hP hD hS 0 gtX0_0 rfl 2 (by decide) hf18 (fun _ h9 => h9) rfl (by decide +kernel) rfl rfl (Nat.le_of_ble_eq_true rfl) dX0_takeIn_15 (fun H locs hP hD hS => ?_)
    rw [stX0_0_2] at hP hD
    refine lv_aload_n hx hb dX0_takeIn_18 rfl (lv_at hl 0 rfl) ?_
    refine va_get (D := D) (C := RX0) (T := TX0) (N := 12) hx hb hts hiX0 hown hK hP 0 gtX0_0 rfl 2 (by decide) hf18 (fun _ h9 => h9) rfl dX0_takeIn_19 ?_
    cases hF
    exact hQ _ _ _ _ _ _ (fun _ => 0) dX0_takeIn_22 hP hD hS (Nat.le_of_ble_eq_true rfl) (Nat.le_of_ble_eq_true rfl)

def fX0_freeFelts (felts : Int32) (allS : Int32) : Option (Int32) := some (felts - allS)
abbrev rX0_freeFelts : Room := { frames := 0, cells := 0, slots := 0, locals := 0 }
set_option maxHeartbeats 4000000 in
set_option maxRecDepth 100000 in
theorem kX0_freeFelts (l : Launch) (D : va_G) (cy : Nat → ClassId) (sa : SAT) (h : Nat → Nat) (day : Int32) (coins : Int32) (felts : Int32) (made : Int32) (worth : Int32) (rags : FN) (water : FN) (pulp : FN) (beat : FN) (sort : FN) (nM : Int32) (mark : FN) (size : FN) (worn : FN) (nT : Int32) (skill : FN) (vat : FN) (pair : FN) (nQ : Int32) (allS : Int32) (pmark : FN) (pgrade : FN) (psheets : FN) (loft : FN) (z : Int32) (hF : fX0_freeFelts felts allS = some z) : KI l D (tyW cy) sa yX0_freeFelts wsX0_freeFelts rX0_freeFelts [.ref (h 0)] (wX0 cy h day coins felts made worth rags water pulp beat sort nM mark size worn nT skill vat pair nQ allS pmark pgrade psheets loft) z (fun _ => wX0 cy h day coins felts made worth rags water pulp beat sort nM mark size worn nT skill vat pair nQ allS pmark pgrade psheets loft) 0 0 := by
  refine KI.of (cc := cX0_freeFelts) (maxL := 1) (by decide +kernel) rfl (Nat.le_of_ble_eq_true rfl) ?_
  intro p e s m args below meth c A ls Q hE hQ
  obtain ⟨hx, hb, hml, hown, hts, hA, hP, hK, hD, hG, hl, hnm⟩ := hE
  replace hown : s.vm.findClass RX0 = some m.cls := hown
  have hiX0 : ∀ w ∈ u_ws RX0 TX0 12, w ∈ wsX0_freeFelts := by decide +kernel
  have hiX2 : ∀ w ∈ u_ws RX2 TX2 5, w ∈ wsX0_freeFelts := by decide +kernel
  have hf18 : (Cond.fieldLink RX0 18 "RagVats$Mill" "felts" "I").before args s = true := hts _ (by decide +kernel)
  have hf58 : (Cond.fieldLink RX0 58 "RagVats$Mill" "posts" "LRagVats$Posts;").before args s = true := hts _ (by decide +kernel)
  have hn94 : (Cond.fieldLinkNest RX0 94 "RagVats$Posts" "allSheets" "I" "RagVats").before args s = true := va_Nw.use rfl (hG.1.1 _ (by decide +kernel))
  replace hl : lv_has ls 1 [(0, .ref (h 0))] := hl
  have hS : va_S A s.heap s.heap [] := va_S.rf
  unfold fX0_freeFelts at hF
  refine lv_aload_n hx hb dX0_freeFelts_0 rfl (lv_at hl 0 rfl) ?_
  refine va_get (D := D) (C := RX0) (T := TX0) (N := 12) hx hb hts hiX0 hown hK hP 0 gtX0_0 rfl 2 (by decide) hf18 (fun _ h9 => h9) rfl dX0_freeFelts_1 ?_
  refine lv_aload_n hx hb dX0_freeFelts_4 rfl (lv_at hl 0 rfl) ?_
  refine va_get (D := D) (C := RX0) (T := TX0) (N := 12) hx hb hts hiX0 hown hK hP 0 gtX0_0 rfl 10 (by decide) hf58 (fun _ h9 => h9) rfl dX0_freeFelts_5 ?_
  refine va_getN (host := "RagVats") (D := D) (C := RX2) (T := TX2) (N := 5) hx hb hts hiX2 hown hK hP 15 gtX0_15 rfl 1 (by decide) hn94 (fun _ h9 => h9) rfl dX0_freeFelts_8 ?_
  refine lv_isub hx hb dX0_freeFelts_11 ?_
  cases hF
  exact hQ _ _ _ _ _ _ (fun _ => 0) dX0_freeFelts_12 hP hD hS (Nat.le_of_ble_eq_true rfl) (Nat.le_of_ble_eq_true rfl)

def fX0_hanging (loft : FN) (a1 : Int32) (a2 : Int32) : Option (Int32) := (fX5_isBelow a1 10).bind fun z1 => if z1 = 0 then some 0 else (fX5_isBelow a2 3).bind fun z3 => if z3 = 0 then some 0 else ckI ((a1 * 3) + a2) 30 (some (loft ((a1 * 3) + a2).toNatClampNeg))
abbrev rX0_hanging : Room := { frames := 1, cells := 0, slots := 0, locals := 21 }
set_option maxHeartbeats 4000000 in
set_option maxRecDepth 100000 in
theorem kX0_hanging (l : Launch) (D : va_G) (cy : Nat → ClassId) (sa : SAT) (h : Nat → Nat) (day : Int32) (coins : Int32) (felts : Int32) (made : Int32) (worth : Int32) (rags : FN) (water : FN) (pulp : FN) (beat : FN) (sort : FN) (nM : Int32) (mark : FN) (size : FN) (worn : FN) (nT : Int32) (skill : FN) (vat : FN) (pair : FN) (nQ : Int32) (allS : Int32) (pmark : FN) (pgrade : FN) (psheets : FN) (loft : FN) (a1 : Int32) (a2 : Int32) (z : Int32) (hF : fX0_hanging loft a1 a2 = some z) : KI l D (tyW cy) sa yX0_hanging wsX0_hanging rX0_hanging [.ref (h 0), .int a1, .int a2] (wX0 cy h day coins felts made worth rags water pulp beat sort nM mark size worn nT skill vat pair nQ allS pmark pgrade psheets loft) z (fun _ => wX0 cy h day coins felts made worth rags water pulp beat sort nM mark size worn nT skill vat pair nQ allS pmark pgrade psheets loft) 0 0 := by
  refine KI.of (cc := cX0_hanging) (maxL := 3) (by decide +kernel) rfl (Nat.le_of_ble_eq_true rfl) ?_
  intro p e s m args below meth c A ls Q hE hQ
  obtain ⟨hx, hb, hml, hown, hts, hA, hP, hK, hD, hG, hl, hnm⟩ := hE
  replace hown : s.vm.findClass RX0 = some m.cls := hown
  have hiX0 : ∀ w ∈ u_ws RX0 TX0 12, w ∈ wsX0_hanging := by decide +kernel
  have hf62 : (Cond.fieldLink RX0 62 "RagVats$Mill" "loft" "[I").before args s = true := hts _ (by decide +kernel)
  have hn90 : va_Nw (.methodLinkNest RX0 90 yX5_isBelow "RagVats") s := hG.1.1 _ (by decide +kernel)
  replace hl : lv_has ls 3 [(0, .ref (h 0)), (1, .int a1), (2, .int a2)] := hl
  have hS : va_S A s.heap s.heap [] := va_S.rf
  unfold fX0_hanging at hF
  refine lv_iload_n hx hb dX0_hanging_0 rfl (lv_at hl 1 rfl) ?_
  refine lv_bipush (v := 10) hx hb dX0_hanging_1 (by decide) ?_
  replace hF := bnd_some hF
  obtain ⟨z1, hz_1, hF⟩ := hF
  refine krI (kSN (As := [.int a1, .int 10]) ⟨hx, hb, hml, hown, hts⟩ (kX5_isBelow l D cy sa a1 10 z1 hz_1 _) ⟨va_cnB (host := "RagVats") 2 hts gX0_hanging_X5_isBelow_n90 rfl rfl rfl hn90 (hts (.initialized RX5) (by decide +kernel)) (by decide +kernel) ⟨Nat.le_of_ble_eq_true rfl, Nat.le_of_ble_eq_true rfl⟩, hts (.static yX5_isBelow) (by decide +kernel), trivial⟩ hK hP hD hS hA hG [] rfl rfl rfl hl.1 [] rfl (Nat.le_of_ble_eq_true rfl) dX0_hanging_3 ⟨(Nat.le_of_ble_eq_true rfl), (Nat.le_of_ble_eq_true rfl)⟩) hP hD hS hA [] rfl (fun H locs hP hS => ?_)
  refine lv_if_eq (tgt := 30) hx hb dX0_hanging_6 (by decide) (fun c_2 => ?_) (fun c_2 => ?_)
  · replace hF := if_t hF c_2
    refine lv_iconst (v := 0) hx hb dX0_hanging_30 (by decide) ?_
    cases hF
    exact hQ _ _ _ _ _ _ (fun _ => 0) dX0_hanging_31 hP hD hS (Nat.le_of_ble_eq_true rfl) (Nat.le_of_ble_eq_true rfl)
  · replace hF := if_f hF c_2
    refine lv_iload_n hx hb dX0_hanging_9 rfl (lv_at hl 2 rfl) ?_
    refine lv_iconst (v := 3) hx hb dX0_hanging_10 (by decide) ?_
    replace hF := bnd_some hF
    obtain ⟨z3, hz_3, hF⟩ := hF
    refine krI (kSN (As := [.int a2, .int 3]) ⟨hx, hb, hml, hown, hts⟩ (kX5_isBelow l D cy sa a2 3 z3 hz_3 _) ⟨va_cnB (host := "RagVats") 2 hts gX0_hanging_X5_isBelow_n90 rfl rfl rfl hn90 (hts (.initialized RX5) (by decide +kernel)) (by decide +kernel) ⟨Nat.le_of_ble_eq_true rfl, Nat.le_of_ble_eq_true rfl⟩, hts (.static yX5_isBelow) (by decide +kernel), trivial⟩ hK hP hD hS hA hG [] rfl rfl rfl hl.1 [] rfl (Nat.le_of_ble_eq_true rfl) dX0_hanging_11 ⟨(Nat.le_of_ble_eq_true rfl), (Nat.le_of_ble_eq_true rfl)⟩) hP hD hS hA [] rfl (fun H locs hP hS => ?_)
    refine lv_if_eq (tgt := 30) hx hb dX0_hanging_14 (by decide) (fun c_4 => ?_) (fun c_4 => ?_)
    · replace hF := if_t hF c_4
      refine lv_iconst (v := 0) hx hb dX0_hanging_30 (by decide) ?_
      cases hF
      exact hQ _ _ _ _ _ _ (fun _ => 0) dX0_hanging_31 hP hD hS (Nat.le_of_ble_eq_true rfl) (Nat.le_of_ble_eq_true rfl)
    · replace hF := if_f hF c_4
      refine lv_aload_n hx hb dX0_hanging_17 rfl (lv_at hl 0 rfl) ?_
      refine va_get (D := D) (C := RX0) (T := TX0) (N := 12) hx hb hts hiX0 hown hK hP 0 gtX0_0 rfl 11 (by decide) hf62 (fun _ h9 => h9) rfl dX0_hanging_18 ?_
      refine lv_iload_n hx hb dX0_hanging_21 rfl (lv_at hl 1 rfl) ?_
      refine lv_iconst (v := 3) hx hb dX0_hanging_22 (by decide) ?_
      refine lv_imul hx hb dX0_hanging_23 ?_
      refine lv_iload_n hx hb dX0_hanging_24 rfl (lv_at hl 2 rfl) ?_
      refine lv_iadd hx hb dX0_hanging_25 ?_
      replace hF := ckI_some hF
      obtain ⟨hi_5, hF⟩ := hF
      refine va_iald hx hb hK hP 19 0 gtX0_19 rfl hi_5 dX0_hanging_26 ?_
      refine lv_goto (tgt := 31) hx hb dX0_hanging_27 (by decide) ?_
      cases hF
      exact hQ _ _ _ _ _ _ (fun _ => 0) dX0_hanging_31 hP hD hS (Nat.le_of_ble_eq_true rfl) (Nat.le_of_ble_eq_true rfl)

def fX0_hang (loft : FN) (a1 : Int32) (a2 : Int32) (a3 : Int32) : Option (FN) := (fX5_isBelow a1 10).bind fun z1 => if z1 = 0 then some loft else (fX5_isBelow a2 3).bind fun z3 => if z3 = 0 then some loft else ckI ((a1 * 3) + a2) 30 (ckI ((a1 * 3) + a2) 30 (some (upd loft ((a1 * 3) + a2).toNatClampNeg ((loft ((a1 * 3) + a2).toNatClampNeg) + a3))))
abbrev rX0_hang : Room := { frames := 1, cells := 0, slots := 0, locals := 21 }
set_option maxHeartbeats 4000000 in
set_option maxRecDepth 100000 in
theorem kX0_hang (l : Launch) (D : va_G) (cy : Nat → ClassId) (sa : SAT) (h : Nat → Nat) (day : Int32) (coins : Int32) (felts : Int32) (made : Int32) (worth : Int32) (rags : FN) (water : FN) (pulp : FN) (beat : FN) (sort : FN) (nM : Int32) (mark : FN) (size : FN) (worn : FN) (nT : Int32) (skill : FN) (vat : FN) (pair : FN) (nQ : Int32) (allS : Int32) (pmark : FN) (pgrade : FN) (psheets : FN) (loft : FN) (a1 : Int32) (a2 : Int32) (a3 : Int32) (z : FN) (hF : fX0_hang loft a1 a2 a3 = some z) : KV l D (tyW cy) sa yX0_hang wsX0_hang rX0_hang [.ref (h 0), .int a1, .int a2, .int a3] (wX0 cy h day coins felts made worth rags water pulp beat sort nM mark size worn nT skill vat pair nQ allS pmark pgrade psheets loft) (fun _ => wX0 cy h day coins felts made worth rags water pulp beat sort nM mark size worn nT skill vat pair nQ allS pmark pgrade psheets z) 0 0 := by
  refine KV.of (cc := cX0_hang) (maxL := 4) (by decide +kernel) rfl (Nat.le_of_ble_eq_true rfl) ?_
  intro p e s m args below meth c A ls Q hE hQ
  obtain ⟨hx, hb, hml, hown, hts, hA, hP, hK, hD, hG, hl, hnm⟩ := hE
  replace hown : s.vm.findClass RX0 = some m.cls := hown
  have hiX0 : ∀ w ∈ u_ws RX0 TX0 12, w ∈ wsX0_hang := by decide +kernel
  have hf62 : (Cond.fieldLink RX0 62 "RagVats$Mill" "loft" "[I").before args s = true := hts _ (by decide +kernel)
  have hn90 : va_Nw (.methodLinkNest RX0 90 yX5_isBelow "RagVats") s := hG.1.1 _ (by decide +kernel)
  replace hl : lv_has ls 4 [(0, .ref (h 0)), (1, .int a1), (2, .int a2), (3, .int a3)] := hl
  have hS : va_S A s.heap s.heap [] := va_S.rf
  unfold fX0_hang at hF
  refine lv_iload_n hx hb dX0_hang_0 rfl (lv_at hl 1 rfl) ?_
  refine lv_bipush (v := 10) hx hb dX0_hang_1 (by decide) ?_
  replace hF := bnd_some hF
  obtain ⟨z1, hz_1, hF⟩ := hF
  refine krI (kSN (As := [.int a1, .int 10]) ⟨hx, hb, hml, hown, hts⟩ (kX5_isBelow l D cy sa a1 10 z1 hz_1 _) ⟨va_cnB (host := "RagVats") 2 hts gX0_hang_X5_isBelow_n90 rfl rfl rfl hn90 (hts (.initialized RX5) (by decide +kernel)) (by decide +kernel) ⟨Nat.le_of_ble_eq_true rfl, Nat.le_of_ble_eq_true rfl⟩, hts (.static yX5_isBelow) (by decide +kernel), trivial⟩ hK hP hD hS hA hG [] rfl rfl rfl hl.1 [] rfl (Nat.le_of_ble_eq_true rfl) dX0_hang_3 ⟨(Nat.le_of_ble_eq_true rfl), (Nat.le_of_ble_eq_true rfl)⟩) hP hD hS hA [] rfl (fun H locs hP hS => ?_)
  refine lv_if_eq (tgt := 31) hx hb dX0_hang_6 (by decide) (fun c_2 => ?_) (fun c_2 => ?_)
  · replace hF := if_t hF c_2
    cases hF
    exact hQ _ _ _ _ _ _ (fun _ => 0) dX0_hang_31 hP hD hS (Nat.le_of_ble_eq_true rfl) (Nat.le_of_ble_eq_true rfl)
  · replace hF := if_f hF c_2
    refine lv_iload_n hx hb dX0_hang_9 rfl (lv_at hl 2 rfl) ?_
    refine lv_iconst (v := 3) hx hb dX0_hang_10 (by decide) ?_
    replace hF := bnd_some hF
    obtain ⟨z3, hz_3, hF⟩ := hF
    refine krI (kSN (As := [.int a2, .int 3]) ⟨hx, hb, hml, hown, hts⟩ (kX5_isBelow l D cy sa a2 3 z3 hz_3 _) ⟨va_cnB (host := "RagVats") 2 hts gX0_hang_X5_isBelow_n90 rfl rfl rfl hn90 (hts (.initialized RX5) (by decide +kernel)) (by decide +kernel) ⟨Nat.le_of_ble_eq_true rfl, Nat.le_of_ble_eq_true rfl⟩, hts (.static yX5_isBelow) (by decide +kernel), trivial⟩ hK hP hD hS hA hG [] rfl rfl rfl hl.1 [] rfl (Nat.le_of_ble_eq_true rfl) dX0_hang_11 ⟨(Nat.le_of_ble_eq_true rfl), (Nat.le_of_ble_eq_true rfl)⟩) hP hD hS hA [] rfl (fun H locs hP hS => ?_)
    refine lv_if_eq (tgt := 31) hx hb dX0_hang_14 (by decide) (fun c_4 => ?_) (fun c_4 => ?_)
    · replace hF := if_t hF c_4
      cases hF
      exact hQ _ _ _ _ _ _ (fun _ => 0) dX0_hang_31 hP hD hS (Nat.le_of_ble_eq_true rfl) (Nat.le_of_ble_eq_true rfl)
    · replace hF := if_f hF c_4
      refine lv_aload_n hx hb dX0_hang_17 rfl (lv_at hl 0 rfl) ?_
      refine va_get (D := D) (C := RX0) (T := TX0) (N := 12) hx hb hts hiX0 hown hK hP 0 gtX0_0 rfl 11 (by decide) hf62 (fun _ h9 => h9) rfl dX0_hang_18 ?_
      refine lv_iload_n hx hb dX0_hang_21 rfl (lv_at hl 1 rfl) ?_
      refine lv_iconst (v := 3) hx hb dX0_hang_22 (by decide) ?_
      refine lv_imul hx hb dX0_hang_23 ?_
      refine lv_iload_n hx hb dX0_hang_24 rfl (lv_at hl 2 rfl) ?_
      refine lv_iadd hx hb dX0_hang_25 ?_
      refine lv_dup2_11 hx hb dX0_hang_26 rfl rfl ?_
      replace hF := ckI_some hF
      obtain ⟨hi_5, hF⟩ := hF
      refine va_iald hx hb hK hP 19 0 gtX0_19 rfl hi_5 dX0_hang_27 ?_
      refine lv_iload_n hx hb dX0_hang_28 rfl (lv_at hl 3 rfl) ?_
      refine lv_iadd hx hb dX0_hang_29 ?_
      replace hF := ckI_some hF
      obtain ⟨hi_6, hF⟩ := hF
      refine va_iast hx hb hK hP hD hS 19 0 gtX0_19 rfl hi_6 dX0_hang_30 (fun H locs hP hD hS => ?_)
      rw [stX0_19] at hP hD
      cases hF
      exact hQ _ _ _ _ _ _ (fun _ => 0) dX0_hang_31 hP hD hS (Nat.le_of_ble_eq_true rfl) (Nat.le_of_ble_eq_true rfl)

def fX0_allHanging_L4 (loft : FN) : Nat → Int32 → Int32 → Option (Int32)
  | 0, _, _ => none
  | k + 1, x1_4, x2_4 => if 30 ≤ x2_4 then some x1_4 else ckI x2_4 30 (fX0_allHanging_L4 loft k (x1_4 + (loft x2_4.toNatClampNeg)) (x2_4 + 1))
def fX0_allHanging (loft : FN) : Option (Int32) := fX0_allHanging_L4 loft 300 0 0
abbrev rX0_allHanging : Room := { frames := 0, cells := 0, slots := 0, locals := 0 }
set_option maxHeartbeats 4000000 in
set_option maxRecDepth 100000 in
theorem kX0_allHanging (l : Launch) (D : va_G) (cy : Nat → ClassId) (sa : SAT) (h : Nat → Nat) (day : Int32) (coins : Int32) (felts : Int32) (made : Int32) (worth : Int32) (rags : FN) (water : FN) (pulp : FN) (beat : FN) (sort : FN) (nM : Int32) (mark : FN) (size : FN) (worn : FN) (nT : Int32) (skill : FN) (vat : FN) (pair : FN) (nQ : Int32) (allS : Int32) (pmark : FN) (pgrade : FN) (psheets : FN) (loft : FN) (z : Int32) (hF : fX0_allHanging loft = some z) : KI l D (tyW cy) sa yX0_allHanging wsX0_allHanging rX0_allHanging [.ref (h 0)] (wX0 cy h day coins felts made worth rags water pulp beat sort nM mark size worn nT skill vat pair nQ allS pmark pgrade psheets loft) z (fun _ => wX0 cy h day coins felts made worth rags water pulp beat sort nM mark size worn nT skill vat pair nQ allS pmark pgrade psheets loft) 0 0 := by
  refine KI.of (cc := cX0_allHanging) (maxL := 3) (by decide +kernel) rfl (Nat.le_of_ble_eq_true rfl) ?_
  intro p e s m args below meth c A ls Q hE hQ
  obtain ⟨hx, hb, hml, hown, hts, hA, hP, hK, hD, hG, hl, hnm⟩ := hE
  replace hown : s.vm.findClass RX0 = some m.cls := hown
  have hiX0 : ∀ w ∈ u_ws RX0 TX0 12, w ∈ wsX0_allHanging := by decide +kernel
  have hf62 : (Cond.fieldLink RX0 62 "RagVats$Mill" "loft" "[I").before args s = true := hts _ (by decide +kernel)
  replace hl : lv_has ls 3 [(0, .ref (h 0))] := hl
  have hS : va_S A s.heap s.heap [] := va_S.rf
  have L4 : ∀ (k : Nat) (x1_4 : Int32) (x2_4 : Int32), fX0_allHanging_L4 loft k x1_4 x2_4 = some z → ∀ (H : Heap) (locs : List Loc) (ls : Array Slot), va_P D vwCl (wX0 cy h day coins felts made worth rags water pulp beat sort nM mark size worn nT skill vat pair nQ allS pmark pgrade psheets loft) H → va_D A (wX0 cy h day coins felts made worth rags water pulp beat sort nM mark size worn nT skill vat pair nQ allS pmark pgrade psheets loft) → va_S A s.heap H locs → lv_has ls 3 [(0, .ref (h 0)), (1, .int x1_4), (2, .int x2_4)] → W p l e rX0_allHanging s m args below meth c H locs 0 0 Q (F0 m 4 ls []) := by
    intro k
    induction k with
    | zero =>
      intro x1_4 x2_4 hF
      rw [fX0_allHanging_L4] at hF
      cases hF
    | succ k ih =>
      intro x1_4 x2_4 hF H locs ls hP hD hS hl
      rw [fX0_allHanging_L4] at hF
      refine lv_iload_n hx hb dX0_allHanging_4 rfl (lv_at hl 2 rfl) ?_
      refine lv_aload_n hx hb dX0_allHanging_5 rfl (lv_at hl 0 rfl) ?_
      refine va_get (D := D) (C := RX0) (T := TX0) (N := 12) hx hb hts hiX0 hown hK hP 0 gtX0_0 rfl 11 (by decide) hf62 (fun _ h9 => h9) rfl dX0_allHanging_6 ?_
      refine va_alen (v := 30) hx hb hK hP 19 0 gtX0_19 rfl rfl dX0_allHanging_9 ?_
      refine lv_icmp_ge (tgt := 28) hx hb dX0_allHanging_10 (by decide) (fun c_1 => ?_) (fun c_1 => ?_)
      · replace hF := if_t hF c_1
        refine lv_iload_n hx hb dX0_allHanging_28 rfl (lv_at hl 1 rfl) ?_
        cases hF
        exact hQ _ _ _ _ _ _ (fun _ => 0) dX0_allHanging_29 hP hD hS (Nat.le_of_ble_eq_true rfl) (Nat.le_of_ble_eq_true rfl)
      · replace hF := if_f hF c_1
        refine lv_iload_n hx hb dX0_allHanging_13 rfl (lv_at hl 1 rfl) ?_
        refine lv_aload_n hx hb dX0_allHanging_14 rfl (lv_at hl 0 rfl) ?_
        refine va_get (D := D) (C := RX0) (T := TX0) (N := 12) hx hb hts hiX0 hown hK hP 0 gtX0_0 rfl 11 (by decide) hf62 (fun _ h9 => h9) rfl dX0_allHanging_15 ?_
        refine lv_iload_n hx hb dX0_allHanging_18 rfl (lv_at hl 2 rfl) ?_
        replace hF := ckI_some hF
        obtain ⟨hi_2, hF⟩ := hF
        refine va_iald hx hb hK hP 19 0 gtX0_19 rfl hi_2 dX0_allHanging_19 ?_
        refine lv_iadd hx hb dX0_allHanging_20 ?_
        refine lv_istore_n (lv' := [(1, .int (x1_4 + (loft x2_4.toNatClampNeg))), (0, .ref (h 0)), (2, .int x2_4)]) hx hb dX0_allHanging_21 rfl hl (by decide) rfl (fun ls hl => ?_)
        refine lv_iinc (v := x2_4 + 1) (lv' := [(2, .int (x2_4 + 1)), (1, .int (x1_4 + (loft x2_4.toNatClampNeg))), (0, .ref (h 0))]) hx hb dX0_allHanging_22 hl (k := 2) rfl rfl (by decide) rfl (fun ls hl => ?_)
        refine lv_goto (tgt := 4) hx hb dX0_allHanging_25 (by decide) ?_
        exact ih  (x1_4 + (loft x2_4.toNatClampNeg)) (x2_4 + 1)  hF _ _ _ hP hD hS (lv_sub hl [2, 1, 0] rfl)
  unfold fX0_allHanging at hF
  refine lv_iconst (v := 0) hx hb dX0_allHanging_0 (by decide) ?_
  refine lv_istore_n (lv' := [(1, .int 0), (0, .ref (h 0))]) hx hb dX0_allHanging_1 rfl hl (by decide) rfl (fun ls hl => ?_)
  refine lv_iconst (v := 0) hx hb dX0_allHanging_2 (by decide) ?_
  refine lv_istore_n (lv' := [(2, .int 0), (1, .int 0), (0, .ref (h 0))]) hx hb dX0_allHanging_3 rfl hl (by decide) rfl (fun ls hl => ?_)
  exact L4 300 0 0  hF _ _ _ hP hD hS (lv_sub hl [2, 1, 0] rfl)

def fX0_poundsOf (rags : FN) (a1 : Int32) : Option (Int32) := (fX5_isBelow a1 3).bind fun z1 => if z1 = 0 then some 0 else ckI a1 3 (some (rags a1.toNatClampNeg))
abbrev rX0_poundsOf : Room := { frames := 1, cells := 0, slots := 0, locals := 21 }
set_option maxHeartbeats 4000000 in
set_option maxRecDepth 100000 in
theorem kX0_poundsOf (l : Launch) (D : va_G) (cy : Nat → ClassId) (sa : SAT) (h : Nat → Nat) (day : Int32) (coins : Int32) (felts : Int32) (made : Int32) (worth : Int32) (rags : FN) (water : FN) (pulp : FN) (beat : FN) (sort : FN) (nM : Int32) (mark : FN) (size : FN) (worn : FN) (nT : Int32) (skill : FN) (vat : FN) (pair : FN) (nQ : Int32) (allS : Int32) (pmark : FN) (pgrade : FN) (psheets : FN) (loft : FN) (a1 : Int32) (z : Int32) (hF : fX0_poundsOf rags a1 = some z) : KI l D (tyW cy) sa yX0_poundsOf wsX0_poundsOf rX0_poundsOf [.ref (h 0), .int a1] (wX0 cy h day coins felts made worth rags water pulp beat sort nM mark size worn nT skill vat pair nQ allS pmark pgrade psheets loft) z (fun _ => wX0 cy h day coins felts made worth rags water pulp beat sort nM mark size worn nT skill vat pair nQ allS pmark pgrade psheets loft) 0 0 := by
  refine KI.of (cc := cX0_poundsOf) (maxL := 2) (by decide +kernel) rfl (Nat.le_of_ble_eq_true rfl) ?_
  intro p e s m args below meth c A ls Q hE hQ
  obtain ⟨hx, hb, hml, hown, hts, hA, hP, hK, hD, hG, hl, hnm⟩ := hE
  replace hown : s.vm.findClass RX0 = some m.cls := hown
  have hiX0 : ∀ w ∈ u_ws RX0 TX0 12, w ∈ wsX0_poundsOf := by decide +kernel
  have hf27 : (Cond.fieldLink RX0 27 "RagVats$Mill" "rags" "[I").before args s = true := hts _ (by decide +kernel)
  have hn90 : va_Nw (.methodLinkNest RX0 90 yX5_isBelow "RagVats") s := hG.1.1 _ (by decide +kernel)
  replace hl : lv_has ls 2 [(0, .ref (h 0)), (1, .int a1)] := hl
  have hS : va_S A s.heap s.heap [] := va_S.rf
  unfold fX0_poundsOf at hF
  refine lv_iload_n hx hb dX0_poundsOf_0 rfl (lv_at hl 1 rfl) ?_
  refine lv_iconst (v := 3) hx hb dX0_poundsOf_1 (by decide) ?_
  replace hF := bnd_some hF
  obtain ⟨z1, hz_1, hF⟩ := hF
  refine krI (kSN (As := [.int a1, .int 3]) ⟨hx, hb, hml, hown, hts⟩ (kX5_isBelow l D cy sa a1 3 z1 hz_1 _) ⟨va_cnB (host := "RagVats") 2 hts gX0_poundsOf_X5_isBelow_n90 rfl rfl rfl hn90 (hts (.initialized RX5) (by decide +kernel)) (by decide +kernel) ⟨Nat.le_of_ble_eq_true rfl, Nat.le_of_ble_eq_true rfl⟩, hts (.static yX5_isBelow) (by decide +kernel), trivial⟩ hK hP hD hS hA hG [] rfl rfl rfl hl.1 [] rfl (Nat.le_of_ble_eq_true rfl) dX0_poundsOf_2 ⟨(Nat.le_of_ble_eq_true rfl), (Nat.le_of_ble_eq_true rfl)⟩) hP hD hS hA [] rfl (fun H locs hP hS => ?_)
  refine lv_if_eq (tgt := 17) hx hb dX0_poundsOf_5 (by decide) (fun c_2 => ?_) (fun c_2 => ?_)
  · replace hF := if_t hF c_2
    refine lv_iconst (v := 0) hx hb dX0_poundsOf_17 (by decide) ?_
    cases hF
    exact hQ _ _ _ _ _ _ (fun _ => 0) dX0_poundsOf_18 hP hD hS (Nat.le_of_ble_eq_true rfl) (Nat.le_of_ble_eq_true rfl)
  · replace hF := if_f hF c_2
    refine lv_aload_n hx hb dX0_poundsOf_8 rfl (lv_at hl 0 rfl) ?_
    refine va_get (D := D) (C := RX0) (T := TX0) (N := 12) hx hb hts hiX0 hown hK hP 0 gtX0_0 rfl 5 (by decide) hf27 (fun _ h9 => h9) rfl dX0_poundsOf_9 ?_
    refine lv_iload_n hx hb dX0_poundsOf_12 rfl (lv_at hl 1 rfl) ?_
    replace hF := ckI_some hF
    obtain ⟨hi_3, hF⟩ := hF
    refine va_iald hx hb hK hP 1 0 gtX0_1 rfl hi_3 dX0_poundsOf_13 ?_
    refine lv_goto (tgt := 18) hx hb dX0_poundsOf_14 (by decide) ?_
    cases hF
    exact hQ _ _ _ _ _ _ (fun _ => 0) dX0_poundsOf_18 hP hD hS (Nat.le_of_ble_eq_true rfl) (Nat.le_of_ble_eq_true rfl)

def fX0_tell (day : Int32) (coins : Int32) (felts : Int32) (made : Int32) (worth : Int32) (rags : FN) (pulp : FN) (nQ : Int32) (allS : Int32) (loft : FN) (a1 : Int32) : Option (Int32) := if (a1.toInt < 0 ∨ 8 < a1.toInt) then (fX0_poundsOf rags (a1 - 9)).bind fun z2 => some z2 else if a1.toInt = 0 then some day else if a1.toInt = 1 then some coins else if a1.toInt = 2 then some felts else if a1.toInt = 3 then (fX0_freeFelts felts allS).bind fun z7 => some z7 else if a1.toInt = 4 then some made else if a1.toInt = 5 then some worth else if a1.toInt = 6 then some nQ else if a1.toInt = 7 then (fX0_allHanging loft).bind fun z12 => some z12 else (fX4_allPulp pulp).bind fun z13 => some z13
abbrev rX0_tell : Room := { frames := 2, cells := 0, slots := 0, locals := 42 }
set_option maxHeartbeats 4000000 in
set_option maxRecDepth 100000 in
theorem kX0_tell (l : Launch) (D : va_G) (cy : Nat → ClassId) (sa : SAT) (h : Nat → Nat) (day : Int32) (coins : Int32) (felts : Int32) (made : Int32) (worth : Int32) (rags : FN) (water : FN) (pulp : FN) (beat : FN) (sort : FN) (nM : Int32) (mark : FN) (size : FN) (worn : FN) (nT : Int32) (skill : FN) (vat : FN) (pair : FN) (nQ : Int32) (allS : Int32) (pmark : FN) (pgrade : FN) (psheets : FN) (loft : FN) (a1 : Int32) (z : Int32) (hF : fX0_tell day coins felts made worth rags pulp nQ allS loft a1 = some z) : KI l D (tyW cy) sa yX0_tell wsX0_tell rX0_tell [.ref (h 0), .int a1] (wX0 cy h day coins felts made worth rags water pulp beat sort nM mark size worn nT skill vat pair nQ allS pmark pgrade psheets loft) z (fun _ => wX0 cy h day coins felts made worth rags water pulp beat sort nM mark size worn nT skill vat pair nQ allS pmark pgrade psheets loft) 0 0 := by
  refine KI.of (cc := cX0_tell) (maxL := 2) (by decide +kernel) rfl (Nat.le_of_ble_eq_true rfl) ?_
  intro p e s m args below meth c A ls Q hE hQ
  obtain ⟨hx, hb, hml, hown, hts, hA, hP, hK, hD, hG, hl, hnm⟩ := hE
  replace hown : s.vm.findClass RX0 = some m.cls := hown
  have hiX0 : ∀ w ∈ u_ws RX0 TX0 12, w ∈ wsX0_tell := by decide +kernel
  have hiX2 : ∀ w ∈ u_ws RX2 TX2 5, w ∈ wsX0_tell := by decide +kernel
  have hf9 : (Cond.fieldLink RX0 9 "RagVats$Mill" "day" "I").before args s = true := hts _ (by decide +kernel)
  have hf15 : (Cond.fieldLink RX0 15 "RagVats$Mill" "coins" "I").before args s = true := hts _ (by decide +kernel)
  have hf18 : (Cond.fieldLink RX0 18 "RagVats$Mill" "felts" "I").before args s = true := hts _ (by decide +kernel)
  have hf21 : (Cond.fieldLink RX0 21 "RagVats$Mill" "made" "I").before args s = true := hts _ (by decide +kernel)
  have hf24 : (Cond.fieldLink RX0 24 "RagVats$Mill" "worth" "I").before args s = true := hts _ (by decide +kernel)
  have hf37 : (Cond.fieldLink RX0 37 "RagVats$Mill" "vats" "LRagVats$Vats;").before args s = true := hts _ (by decide +kernel)
  have hf58 : (Cond.fieldLink RX0 58 "RagVats$Mill" "posts" "LRagVats$Posts;").before args s = true := hts _ (by decide +kernel)
  have hn101 : (Cond.fieldLinkNest RX0 101 "RagVats$Posts" "number" "I" "RagVats").before args s = true := va_Nw.use rfl (hG.1.1 _ (by decide +kernel))
  replace hl : lv_has ls 2 [(0, .ref (h 0)), (1, .int a1)] := hl
  have hS : va_S A s.heap s.heap [] := va_S.rf
  unfold fX0_tell at hF
  refine lv_iload_n hx hb dX0_tell_0 rfl (lv_at hl 1 rfl) ?_
  by_cases c_1 : a1.toInt < 0 ∨ 8 < a1.toInt
  · replace hF := if_t hF c_1
    refine lv_tableOut (tgt := 103) hx hb dX0_tell_1 c_1 (by decide) ?_
    refine lv_aload_n hx hb dX0_tell_103 rfl (lv_at hl 0 rfl) ?_
    refine lv_iload_n hx hb dX0_tell_104 rfl (lv_at hl 1 rfl) ?_
    refine lv_bipush (v := 9) hx hb dX0_tell_105 (by decide) ?_
    refine lv_isub hx hb dX0_tell_107 ?_
    replace hF := bnd_some hF
    obtain ⟨z2, hz_2, hF⟩ := hF
    refine krI (kV (As := [.int (a1 - 9)]) ⟨hx, hb, hml, hown, hts⟩ (kX0_poundsOf l D cy sa h day coins felts made worth rags water pulp beat sort nM mark size worn nT skill vat pair nQ allS pmark pgrade psheets loft (a1 - 9) z2 hz_2 _) (cwV 1 hts gX0_tell_X0_poundsOf rfl rfl rfl (by decide +kernel) ⟨Nat.le_of_ble_eq_true rfl, Nat.le_of_ble_eq_true rfl⟩) hK hP hD hS hA hG [0, 1, 2, 3, 4, 5, 6, 7, 8, 9, 10, 11, 12, 13, 14, 15, 16, 17, 18, 19] hcX0_X0_0 ndX0_0 gtX0_0 rfl rfl rfl hl.1 [] rfl (Nat.le_of_ble_eq_true rfl) dX0_tell_108 ⟨(Nat.le_of_ble_eq_true rfl), (Nat.le_of_ble_eq_true rfl)⟩) hP hD hS hA [0, 1, 2, 3, 4, 5, 6, 7, 8, 9, 10, 11, 12, 13, 14, 15, 16, 17, 18, 19] hcX0_X0_0 (fun H locs hP hS => ?_)
    cases hF
    exact hQ _ _ _ _ _ _ (fun _ => 0) dX0_tell_111 hP hD hS (Nat.le_of_ble_eq_true rfl) (Nat.le_of_ble_eq_true rfl)
  · replace hF := if_f hF c_1
    by_cases c_3 : a1.toInt = 0
    · replace hF := if_t hF c_3
      refine lv_tableIn (off := 51) (tgt := 52) hx hb dX0_tell_1 (fun h9 => c_1 (Or.inl h9)) (fun h9 => c_1 (Or.inr h9)) (by rw [c_3] <;> rfl) (by decide) ?_
      refine lv_aload_n hx hb dX0_tell_52 rfl (lv_at hl 0 rfl) ?_
      refine va_get (D := D) (C := RX0) (T := TX0) (N := 12) hx hb hts hiX0 hown hK hP 0 gtX0_0 rfl 0 (by decide) hf9 (fun _ h9 => h9) rfl dX0_tell_53 ?_
      cases hF
      exact hQ _ _ _ _ _ _ (fun _ => 0) dX0_tell_56 hP hD hS (Nat.le_of_ble_eq_true rfl) (Nat.le_of_ble_eq_true rfl)
    · replace hF := if_f hF c_3
      by_cases c_4 : a1.toInt = 1
      · replace hF := if_t hF c_4
        refine lv_tableIn (off := 56) (tgt := 57) hx hb dX0_tell_1 (fun h9 => c_1 (Or.inl h9)) (fun h9 => c_1 (Or.inr h9)) (by rw [c_4] <;> rfl) (by decide) ?_
        refine lv_aload_n hx hb dX0_tell_57 rfl (lv_at hl 0 rfl) ?_
        refine va_get (D := D) (C := RX0) (T := TX0) (N := 12) hx hb hts hiX0 hown hK hP 0 gtX0_0 rfl 1 (by decide) hf15 (fun _ h9 => h9) rfl dX0_tell_58 ?_
        cases hF
        exact hQ _ _ _ _ _ _ (fun _ => 0) dX0_tell_61 hP hD hS (Nat.le_of_ble_eq_true rfl) (Nat.le_of_ble_eq_true rfl)
      · replace hF := if_f hF c_4
        by_cases c_5 : a1.toInt = 2
        · replace hF := if_t hF c_5
          refine lv_tableIn (off := 61) (tgt := 62) hx hb dX0_tell_1 (fun h9 => c_1 (Or.inl h9)) (fun h9 => c_1 (Or.inr h9)) (by rw [c_5] <;> rfl) (by decide) ?_
          refine lv_aload_n hx hb dX0_tell_62 rfl (lv_at hl 0 rfl) ?_
          refine va_get (D := D) (C := RX0) (T := TX0) (N := 12) hx hb hts hiX0 hown hK hP 0 gtX0_0 rfl 2 (by decide) hf18 (fun _ h9 => h9) rfl dX0_tell_63 ?_
          cases hF
          exact hQ _ _ _ _ _ _ (fun _ => 0) dX0_tell_66 hP hD hS (Nat.le_of_ble_eq_true rfl) (Nat.le_of_ble_eq_true rfl)
        · replace hF := if_f hF c_5
          by_cases c_6 : a1.toInt = 3
          · replace hF := if_t hF c_6
            refine lv_tableIn (off := 66) (tgt := 67) hx hb dX0_tell_1 (fun h9 => c_1 (Or.inl h9)) (fun h9 => c_1 (Or.inr h9)) (by rw [c_6] <;> rfl) (by decide) ?_
            refine lv_aload_n hx hb dX0_tell_67 rfl (lv_at hl 0 rfl) ?_
            replace hF := bnd_some hF
            obtain ⟨z7, hz_7, hF⟩ := hF
            refine krI (kV (As := []) ⟨hx, hb, hml, hown, hts⟩ (kX0_freeFelts l D cy sa h day coins felts made worth rags water pulp beat sort nM mark size worn nT skill vat pair nQ allS pmark pgrade psheets loft z7 hz_7 _) (cwV 0 hts gX0_tell_X0_freeFelts rfl rfl rfl (by decide +kernel) ⟨Nat.le_of_ble_eq_true rfl, Nat.le_of_ble_eq_true rfl⟩) hK hP hD hS hA hG [0, 1, 2, 3, 4, 5, 6, 7, 8, 9, 10, 11, 12, 13, 14, 15, 16, 17, 18, 19] hcX0_X0_0 ndX0_0 gtX0_0 rfl rfl rfl hl.1 [] rfl (Nat.le_of_ble_eq_true rfl) dX0_tell_68 ⟨(Nat.le_of_ble_eq_true rfl), (Nat.le_of_ble_eq_true rfl)⟩) hP hD hS hA [0, 1, 2, 3, 4, 5, 6, 7, 8, 9, 10, 11, 12, 13, 14, 15, 16, 17, 18, 19] hcX0_X0_0 (fun H locs hP hS => ?_)
            cases hF
            exact hQ _ _ _ _ _ _ (fun _ => 0) dX0_tell_71 hP hD hS (Nat.le_of_ble_eq_true rfl) (Nat.le_of_ble_eq_true rfl)
          · replace hF := if_f hF c_6
            by_cases c_8 : a1.toInt = 4
            · replace hF := if_t hF c_8
              refine lv_tableIn (off := 71) (tgt := 72) hx hb dX0_tell_1 (fun h9 => c_1 (Or.inl h9)) (fun h9 => c_1 (Or.inr h9)) (by rw [c_8] <;> rfl) (by decide) ?_
              refine lv_aload_n hx hb dX0_tell_72 rfl (lv_at hl 0 rfl) ?_
              refine va_get (D := D) (C := RX0) (T := TX0) (N := 12) hx hb hts hiX0 hown hK hP 0 gtX0_0 rfl 3 (by decide) hf21 (fun _ h9 => h9) rfl dX0_tell_73 ?_
              cases hF
              exact hQ _ _ _ _ _ _ (fun _ => 0) dX0_tell_76 hP hD hS (Nat.le_of_ble_eq_true rfl) (Nat.le_of_ble_eq_true rfl)
            · replace hF := if_f hF c_8
              by_cases c_9 : a1.toInt = 5
              · replace hF := if_t hF c_9
                refine lv_tableIn (off := 76) (tgt := 77) hx hb dX0_tell_1 (fun h9 => c_1 (Or.inl h9)) (fun h9 => c_1 (Or.inr h9)) (by rw [c_9] <;> rfl) (by decide) ?_
                refine lv_aload_n hx hb dX0_tell_77 rfl (lv_at hl 0 rfl) ?_
                refine va_get (D := D) (C := RX0) (T := TX0) (N := 12) hx hb hts hiX0 hown hK hP 0 gtX0_0 rfl 4 (by decide) hf24 (fun _ h9 => h9) rfl dX0_tell_78 ?_
                cases hF
                exact hQ _ _ _ _ _ _ (fun _ => 0) dX0_tell_81 hP hD hS (Nat.le_of_ble_eq_true rfl) (Nat.le_of_ble_eq_true rfl)
              · replace hF := if_f hF c_9
                by_cases c_10 : a1.toInt = 6
                · replace hF := if_t hF c_10
                  refine lv_tableIn (off := 81) (tgt := 82) hx hb dX0_tell_1 (fun h9 => c_1 (Or.inl h9)) (fun h9 => c_1 (Or.inr h9)) (by rw [c_10] <;> rfl) (by decide) ?_
                  refine lv_aload_n hx hb dX0_tell_82 rfl (lv_at hl 0 rfl) ?_
                  refine va_get (D := D) (C := RX0) (T := TX0) (N := 12) hx hb hts hiX0 hown hK hP 0 gtX0_0 rfl 10 (by decide) hf58 (fun _ h9 => h9) rfl dX0_tell_83 ?_
                  refine va_getN (host := "RagVats") (D := D) (C := RX2) (T := TX2) (N := 5) hx hb hts hiX2 hown hK hP 15 gtX0_15 rfl 0 (by decide) hn101 (fun _ h9 => h9) rfl dX0_tell_86 ?_
                  cases hF
                  exact hQ _ _ _ _ _ _ (fun _ => 0) dX0_tell_89 hP hD hS (Nat.le_of_ble_eq_true rfl) (Nat.le_of_ble_eq_true rfl)
                · replace hF := if_f hF c_10
                  by_cases c_11 : a1.toInt = 7
                  · replace hF := if_t hF c_11
                    refine lv_tableIn (off := 89) (tgt := 90) hx hb dX0_tell_1 (fun h9 => c_1 (Or.inl h9)) (fun h9 => c_1 (Or.inr h9)) (by rw [c_11] <;> rfl) (by decide) ?_
                    refine lv_aload_n hx hb dX0_tell_90 rfl (lv_at hl 0 rfl) ?_
                    replace hF := bnd_some hF
                    obtain ⟨z12, hz_12, hF⟩ := hF
                    refine krI (kV (As := []) ⟨hx, hb, hml, hown, hts⟩ (kX0_allHanging l D cy sa h day coins felts made worth rags water pulp beat sort nM mark size worn nT skill vat pair nQ allS pmark pgrade psheets loft z12 hz_12 _) (cwV 0 hts gX0_tell_X0_allHanging rfl rfl rfl (by decide +kernel) ⟨Nat.le_of_ble_eq_true rfl, Nat.le_of_ble_eq_true rfl⟩) hK hP hD hS hA hG [0, 1, 2, 3, 4, 5, 6, 7, 8, 9, 10, 11, 12, 13, 14, 15, 16, 17, 18, 19] hcX0_X0_0 ndX0_0 gtX0_0 rfl rfl rfl hl.1 [] rfl (Nat.le_of_ble_eq_true rfl) dX0_tell_91 ⟨(Nat.le_of_ble_eq_true rfl), (Nat.le_of_ble_eq_true rfl)⟩) hP hD hS hA [0, 1, 2, 3, 4, 5, 6, 7, 8, 9, 10, 11, 12, 13, 14, 15, 16, 17, 18, 19] hcX0_X0_0 (fun H locs hP hS => ?_)
                    cases hF
                    exact hQ _ _ _ _ _ _ (fun _ => 0) dX0_tell_94 hP hD hS (Nat.le_of_ble_eq_true rfl) (Nat.le_of_ble_eq_true rfl)
                  · replace hF := if_f hF c_11
                    refine lv_tableIn (off := 94) (tgt := 95) hx hb dX0_tell_1 (fun h9 => c_1 (Or.inl h9)) (fun h9 => c_1 (Or.inr h9)) (by rw [show (a1).toInt = 8 by omega] <;> rfl) (by decide) ?_
                    refine lv_aload_n hx hb dX0_tell_95 rfl (lv_at hl 0 rfl) ?_
                    refine va_get (D := D) (C := RX0) (T := TX0) (N := 12) hx hb hts hiX0 hown hK hP 0 gtX0_0 rfl 7 (by decide) hf37 (fun _ h9 => h9) rfl dX0_tell_96 ?_
                    replace hF := bnd_some hF
                    obtain ⟨z13, hz_13, hF⟩ := hF
                    refine krI (kV (As := []) ⟨hx, hb, hml, hown, hts⟩ (kX4_allPulp l D cy sa (fun i => h (i + 3)) pulp beat sort z13 hz_13 _) (cwV 0 hts gX0_tell_X4_allPulp rfl rfl rfl (by decide +kernel) ⟨Nat.le_of_ble_eq_true rfl, Nat.le_of_ble_eq_true rfl⟩) hK hP hD hS hA hG [3, 4, 5, 6] hcX0_X4_3 ndX4_3 gtX4_0 rfl rfl rfl hl.1 [] rfl (Nat.le_of_ble_eq_true rfl) dX0_tell_99 ⟨(Nat.le_of_ble_eq_true rfl), (Nat.le_of_ble_eq_true rfl)⟩) hP hD hS hA [3, 4, 5, 6] hcX0_X4_3 (fun H locs hP hS => ?_)
                    cases hF
                    exact hQ _ _ _ _ _ _ (fun _ => 0) dX0_tell_102 hP hD hS (Nat.le_of_ble_eq_true rfl) (Nat.le_of_ble_eq_true rfl)

def fX0_tellPair (nM : Int32) (mark : FN) (size : FN) (worn : FN) (nT : Int32) (pair : FN) (a1 : Int32) (a2 : Int32) : Option (Int32) := if (a2.toInt < 0 ∨ 2 < a2.toInt) then (fX3_holderOf nT pair a1).bind fun z2 => some z2 else if a2.toInt = 0 then (fX1_markOf nM mark a1).bind fun z4 => some z4 else if a2.toInt = 1 then (fX1_sizeOf nM size a1).bind fun z6 => some z6 else (fX1_wornOf nM worn a1).bind fun z7 => some z7
abbrev rX0_tellPair : Room := { frames := 3, cells := 0, slots := 0, locals := 64 }
set_option maxHeartbeats 4000000 in
set_option maxRecDepth 100000 in
theorem kX0_tellPair (l : Launch) (D : va_G) (cy : Nat → ClassId) (sa : SAT) (h : Nat → Nat) (day : Int32) (coins : Int32) (felts : Int32) (made : Int32) (worth : Int32) (rags : FN) (water : FN) (pulp : FN) (beat : FN) (sort : FN) (nM : Int32) (mark : FN) (size : FN) (worn : FN) (nT : Int32) (skill : FN) (vat : FN) (pair : FN) (nQ : Int32) (allS : Int32) (pmark : FN) (pgrade : FN) (psheets : FN) (loft : FN) (a1 : Int32) (a2 : Int32) (z : Int32) (hF : fX0_tellPair nM mark size worn nT pair a1 a2 = some z) : KI l D (tyW cy) sa yX0_tellPair wsX0_tellPair rX0_tellPair [.ref (h 0), .int a1, .int a2] (wX0 cy h day coins felts made worth rags water pulp beat sort nM mark size worn nT skill vat pair nQ allS pmark pgrade psheets loft) z (fun _ => wX0 cy h day coins felts made worth rags water pulp beat sort nM mark size worn nT skill vat pair nQ allS pmark pgrade psheets loft) 0 0 := by
  refine KI.of (cc := cX0_tellPair) (maxL := 3) (by decide +kernel) rfl (Nat.le_of_ble_eq_true rfl) ?_
  intro p e s m args below meth c A ls Q hE hQ
  obtain ⟨hx, hb, hml, hown, hts, hA, hP, hK, hD, hG, hl, hnm⟩ := hE
  replace hown : s.vm.findClass RX0 = some m.cls := hown
  have hiX0 : ∀ w ∈ u_ws RX0 TX0 12, w ∈ wsX0_tellPair := by decide +kernel
  have hf44 : (Cond.fieldLink RX0 44 "RagVats$Mill" "moulds" "LRagVats$Moulds;").before args s = true := hts _ (by decide +kernel)
  have hf51 : (Cond.fieldLink RX0 51 "RagVats$Mill" "teams" "LRagVats$Teams;").before args s = true := hts _ (by decide +kernel)
  replace hl : lv_has ls 3 [(0, .ref (h 0)), (1, .int a1), (2, .int a2)] := hl
  have hS : va_S A s.heap s.heap [] := va_S.rf
  unfold fX0_tellPair at hF
  refine lv_iload_n hx hb dX0_tellPair_0 rfl (lv_at hl 2 rfl) ?_
  by_cases c_1 : a2.toInt < 0 ∨ 2 < a2.toInt
  · replace hF := if_t hF c_1
    refine lv_tableOut (tgt := 55) hx hb dX0_tellPair_1 c_1 (by decide) ?_
    refine lv_aload_n hx hb dX0_tellPair_55 rfl (lv_at hl 0 rfl) ?_
    refine va_get (D := D) (C := RX0) (T := TX0) (N := 12) hx hb hts hiX0 hown hK hP 0 gtX0_0 rfl 9 (by decide) hf51 (fun _ h9 => h9) rfl dX0_tellPair_56 ?_
    refine lv_iload_n hx hb dX0_tellPair_59 rfl (lv_at hl 1 rfl) ?_
    replace hF := bnd_some hF
    obtain ⟨z2, hz_2, hF⟩ := hF
    refine krI (kV (As := [.int a1]) ⟨hx, hb, hml, hown, hts⟩ (kX3_holderOf l D cy sa (fun i => h (i + 11)) nT skill vat pair a1 z2 hz_2 _) (cwV 1 hts gX0_tellPair_X3_holderOf rfl rfl rfl (by decide +kernel) ⟨Nat.le_of_ble_eq_true rfl, Nat.le_of_ble_eq_true rfl⟩) hK hP hD hS hA hG [11, 12, 13, 14] hcX0_X3_11 ndX3_11 gtX3_0 rfl rfl rfl hl.1 [] rfl (Nat.le_of_ble_eq_true rfl) dX0_tellPair_60 ⟨(Nat.le_of_ble_eq_true rfl), (Nat.le_of_ble_eq_true rfl)⟩) hP hD hS hA [11, 12, 13, 14] hcX0_X3_11 (fun H locs hP hS => ?_)
    cases hF
    exact hQ _ _ _ _ _ _ (fun _ => 0) dX0_tellPair_63 hP hD hS (Nat.le_of_ble_eq_true rfl) (Nat.le_of_ble_eq_true rfl)
  · replace hF := if_f hF c_1
    by_cases c_3 : a2.toInt = 0
    · replace hF := if_t hF c_3
      refine lv_tableIn (off := 27) (tgt := 28) hx hb dX0_tellPair_1 (fun h9 => c_1 (Or.inl h9)) (fun h9 => c_1 (Or.inr h9)) (by rw [c_3] <;> rfl) (by decide) ?_
      refine lv_aload_n hx hb dX0_tellPair_28 rfl (lv_at hl 0 rfl) ?_
      refine va_get (D := D) (C := RX0) (T := TX0) (N := 12) hx hb hts hiX0 hown hK hP 0 gtX0_0 rfl 8 (by decide) hf44 (fun _ h9 => h9) rfl dX0_tellPair_29 ?_
      refine lv_iload_n hx hb dX0_tellPair_32 rfl (lv_at hl 1 rfl) ?_
      replace hF := bnd_some hF
      obtain ⟨z4, hz_4, hF⟩ := hF
      refine krI (kV (As := [.int a1]) ⟨hx, hb, hml, hown, hts⟩ (kX1_markOf l D cy sa (fun i => h (i + 7)) nM mark size worn a1 z4 hz_4 _) (cwV 1 hts gX0_tellPair_X1_markOf rfl rfl rfl (by decide +kernel) ⟨Nat.le_of_ble_eq_true rfl, Nat.le_of_ble_eq_true rfl⟩) hK hP hD hS hA hG [7, 8, 9, 10] hcX0_X1_7 ndX1_7 gtX1_0 rfl rfl rfl hl.1 [] rfl (Nat.le_of_ble_eq_true rfl) dX0_tellPair_33 ⟨(Nat.le_of_ble_eq_true rfl), (Nat.le_of_ble_eq_true rfl)⟩) hP hD hS hA [7, 8, 9, 10] hcX0_X1_7 (fun H locs hP hS => ?_)
      cases hF
      exact hQ _ _ _ _ _ _ (fun _ => 0) dX0_tellPair_36 hP hD hS (Nat.le_of_ble_eq_true rfl) (Nat.le_of_ble_eq_true rfl)
    · replace hF := if_f hF c_3
      by_cases c_5 : a2.toInt = 1
      · replace hF := if_t hF c_5
        refine lv_tableIn (off := 36) (tgt := 37) hx hb dX0_tellPair_1 (fun h9 => c_1 (Or.inl h9)) (fun h9 => c_1 (Or.inr h9)) (by rw [c_5] <;> rfl) (by decide) ?_
        refine lv_aload_n hx hb dX0_tellPair_37 rfl (lv_at hl 0 rfl) ?_
        refine va_get (D := D) (C := RX0) (T := TX0) (N := 12) hx hb hts hiX0 hown hK hP 0 gtX0_0 rfl 8 (by decide) hf44 (fun _ h9 => h9) rfl dX0_tellPair_38 ?_
        refine lv_iload_n hx hb dX0_tellPair_41 rfl (lv_at hl 1 rfl) ?_
        replace hF := bnd_some hF
        obtain ⟨z6, hz_6, hF⟩ := hF
        refine krI (kV (As := [.int a1]) ⟨hx, hb, hml, hown, hts⟩ (kX1_sizeOf l D cy sa (fun i => h (i + 7)) nM mark size worn a1 z6 hz_6 _) (cwV 1 hts gX0_tellPair_X1_sizeOf rfl rfl rfl (by decide +kernel) ⟨Nat.le_of_ble_eq_true rfl, Nat.le_of_ble_eq_true rfl⟩) hK hP hD hS hA hG [7, 8, 9, 10] hcX0_X1_7 ndX1_7 gtX1_0 rfl rfl rfl hl.1 [] rfl (Nat.le_of_ble_eq_true rfl) dX0_tellPair_42 ⟨(Nat.le_of_ble_eq_true rfl), (Nat.le_of_ble_eq_true rfl)⟩) hP hD hS hA [7, 8, 9, 10] hcX0_X1_7 (fun H locs hP hS => ?_)
        cases hF
        exact hQ _ _ _ _ _ _ (fun _ => 0) dX0_tellPair_45 hP hD hS (Nat.le_of_ble_eq_true rfl) (Nat.le_of_ble_eq_true rfl)
      · replace hF := if_f hF c_5
        refine lv_tableIn (off := 45) (tgt := 46) hx hb dX0_tellPair_1 (fun h9 => c_1 (Or.inl h9)) (fun h9 => c_1 (Or.inr h9)) (by rw [show (a2).toInt = 2 by omega] <;> rfl) (by decide) ?_
        refine lv_aload_n hx hb dX0_tellPair_46 rfl (lv_at hl 0 rfl) ?_
        refine va_get (D := D) (C := RX0) (T := TX0) (N := 12) hx hb hts hiX0 hown hK hP 0 gtX0_0 rfl 8 (by decide) hf44 (fun _ h9 => h9) rfl dX0_tellPair_47 ?_
        refine lv_iload_n hx hb dX0_tellPair_50 rfl (lv_at hl 1 rfl) ?_
        replace hF := bnd_some hF
        obtain ⟨z7, hz_7, hF⟩ := hF
        refine krI (kV (As := [.int a1]) ⟨hx, hb, hml, hown, hts⟩ (kX1_wornOf l D cy sa (fun i => h (i + 7)) nM mark size worn a1 z7 hz_7 _) (cwV 1 hts gX0_tellPair_X1_wornOf rfl rfl rfl (by decide +kernel) ⟨Nat.le_of_ble_eq_true rfl, Nat.le_of_ble_eq_true rfl⟩) hK hP hD hS hA hG [7, 8, 9, 10] hcX0_X1_7 ndX1_7 gtX1_0 rfl rfl rfl hl.1 [] rfl (Nat.le_of_ble_eq_true rfl) dX0_tellPair_51 ⟨(Nat.le_of_ble_eq_true rfl), (Nat.le_of_ble_eq_true rfl)⟩) hP hD hS hA [7, 8, 9, 10] hcX0_X1_7 (fun H locs hP hS => ?_)
        cases hF
        exact hQ _ _ _ _ _ _ (fun _ => 0) dX0_tellPair_54 hP hD hS (Nat.le_of_ble_eq_true rfl) (Nat.le_of_ble_eq_true rfl)

def fX0_sheetsOf (felts : Int32) (pulp : FN) (beat : FN) (nM : Int32) (size : FN) (nT : Int32) (skill : FN) (vat : FN) (pair : FN) (allS : Int32) (a1 : Int32) : Option (Int32) := (fX3_vatOf nT vat a1).bind fun z1 => (fX3_pairOf nT pair a1).bind fun z2 => if z1 = (-1) then some 0 else if z2 = (-1) then some 0 else (fX4_beatOf beat z1).bind fun z5 => if 30 ≤ z5 then (fX1_sizeOf nM size z2).bind fun z7 => if 1 ≤ z7 then (fX3_skillOf nT skill a1).bind fun z9 => (fX0_freeFelts felts allS).bind fun z10 => (fX4_pulpOf pulp z1).bind fun z11 => ckZ z7 (some (if (z11 / z7) < (if z10 < z9 then z10 else z9) then (z11 / z7) else (if z10 < z9 then z10 else z9))) else some 0 else some 0
abbrev rX0_sheetsOf : Room := { frames := 2, cells := 0, slots := 0, locals := 42 }
set_option maxHeartbeats 4000000 in
set_option maxRecDepth 100000 in
theorem kX0_sheetsOf (l : Launch) (D : va_G) (cy : Nat → ClassId) (sa : SAT) (h : Nat → Nat) (day : Int32) (coins : Int32) (felts : Int32) (made : Int32) (worth : Int32) (rags : FN) (water : FN) (pulp : FN) (beat : FN) (sort : FN) (nM : Int32) (mark : FN) (size : FN) (worn : FN) (nT : Int32) (skill : FN) (vat : FN) (pair : FN) (nQ : Int32) (allS : Int32) (pmark : FN) (pgrade : FN) (psheets : FN) (loft : FN) (a1 : Int32) (z : Int32) (hF : fX0_sheetsOf felts pulp beat nM size nT skill vat pair allS a1 = some z) : KI l D (tyW cy) sa yX0_sheetsOf wsX0_sheetsOf rX0_sheetsOf [.ref (h 0), .int a1] (wX0 cy h day coins felts made worth rags water pulp beat sort nM mark size worn nT skill vat pair nQ allS pmark pgrade psheets loft) z (fun _ => wX0 cy h day coins felts made worth rags water pulp beat sort nM mark size worn nT skill vat pair nQ allS pmark pgrade psheets loft) 0 0 := by
  refine KI.of (cc := cX0_sheetsOf) (maxL := 6) (by decide +kernel) rfl (Nat.le_of_ble_eq_true rfl) ?_
  intro p e s m args below meth c A ls Q hE hQ
  obtain ⟨hx, hb, hml, hown, hts, hA, hP, hK, hD, hG, hl, hnm⟩ := hE
  replace hown : s.vm.findClass RX0 = some m.cls := hown
  have hiX0 : ∀ w ∈ u_ws RX0 TX0 12, w ∈ wsX0_sheetsOf := by decide +kernel
  have hf37 : (Cond.fieldLink RX0 37 "RagVats$Mill" "vats" "LRagVats$Vats;").before args s = true := hts _ (by decide +kernel)
  have hf44 : (Cond.fieldLink RX0 44 "RagVats$Mill" "moulds" "LRagVats$Moulds;").before args s = true := hts _ (by decide +kernel)
  have hf51 : (Cond.fieldLink RX0 51 "RagVats$Mill" "teams" "LRagVats$Teams;").before args s = true := hts _ (by decide +kernel)
  replace hl : lv_has ls 6 [(0, .ref (h 0)), (1, .int a1)] := hl
  have hS : va_S A s.heap s.heap [] := va_S.rf
  unfold fX0_sheetsOf at hF
  refine lv_aload_n hx hb dX0_sheetsOf_0 rfl (lv_at hl 0 rfl) ?_
  refine va_get (D := D) (C := RX0) (T := TX0) (N := 12) hx hb hts hiX0 hown hK hP 0 gtX0_0 rfl 9 (by decide) hf51 (fun _ h9 => h9) rfl dX0_sheetsOf_1 ?_
  refine lv_iload_n hx hb dX0_sheetsOf_4 rfl (lv_at hl 1 rfl) ?_
  replace hF := bnd_some hF
  obtain ⟨z1, hz_1, hF⟩ := hF
  refine krI (kV (As := [.int a1]) ⟨hx, hb, hml, hown, hts⟩ (kX3_vatOf l D cy sa (fun i => h (i + 11)) nT skill vat pair a1 z1 hz_1 _) (cwV 1 hts gX0_sheetsOf_X3_vatOf rfl rfl rfl (by decide +kernel) ⟨Nat.le_of_ble_eq_true rfl, Nat.le_of_ble_eq_true rfl⟩) hK hP hD hS hA hG [11, 12, 13, 14] hcX0_X3_11 ndX3_11 gtX3_0 rfl rfl rfl hl.1 [] rfl (Nat.le_of_ble_eq_true rfl) dX0_sheetsOf_5 ⟨(Nat.le_of_ble_eq_true rfl), (Nat.le_of_ble_eq_true rfl)⟩) hP hD hS hA [11, 12, 13, 14] hcX0_X3_11 (fun H locs hP hS => ?_)
  refine lv_istore_n (lv' := [(2, .int z1), (0, .ref (h 0)), (1, .int a1)]) hx hb dX0_sheetsOf_8 rfl hl (by decide) rfl (fun ls hl => ?_)
  refine lv_aload_n hx hb dX0_sheetsOf_9 rfl (lv_at hl 1 rfl) ?_
  refine va_get (D := D) (C := RX0) (T := TX0) (N := 12) hx hb hts hiX0 hown hK hP 0 gtX0_0 rfl 9 (by decide) hf51 (fun _ h9 => h9) rfl dX0_sheetsOf_10 ?_
  refine lv_iload_n hx hb dX0_sheetsOf_13 rfl (lv_at hl 2 rfl) ?_
  replace hF := bnd_some hF
  obtain ⟨z2, hz_2, hF⟩ := hF
  refine krI (kV (As := [.int a1]) ⟨hx, hb, hml, hown, hts⟩ (kX3_pairOf l D cy sa (fun i => h (i + 11)) nT skill vat pair a1 z2 hz_2 _) (cwV 1 hts gX0_sheetsOf_X3_pairOf rfl rfl rfl (by decide +kernel) ⟨Nat.le_of_ble_eq_true rfl, Nat.le_of_ble_eq_true rfl⟩) hK hP hD hS hA hG [11, 12, 13, 14] hcX0_X3_11 ndX3_11 gtX3_0 rfl rfl rfl hl.1 [] rfl (Nat.le_of_ble_eq_true rfl) dX0_sheetsOf_14 ⟨(Nat.le_of_ble_eq_true rfl), (Nat.le_of_ble_eq_true rfl)⟩) hP hD hS hA [11, 12, 13, 14] hcX0_X3_11 (fun H locs hP hS => ?_)
  refine lv_istore_n (lv' := [(3, .int z2), (2, .int z1), (0, .ref (h 0)), (1, .int a1)]) hx hb dX0_sheetsOf_17 rfl hl (by decide) rfl (fun ls hl => ?_)
  refine lv_iload_n hx hb dX0_sheetsOf_18 rfl (lv_at hl 1 rfl) ?_
  refine lv_iconst (v := -1) hx hb dX0_sheetsOf_19 (by decide) ?_
  refine lv_icmp_eq (tgt := 41) hx hb dX0_sheetsOf_20 (by decide) (fun c_3 => ?_) (fun c_3 => ?_)
  · replace hF := if_t hF c_3
    refine lv_iconst (v := 0) hx hb dX0_sheetsOf_41 (by decide) ?_
    cases hF
    exact hQ _ _ _ _ _ _ (fun _ => 0) dX0_sheetsOf_42 hP hD hS (Nat.le_of_ble_eq_true rfl) (Nat.le_of_ble_eq_true rfl)
  · replace hF := if_f hF c_3
    refine lv_iload_n hx hb dX0_sheetsOf_23 rfl (lv_at hl 0 rfl) ?_
    refine lv_iconst (v := -1) hx hb dX0_sheetsOf_24 (by decide) ?_
    refine lv_icmp_eq (tgt := 41) hx hb dX0_sheetsOf_25 (by decide) (fun c_4 => ?_) (fun c_4 => ?_)
    · replace hF := if_t hF c_4
      refine lv_iconst (v := 0) hx hb dX0_sheetsOf_41 (by decide) ?_
      cases hF
      exact hQ _ _ _ _ _ _ (fun _ => 0) dX0_sheetsOf_42 hP hD hS (Nat.le_of_ble_eq_true rfl) (Nat.le_of_ble_eq_true rfl)
    · replace hF := if_f hF c_4
      refine lv_aload_n hx hb dX0_sheetsOf_28 rfl (lv_at hl 2 rfl) ?_
      refine va_get (D := D) (C := RX0) (T := TX0) (N := 12) hx hb hts hiX0 hown hK hP 0 gtX0_0 rfl 7 (by decide) hf37 (fun _ h9 => h9) rfl dX0_sheetsOf_29 ?_
      refine lv_iload_n hx hb dX0_sheetsOf_32 rfl (lv_at hl 1 rfl) ?_
      replace hF := bnd_some hF
      obtain ⟨z5, hz_5, hF⟩ := hF
      refine krI (kV (As := [.int z1]) ⟨hx, hb, hml, hown, hts⟩ (kX4_beatOf l D cy sa (fun i => h (i + 3)) pulp beat sort z1 z5 hz_5 _) (cwV 1 hts gX0_sheetsOf_X4_beatOf rfl rfl rfl (by decide +kernel) ⟨Nat.le_of_ble_eq_true rfl, Nat.le_of_ble_eq_true rfl⟩) hK hP hD hS hA hG [3, 4, 5, 6] hcX0_X4_3 ndX4_3 gtX4_0 rfl rfl rfl hl.1 [] rfl (Nat.le_of_ble_eq_true rfl) dX0_sheetsOf_33 ⟨(Nat.le_of_ble_eq_true rfl), (Nat.le_of_ble_eq_true rfl)⟩) hP hD hS hA [3, 4, 5, 6] hcX0_X4_3 (fun H locs hP hS => ?_)
      refine lv_bipush (v := 30) hx hb dX0_sheetsOf_36 (by decide) ?_
      refine lv_icmp_ge (tgt := 43) hx hb dX0_sheetsOf_38 (by decide) (fun c_6 => ?_) (fun c_6 => ?_)
      · replace hF := if_t hF c_6
        refine lv_aload_n hx hb dX0_sheetsOf_43 rfl (lv_at hl 2 rfl) ?_
        refine va_get (D := D) (C := RX0) (T := TX0) (N := 12) hx hb hts hiX0 hown hK hP 0 gtX0_0 rfl 8 (by decide) hf44 (fun _ h9 => h9) rfl dX0_sheetsOf_44 ?_
        refine lv_iload_n hx hb dX0_sheetsOf_47 rfl (lv_at hl 0 rfl) ?_
        replace hF := bnd_some hF
        obtain ⟨z7, hz_7, hF⟩ := hF
        refine krI (kV (As := [.int z2]) ⟨hx, hb, hml, hown, hts⟩ (kX1_sizeOf l D cy sa (fun i => h (i + 7)) nM mark size worn z2 z7 hz_7 _) (cwV 1 hts gX0_sheetsOf_X1_sizeOf rfl rfl rfl (by decide +kernel) ⟨Nat.le_of_ble_eq_true rfl, Nat.le_of_ble_eq_true rfl⟩) hK hP hD hS hA hG [7, 8, 9, 10] hcX0_X1_7 ndX1_7 gtX1_0 rfl rfl rfl hl.1 [] rfl (Nat.le_of_ble_eq_true rfl) dX0_sheetsOf_48 ⟨(Nat.le_of_ble_eq_true rfl), (Nat.le_of_ble_eq_true rfl)⟩) hP hD hS hA [7, 8, 9, 10] hcX0_X1_7 (fun H locs hP hS => ?_)
        refine lv_istore (lv' := [(4, .int z7), (3, .int z2), (2, .int z1), (0, .ref (h 0)), (1, .int a1)]) hx hb dX0_sheetsOf_51 hl (by decide) rfl (fun ls hl => ?_)
        refine lv_iload hx hb dX0_sheetsOf_53 (lv_at hl 0 rfl) ?_
        refine lv_iconst (v := 1) hx hb dX0_sheetsOf_55 (by decide) ?_
        refine lv_icmp_ge (tgt := 61) hx hb dX0_sheetsOf_56 (by decide) (fun c_8 => ?_) (fun c_8 => ?_)
        · replace hF := if_t hF c_8
          refine lv_aload_n hx hb dX0_sheetsOf_61 rfl (lv_at hl 3 rfl) ?_
          refine va_get (D := D) (C := RX0) (T := TX0) (N := 12) hx hb hts hiX0 hown hK hP 0 gtX0_0 rfl 9 (by decide) hf51 (fun _ h9 => h9) rfl dX0_sheetsOf_62 ?_
          refine lv_iload_n hx hb dX0_sheetsOf_65 rfl (lv_at hl 4 rfl) ?_
          replace hF := bnd_some hF
          obtain ⟨z9, hz_9, hF⟩ := hF
          refine krI (kV (As := [.int a1]) ⟨hx, hb, hml, hown, hts⟩ (kX3_skillOf l D cy sa (fun i => h (i + 11)) nT skill vat pair a1 z9 hz_9 _) (cwV 1 hts gX0_sheetsOf_X3_skillOf rfl rfl rfl (by decide +kernel) ⟨Nat.le_of_ble_eq_true rfl, Nat.le_of_ble_eq_true rfl⟩) hK hP hD hS hA hG [11, 12, 13, 14] hcX0_X3_11 ndX3_11 gtX3_0 rfl rfl rfl hl.1 [] rfl (Nat.le_of_ble_eq_true rfl) dX0_sheetsOf_66 ⟨(Nat.le_of_ble_eq_true rfl), (Nat.le_of_ble_eq_true rfl)⟩) hP hD hS hA [11, 12, 13, 14] hcX0_X3_11 (fun H locs hP hS => ?_)
          refine lv_aload_n hx hb dX0_sheetsOf_69 rfl (lv_at hl 3 rfl) ?_
          replace hF := bnd_some hF
          obtain ⟨z10, hz_10, hF⟩ := hF
          refine krI (kV (As := []) ⟨hx, hb, hml, hown, hts⟩ (kX0_freeFelts l D cy sa h day coins felts made worth rags water pulp beat sort nM mark size worn nT skill vat pair nQ allS pmark pgrade psheets loft z10 hz_10 _) (cwV 0 hts gX0_sheetsOf_X0_freeFelts rfl rfl rfl (by decide +kernel) ⟨Nat.le_of_ble_eq_true rfl, Nat.le_of_ble_eq_true rfl⟩) hK hP hD hS hA hG [0, 1, 2, 3, 4, 5, 6, 7, 8, 9, 10, 11, 12, 13, 14, 15, 16, 17, 18, 19] hcX0_X0_0 ndX0_0 gtX0_0 rfl rfl rfl hl.1 [.int z9] rfl (Nat.le_of_ble_eq_true rfl) dX0_sheetsOf_70 ⟨(Nat.le_of_ble_eq_true rfl), (Nat.le_of_ble_eq_true rfl)⟩) hP hD hS hA [0, 1, 2, 3, 4, 5, 6, 7, 8, 9, 10, 11, 12, 13, 14, 15, 16, 17, 18, 19] hcX0_X0_0 (fun H locs hP hS => ?_)
          refine va_mmin hx hb (hml.trans hl.1.symm) hown (hts (.methodLink RX0 141 Lib.Math.min.name) (by decide +kernel)) (hts (.static Lib.Math.min.name) (by decide +kernel)) (hts (.initialized "java/lang/Math") (by decide +kernel)) (hts (.code Lib.Math.min.name Lib.Math.min.code 2 (some .int)) (by decide +kernel)) (Nat.le_of_ble_eq_true rfl) (Nat.le_of_ble_eq_true rfl) (Nat.le_of_ble_eq_true rfl) (Nat.le_of_ble_eq_true rfl) dX0_sheetsOf_73 ?_
          refine lv_istore (lv' := [(5, .int (if z10 < z9 then z10 else z9)), (4, .int z7), (3, .int z2), (2, .int z1), (0, .ref (h 0)), (1, .int a1)]) hx hb dX0_sheetsOf_76 hl (by decide) rfl (fun ls hl => ?_)
          refine lv_iload hx hb dX0_sheetsOf_78 (lv_at hl 0 rfl) ?_
          refine lv_aload_n hx hb dX0_sheetsOf_80 rfl (lv_at hl 4 rfl) ?_
          refine va_get (D := D) (C := RX0) (T := TX0) (N := 12) hx hb hts hiX0 hown hK hP 0 gtX0_0 rfl 7 (by decide) hf37 (fun _ h9 => h9) rfl dX0_sheetsOf_81 ?_
          refine lv_iload_n hx hb dX0_sheetsOf_84 rfl (lv_at hl 3 rfl) ?_
          replace hF := bnd_some hF
          obtain ⟨z11, hz_11, hF⟩ := hF
          refine krI (kV (As := [.int z1]) ⟨hx, hb, hml, hown, hts⟩ (kX4_pulpOf l D cy sa (fun i => h (i + 3)) pulp beat sort z1 z11 hz_11 _) (cwV 1 hts gX0_sheetsOf_X4_pulpOf rfl rfl rfl (by decide +kernel) ⟨Nat.le_of_ble_eq_true rfl, Nat.le_of_ble_eq_true rfl⟩) hK hP hD hS hA hG [3, 4, 5, 6] hcX0_X4_3 ndX4_3 gtX4_0 rfl rfl rfl hl.1 [.int (if z10 < z9 then z10 else z9)] rfl (Nat.le_of_ble_eq_true rfl) dX0_sheetsOf_85 ⟨(Nat.le_of_ble_eq_true rfl), (Nat.le_of_ble_eq_true rfl)⟩) hP hD hS hA [3, 4, 5, 6] hcX0_X4_3 (fun H locs hP hS => ?_)
          refine lv_iload hx hb dX0_sheetsOf_88 (lv_at hl 1 rfl) ?_
          replace hF := ckZ_some hF
          obtain ⟨hz_12, hF⟩ := hF
          refine lv_idiv hx hb dX0_sheetsOf_90 hz_12 ?_
          refine va_mmin hx hb (hml.trans hl.1.symm) hown (hts (.methodLink RX0 141 Lib.Math.min.name) (by decide +kernel)) (hts (.static Lib.Math.min.name) (by decide +kernel)) (hts (.initialized "java/lang/Math") (by decide +kernel)) (hts (.code Lib.Math.min.name Lib.Math.min.code 2 (some .int)) (by decide +kernel)) (Nat.le_of_ble_eq_true rfl) (Nat.le_of_ble_eq_true rfl) (Nat.le_of_ble_eq_true rfl) (Nat.le_of_ble_eq_true rfl) dX0_sheetsOf_91 ?_
          cases hF
          exact hQ _ _ _ _ _ _ (fun _ => 0) dX0_sheetsOf_94 hP hD hS (Nat.le_of_ble_eq_true rfl) (Nat.le_of_ble_eq_true rfl)
        · replace hF := if_f hF c_8
          refine lv_iconst (v := 0) hx hb dX0_sheetsOf_59 (by decide) ?_
          cases hF
          exact hQ _ _ _ _ _ _ (fun _ => 0) dX0_sheetsOf_60 hP hD hS (Nat.le_of_ble_eq_true rfl) (Nat.le_of_ble_eq_true rfl)
      · replace hF := if_f hF c_6
        refine lv_iconst (v := 0) hx hb dX0_sheetsOf_41 (by decide) ?_
        cases hF
        exact hQ _ _ _ _ _ _ (fun _ => 0) dX0_sheetsOf_42 hP hD hS (Nat.le_of_ble_eq_true rfl) (Nat.le_of_ble_eq_true rfl)

def fX0_tellTeam (felts : Int32) (pulp : FN) (beat : FN) (nM : Int32) (size : FN) (nT : Int32) (skill : FN) (vat : FN) (pair : FN) (allS : Int32) (a1 : Int32) (a2 : Int32) : Option (Int32) := if (a2.toInt < 0 ∨ 2 < a2.toInt) then (fX0_sheetsOf felts pulp beat nM size nT skill vat pair allS a1).bind fun z2 => some z2 else if a2.toInt = 0 then (fX3_skillOf nT skill a1).bind fun z4 => some z4 else if a2.toInt = 1 then (fX3_vatOf nT vat a1).bind fun z6 => some z6 else (fX3_pairOf nT pair a1).bind fun z7 => some z7
abbrev rX0_tellTeam : Room := { frames := 3, cells := 0, slots := 0, locals := 67 }
set_option maxHeartbeats 4000000 in
set_option maxRecDepth 100000 in
theorem kX0_tellTeam (l : Launch) (D : va_G) (cy : Nat → ClassId) (sa : SAT) (h : Nat → Nat) (day : Int32) (coins : Int32) (felts : Int32) (made : Int32) (worth : Int32) (rags : FN) (water : FN) (pulp : FN) (beat : FN) (sort : FN) (nM : Int32) (mark : FN) (size : FN) (worn : FN) (nT : Int32) (skill : FN) (vat : FN) (pair : FN) (nQ : Int32) (allS : Int32) (pmark : FN) (pgrade : FN) (psheets : FN) (loft : FN) (a1 : Int32) (a2 : Int32) (z : Int32) (hF : fX0_tellTeam felts pulp beat nM size nT skill vat pair allS a1 a2 = some z) : KI l D (tyW cy) sa yX0_tellTeam wsX0_tellTeam rX0_tellTeam [.ref (h 0), .int a1, .int a2] (wX0 cy h day coins felts made worth rags water pulp beat sort nM mark size worn nT skill vat pair nQ allS pmark pgrade psheets loft) z (fun _ => wX0 cy h day coins felts made worth rags water pulp beat sort nM mark size worn nT skill vat pair nQ allS pmark pgrade psheets loft) 0 0 := by
  refine KI.of (cc := cX0_tellTeam) (maxL := 3) (by decide +kernel) rfl (Nat.le_of_ble_eq_true rfl) ?_
  intro p e s m args below meth c A ls Q hE hQ
  obtain ⟨hx, hb, hml, hown, hts, hA, hP, hK, hD, hG, hl, hnm⟩ := hE
  replace hown : s.vm.findClass RX0 = some m.cls := hown
  have hiX0 : ∀ w ∈ u_ws RX0 TX0 12, w ∈ wsX0_tellTeam := by decide +kernel
  have hf51 : (Cond.fieldLink RX0 51 "RagVats$Mill" "teams" "LRagVats$Teams;").before args s = true := hts _ (by decide +kernel)
  replace hl : lv_has ls 3 [(0, .ref (h 0)), (1, .int a1), (2, .int a2)] := hl
  have hS : va_S A s.heap s.heap [] := va_S.rf
  unfold fX0_tellTeam at hF
  refine lv_iload_n hx hb dX0_tellTeam_0 rfl (lv_at hl 2 rfl) ?_
  by_cases c_1 : a2.toInt < 0 ∨ 2 < a2.toInt
  · replace hF := if_t hF c_1
    refine lv_tableOut (tgt := 55) hx hb dX0_tellTeam_1 c_1 (by decide) ?_
    refine lv_aload_n hx hb dX0_tellTeam_55 rfl (lv_at hl 0 rfl) ?_
    refine lv_iload_n hx hb dX0_tellTeam_56 rfl (lv_at hl 1 rfl) ?_
    replace hF := bnd_some hF
    obtain ⟨z2, hz_2, hF⟩ := hF
    refine krI (kV (As := [.int a1]) ⟨hx, hb, hml, hown, hts⟩ (kX0_sheetsOf l D cy sa h day coins felts made worth rags water pulp beat sort nM mark size worn nT skill vat pair nQ allS pmark pgrade psheets loft a1 z2 hz_2 _) (cwV 1 hts gX0_tellTeam_X0_sheetsOf rfl rfl rfl (by decide +kernel) ⟨Nat.le_of_ble_eq_true rfl, Nat.le_of_ble_eq_true rfl⟩) hK hP hD hS hA hG [0, 1, 2, 3, 4, 5, 6, 7, 8, 9, 10, 11, 12, 13, 14, 15, 16, 17, 18, 19] hcX0_X0_0 ndX0_0 gtX0_0 rfl rfl rfl hl.1 [] rfl (Nat.le_of_ble_eq_true rfl) dX0_tellTeam_57 ⟨(Nat.le_of_ble_eq_true rfl), (Nat.le_of_ble_eq_true rfl)⟩) hP hD hS hA [0, 1, 2, 3, 4, 5, 6, 7, 8, 9, 10, 11, 12, 13, 14, 15, 16, 17, 18, 19] hcX0_X0_0 (fun H locs hP hS => ?_)
    cases hF
    exact hQ _ _ _ _ _ _ (fun _ => 0) dX0_tellTeam_60 hP hD hS (Nat.le_of_ble_eq_true rfl) (Nat.le_of_ble_eq_true rfl)
  · replace hF := if_f hF c_1
    by_cases c_3 : a2.toInt = 0
    · replace hF := if_t hF c_3
      refine lv_tableIn (off := 27) (tgt := 28) hx hb dX0_tellTeam_1 (fun h9 => c_1 (Or.inl h9)) (fun h9 => c_1 (Or.inr h9)) (by rw [c_3] <;> rfl) (by decide) ?_
      refine lv_aload_n hx hb dX0_tellTeam_28 rfl (lv_at hl 0 rfl) ?_
      refine va_get (D := D) (C := RX0) (T := TX0) (N := 12) hx hb hts hiX0 hown hK hP 0 gtX0_0 rfl 9 (by decide) hf51 (fun _ h9 => h9) rfl dX0_tellTeam_29 ?_
      refine lv_iload_n hx hb dX0_tellTeam_32 rfl (lv_at hl 1 rfl) ?_
      replace hF := bnd_some hF
      obtain ⟨z4, hz_4, hF⟩ := hF
      refine krI (kV (As := [.int a1]) ⟨hx, hb, hml, hown, hts⟩ (kX3_skillOf l D cy sa (fun i => h (i + 11)) nT skill vat pair a1 z4 hz_4 _) (cwV 1 hts gX0_tellTeam_X3_skillOf rfl rfl rfl (by decide +kernel) ⟨Nat.le_of_ble_eq_true rfl, Nat.le_of_ble_eq_true rfl⟩) hK hP hD hS hA hG [11, 12, 13, 14] hcX0_X3_11 ndX3_11 gtX3_0 rfl rfl rfl hl.1 [] rfl (Nat.le_of_ble_eq_true rfl) dX0_tellTeam_33 ⟨(Nat.le_of_ble_eq_true rfl), (Nat.le_of_ble_eq_true rfl)⟩) hP hD hS hA [11, 12, 13, 14] hcX0_X3_11 (fun H locs hP hS => ?_)
      cases hF
      exact hQ _ _ _ _ _ _ (fun _ => 0) dX0_tellTeam_36 hP hD hS (Nat.le_of_ble_eq_true rfl) (Nat.le_of_ble_eq_true rfl)
    · replace hF := if_f hF c_3
      by_cases c_5 : a2.toInt = 1
      · replace hF := if_t hF c_5
        refine lv_tableIn (off := 36) (tgt := 37) hx hb dX0_tellTeam_1 (fun h9 => c_1 (Or.inl h9)) (fun h9 => c_1 (Or.inr h9)) (by rw [c_5] <;> rfl) (by decide) ?_
        refine lv_aload_n hx hb dX0_tellTeam_37 rfl (lv_at hl 0 rfl) ?_
        refine va_get (D := D) (C := RX0) (T := TX0) (N := 12) hx hb hts hiX0 hown hK hP 0 gtX0_0 rfl 9 (by decide) hf51 (fun _ h9 => h9) rfl dX0_tellTeam_38 ?_
        refine lv_iload_n hx hb dX0_tellTeam_41 rfl (lv_at hl 1 rfl) ?_
        replace hF := bnd_some hF
        obtain ⟨z6, hz_6, hF⟩ := hF
        refine krI (kV (As := [.int a1]) ⟨hx, hb, hml, hown, hts⟩ (kX3_vatOf l D cy sa (fun i => h (i + 11)) nT skill vat pair a1 z6 hz_6 _) (cwV 1 hts gX0_tellTeam_X3_vatOf rfl rfl rfl (by decide +kernel) ⟨Nat.le_of_ble_eq_true rfl, Nat.le_of_ble_eq_true rfl⟩) hK hP hD hS hA hG [11, 12, 13, 14] hcX0_X3_11 ndX3_11 gtX3_0 rfl rfl rfl hl.1 [] rfl (Nat.le_of_ble_eq_true rfl) dX0_tellTeam_42 ⟨(Nat.le_of_ble_eq_true rfl), (Nat.le_of_ble_eq_true rfl)⟩) hP hD hS hA [11, 12, 13, 14] hcX0_X3_11 (fun H locs hP hS => ?_)
        cases hF
        exact hQ _ _ _ _ _ _ (fun _ => 0) dX0_tellTeam_45 hP hD hS (Nat.le_of_ble_eq_true rfl) (Nat.le_of_ble_eq_true rfl)
      · replace hF := if_f hF c_5
        refine lv_tableIn (off := 45) (tgt := 46) hx hb dX0_tellTeam_1 (fun h9 => c_1 (Or.inl h9)) (fun h9 => c_1 (Or.inr h9)) (by rw [show (a2).toInt = 2 by omega] <;> rfl) (by decide) ?_
        refine lv_aload_n hx hb dX0_tellTeam_46 rfl (lv_at hl 0 rfl) ?_
        refine va_get (D := D) (C := RX0) (T := TX0) (N := 12) hx hb hts hiX0 hown hK hP 0 gtX0_0 rfl 9 (by decide) hf51 (fun _ h9 => h9) rfl dX0_tellTeam_47 ?_
        refine lv_iload_n hx hb dX0_tellTeam_50 rfl (lv_at hl 1 rfl) ?_
        replace hF := bnd_some hF
        obtain ⟨z7, hz_7, hF⟩ := hF
        refine krI (kV (As := [.int a1]) ⟨hx, hb, hml, hown, hts⟩ (kX3_pairOf l D cy sa (fun i => h (i + 11)) nT skill vat pair a1 z7 hz_7 _) (cwV 1 hts gX0_tellTeam_X3_pairOf rfl rfl rfl (by decide +kernel) ⟨Nat.le_of_ble_eq_true rfl, Nat.le_of_ble_eq_true rfl⟩) hK hP hD hS hA hG [11, 12, 13, 14] hcX0_X3_11 ndX3_11 gtX3_0 rfl rfl rfl hl.1 [] rfl (Nat.le_of_ble_eq_true rfl) dX0_tellTeam_51 ⟨(Nat.le_of_ble_eq_true rfl), (Nat.le_of_ble_eq_true rfl)⟩) hP hD hS hA [11, 12, 13, 14] hcX0_X3_11 (fun H locs hP hS => ?_)
        cases hF
        exact hQ _ _ _ _ _ _ (fun _ => 0) dX0_tellTeam_54 hP hD hS (Nat.le_of_ble_eq_true rfl) (Nat.le_of_ble_eq_true rfl)

def fX0_pointsOf (a1 : Int32) : Option (Int32) := (fX5_isBelow a1 3).bind fun z1 => if z1 = 0 then some 0 else ckI a1 3 (some (([6, 3, 0] : List Int32).getD a1.toNatClampNeg 0))
abbrev rX0_pointsOf : Room := { frames := 1, cells := 0, slots := 0, locals := 21 }
set_option maxHeartbeats 4000000 in
set_option maxRecDepth 100000 in
theorem kX0_pointsOf (l : Launch) (D : va_G) (cy : Nat → ClassId) (sa : SAT) (a1 : Int32) (z : Int32) (hF : fX0_pointsOf a1 = some z) : KI l D (tyW cy) sa yX0_pointsOf wsX0_pointsOf rX0_pointsOf [.int a1] (([] : va_W)) z (fun _ => ([] : va_W)) 0 0 := by
  refine KI.of (cc := cX0_pointsOf) (maxL := 1) (by decide +kernel) rfl (Nat.le_of_ble_eq_true rfl) ?_
  intro p e s m args below meth c A ls Q hE hQ
  obtain ⟨hx, hb, hml, hown, hts, hA, hP, hK, hD, hG, hl, hnm⟩ := hE
  replace hown : s.vm.findClass RX0 = some m.cls := hown
  have hn90 : va_Nw (.methodLinkNest RX0 90 yX5_isBelow "RagVats") s := hG.1.1 _ (by decide +kernel)
  have hn190 : (Cond.fieldLinkNest RX0 190 "RagVats" "SORT_POINTS" "[I" "RagVats").before args s = true := va_Nw.use rfl (hG.1.1 _ (by decide +kernel))
  replace hl : lv_has ls 1 [(0, .int a1)] := hl
  have hS : va_S A s.heap s.heap [] := va_S.rf
  unfold fX0_pointsOf at hF
  refine lv_iload_n hx hb dX0_pointsOf_0 rfl (lv_at hl 0 rfl) ?_
  refine lv_iconst (v := 3) hx hb dX0_pointsOf_1 (by decide) ?_
  replace hF := bnd_some hF
  obtain ⟨z1, hz_1, hF⟩ := hF
  refine krI (kSN (As := [.int a1, .int 3]) ⟨hx, hb, hml, hown, hts⟩ (kX5_isBelow l D cy sa a1 3 z1 hz_1 _) ⟨va_cnB (host := "RagVats") 2 hts gX0_pointsOf_X5_isBelow_n90 rfl rfl rfl hn90 (hts (.initialized RX5) (by decide +kernel)) (by decide +kernel) ⟨Nat.le_of_ble_eq_true rfl, Nat.le_of_ble_eq_true rfl⟩, hts (.static yX5_isBelow) (by decide +kernel), trivial⟩ hK hP hD hS hA hG [] rfl rfl rfl hl.1 [] rfl (Nat.le_of_ble_eq_true rfl) dX0_pointsOf_2 ⟨(Nat.le_of_ble_eq_true rfl), (Nat.le_of_ble_eq_true rfl)⟩) hP hD hS hA [] rfl (fun H locs hP hS => ?_)
  refine lv_if_eq (tgt := 16) hx hb dX0_pointsOf_5 (by decide) (fun c_2 => ?_) (fun c_2 => ?_)
  · replace hF := if_t hF c_2
    refine lv_iconst (v := 0) hx hb dX0_pointsOf_16 (by decide) ?_
    cases hF
    exact hQ _ _ _ _ _ _ (fun _ => 0) dX0_pointsOf_17 hP hD hS (Nat.le_of_ble_eq_true rfl) (Nat.le_of_ble_eq_true rfl)
  · replace hF := if_f hF c_2
    refine va_getsN (C := RX5) (n := "SORT_POINTS") (d := "[I") (host := "RagVats") hx hb hG.2.2.1.1 hS hown hn190 (fun _ h9 => h9) dX0_pointsOf_8 ?_
    refine lv_iload_n hx hb dX0_pointsOf_11 rfl (lv_at hl 0 rfl) ?_
    replace hF := ckI_some hF
    obtain ⟨hi_3, hF⟩ := hF
    refine va_ti (v := .int (([6, 3, 0] : List Int32).getD a1.toNatClampNeg 0)) hx hb hG.2.2.1.2 hS hi_3 rfl dX0_pointsOf_12 ?_
    refine lv_goto (tgt := 17) hx hb dX0_pointsOf_13 (by decide) ?_
    cases hF
    exact hQ _ _ _ _ _ _ (fun _ => 0) dX0_pointsOf_17 hP hD hS (Nat.le_of_ble_eq_true rfl) (Nat.le_of_ble_eq_true rfl)

def fX0_gradeOf (beat : FN) (sort : FN) (nM : Int32) (worn : FN) (a1 : Int32) (a2 : Int32) : Option (Int32) := (fX4_beatOf beat a1).bind fun z1 => (fX4_sortOf sort a1).bind fun z2 => (fX0_pointsOf z2).bind fun z3 => (fX1_wornOf nM worn a2).bind fun z4 => if (((z1 / 10) + z3) - (z4 / 10)) < 12 then if (((z1 / 10) + z3) - (z4 / 10)) < 7 then some 2 else some 1 else some 0
abbrev rX0_gradeOf : Room := { frames := 2, cells := 0, slots := 0, locals := 42 }
set_option maxHeartbeats 4000000 in
set_option maxRecDepth 100000 in
theorem kX0_gradeOf (l : Launch) (D : va_G) (cy : Nat → ClassId) (sa : SAT) (h : Nat → Nat) (day : Int32) (coins : Int32) (felts : Int32) (made : Int32) (worth : Int32) (rags : FN) (water : FN) (pulp : FN) (beat : FN) (sort : FN) (nM : Int32) (mark : FN) (size : FN) (worn : FN) (nT : Int32) (skill : FN) (vat : FN) (pair : FN) (nQ : Int32) (allS : Int32) (pmark : FN) (pgrade : FN) (psheets : FN) (loft : FN) (a1 : Int32) (a2 : Int32) (z : Int32) (hF : fX0_gradeOf beat sort nM worn a1 a2 = some z) : KI l D (tyW cy) sa yX0_gradeOf wsX0_gradeOf rX0_gradeOf [.ref (h 0), .int a1, .int a2] (wX0 cy h day coins felts made worth rags water pulp beat sort nM mark size worn nT skill vat pair nQ allS pmark pgrade psheets loft) z (fun _ => wX0 cy h day coins felts made worth rags water pulp beat sort nM mark size worn nT skill vat pair nQ allS pmark pgrade psheets loft) 0 0 := by
  refine KI.of (cc := cX0_gradeOf) (maxL := 4) (by decide +kernel) rfl (Nat.le_of_ble_eq_true rfl) ?_
  intro p e s m args below meth c A ls Q hE hQ
  obtain ⟨hx, hb, hml, hown, hts, hA, hP, hK, hD, hG, hl, hnm⟩ := hE
  replace hown : s.vm.findClass RX0 = some m.cls := hown
  have hiX0 : ∀ w ∈ u_ws RX0 TX0 12, w ∈ wsX0_gradeOf := by decide +kernel
  have hf37 : (Cond.fieldLink RX0 37 "RagVats$Mill" "vats" "LRagVats$Vats;").before args s = true := hts _ (by decide +kernel)
  have hf44 : (Cond.fieldLink RX0 44 "RagVats$Mill" "moulds" "LRagVats$Moulds;").before args s = true := hts _ (by decide +kernel)
  replace hl : lv_has ls 4 [(0, .ref (h 0)), (1, .int a1), (2, .int a2)] := hl
  have hS : va_S A s.heap s.heap [] := va_S.rf
  unfold fX0_gradeOf at hF
  refine lv_aload_n hx hb dX0_gradeOf_0 rfl (lv_at hl 0 rfl) ?_
  refine va_get (D := D) (C := RX0) (T := TX0) (N := 12) hx hb hts hiX0 hown hK hP 0 gtX0_0 rfl 7 (by decide) hf37 (fun _ h9 => h9) rfl dX0_gradeOf_1 ?_
  refine lv_iload_n hx hb dX0_gradeOf_4 rfl (lv_at hl 1 rfl) ?_
  replace hF := bnd_some hF
  obtain ⟨z1, hz_1, hF⟩ := hF
  refine krI (kV (As := [.int a1]) ⟨hx, hb, hml, hown, hts⟩ (kX4_beatOf l D cy sa (fun i => h (i + 3)) pulp beat sort a1 z1 hz_1 _) (cwV 1 hts gX0_gradeOf_X4_beatOf rfl rfl rfl (by decide +kernel) ⟨Nat.le_of_ble_eq_true rfl, Nat.le_of_ble_eq_true rfl⟩) hK hP hD hS hA hG [3, 4, 5, 6] hcX0_X4_3 ndX4_3 gtX4_0 rfl rfl rfl hl.1 [] rfl (Nat.le_of_ble_eq_true rfl) dX0_gradeOf_5 ⟨(Nat.le_of_ble_eq_true rfl), (Nat.le_of_ble_eq_true rfl)⟩) hP hD hS hA [3, 4, 5, 6] hcX0_X4_3 (fun H locs hP hS => ?_)
  refine lv_bipush (v := 10) hx hb dX0_gradeOf_8 (by decide) ?_
  refine lv_idiv hx hb dX0_gradeOf_10 (by decide) ?_
  refine lv_aload_n hx hb dX0_gradeOf_11 rfl (lv_at hl 0 rfl) ?_
  refine va_get (D := D) (C := RX0) (T := TX0) (N := 12) hx hb hts hiX0 hown hK hP 0 gtX0_0 rfl 7 (by decide) hf37 (fun _ h9 => h9) rfl dX0_gradeOf_12 ?_
  refine lv_iload_n hx hb dX0_gradeOf_15 rfl (lv_at hl 1 rfl) ?_
  replace hF := bnd_some hF
  obtain ⟨z2, hz_2, hF⟩ := hF
  refine krI (kV (As := [.int a1]) ⟨hx, hb, hml, hown, hts⟩ (kX4_sortOf l D cy sa (fun i => h (i + 3)) pulp beat sort a1 z2 hz_2 _) (cwV 1 hts gX0_gradeOf_X4_sortOf rfl rfl rfl (by decide +kernel) ⟨Nat.le_of_ble_eq_true rfl, Nat.le_of_ble_eq_true rfl⟩) hK hP hD hS hA hG [3, 4, 5, 6] hcX0_X4_3 ndX4_3 gtX4_0 rfl rfl rfl hl.1 [.int (z1 / 10)] rfl (Nat.le_of_ble_eq_true rfl) dX0_gradeOf_16 ⟨(Nat.le_of_ble_eq_true rfl), (Nat.le_of_ble_eq_true rfl)⟩) hP hD hS hA [3, 4, 5, 6] hcX0_X4_3 (fun H locs hP hS => ?_)
  replace hF := bnd_some hF
  obtain ⟨z3, hz_3, hF⟩ := hF
  refine krI (kS (As := [.int z2]) ⟨hx, hb, hml, hown, hts⟩ (kX0_pointsOf l D cy sa z2 z3 hz_3 _) (cwS 1 hts gX0_gradeOf_X0_pointsOf rfl rfl rfl (by decide +kernel) ⟨Nat.le_of_ble_eq_true rfl, Nat.le_of_ble_eq_true rfl⟩) hK hP hD hS hA hG [] rfl rfl rfl hl.1 [.int (z1 / 10)] rfl (Nat.le_of_ble_eq_true rfl) dX0_gradeOf_19 ⟨(Nat.le_of_ble_eq_true rfl), (Nat.le_of_ble_eq_true rfl)⟩) hP hD hS hA [] rfl (fun H locs hP hS => ?_)
  refine lv_iadd hx hb dX0_gradeOf_22 ?_
  refine lv_aload_n hx hb dX0_gradeOf_23 rfl (lv_at hl 0 rfl) ?_
  refine va_get (D := D) (C := RX0) (T := TX0) (N := 12) hx hb hts hiX0 hown hK hP 0 gtX0_0 rfl 8 (by decide) hf44 (fun _ h9 => h9) rfl dX0_gradeOf_24 ?_
  refine lv_iload_n hx hb dX0_gradeOf_27 rfl (lv_at hl 2 rfl) ?_
  replace hF := bnd_some hF
  obtain ⟨z4, hz_4, hF⟩ := hF
  refine krI (kV (As := [.int a2]) ⟨hx, hb, hml, hown, hts⟩ (kX1_wornOf l D cy sa (fun i => h (i + 7)) nM mark size worn a2 z4 hz_4 _) (cwV 1 hts gX0_gradeOf_X1_wornOf rfl rfl rfl (by decide +kernel) ⟨Nat.le_of_ble_eq_true rfl, Nat.le_of_ble_eq_true rfl⟩) hK hP hD hS hA hG [7, 8, 9, 10] hcX0_X1_7 ndX1_7 gtX1_0 rfl rfl rfl hl.1 [.int ((z1 / 10) + z3)] rfl (Nat.le_of_ble_eq_true rfl) dX0_gradeOf_28 ⟨(Nat.le_of_ble_eq_true rfl), (Nat.le_of_ble_eq_true rfl)⟩) hP hD hS hA [7, 8, 9, 10] hcX0_X1_7 (fun H locs hP hS => ?_)
  refine lv_bipush (v := 10) hx hb dX0_gradeOf_31 (by decide) ?_
  refine lv_idiv hx hb dX0_gradeOf_33 (by decide) ?_
  refine lv_isub hx hb dX0_gradeOf_34 ?_
  refine lv_istore_n (lv' := [(3, .int (((z1 / 10) + z3) - (z4 / 10))), (0, .ref (h 0)), (1, .int a1), (2, .int a2)]) hx hb dX0_gradeOf_35 rfl hl (by decide) rfl (fun ls hl => ?_)
  refine lv_iload_n hx hb dX0_gradeOf_36 rfl (lv_at hl 0 rfl) ?_
  refine lv_bipush (v := 12) hx hb dX0_gradeOf_37 (by decide) ?_
  refine lv_icmp_lt (tgt := 44) hx hb dX0_gradeOf_39 (by decide) (fun c_5 => ?_) (fun c_5 => ?_)
  · replace hF := if_t hF c_5
    refine lv_iload_n hx hb dX0_gradeOf_44 rfl (lv_at hl 0 rfl) ?_
    refine lv_bipush (v := 7) hx hb dX0_gradeOf_45 (by decide) ?_
    refine lv_icmp_lt (tgt := 54) hx hb dX0_gradeOf_47 (by decide) (fun c_6 => ?_) (fun c_6 => ?_)
    · replace hF := if_t hF c_6
      refine lv_iconst (v := 2) hx hb dX0_gradeOf_54 (by decide) ?_
      cases hF
      exact hQ _ _ _ _ _ _ (fun _ => 0) dX0_gradeOf_55 hP hD hS (Nat.le_of_ble_eq_true rfl) (Nat.le_of_ble_eq_true rfl)
    · replace hF := if_f hF c_6
      refine lv_iconst (v := 1) hx hb dX0_gradeOf_50 (by decide) ?_
      refine lv_goto (tgt := 55) hx hb dX0_gradeOf_51 (by decide) ?_
      cases hF
      exact hQ _ _ _ _ _ _ (fun _ => 0) dX0_gradeOf_55 hP hD hS (Nat.le_of_ble_eq_true rfl) (Nat.le_of_ble_eq_true rfl)
  · replace hF := if_f hF c_5
    refine lv_iconst (v := 0) hx hb dX0_gradeOf_42 (by decide) ?_
    cases hF
    exact hQ _ _ _ _ _ _ (fun _ => 0) dX0_gradeOf_43 hP hD hS (Nat.le_of_ble_eq_true rfl) (Nat.le_of_ble_eq_true rfl)

def fX0_makeSheets (felts : Int32) (made : Int32) (worth : Int32) (pulp : FN) (beat : FN) (sort : FN) (nM : Int32) (mark : FN) (size : FN) (worn : FN) (nT : Int32) (skill : FN) (vat : FN) (pair : FN) (nQ : Int32) (allS : Int32) (pmark : FN) (pgrade : FN) (psheets : FN) (a1 : Int32) : Option (Int32 × Int32 × FN × FN × FN × FN × Int32 × Int32 × FN × FN × FN) := (fX0_sheetsOf felts pulp beat nM size nT skill vat pair allS a1).bind fun z1 => if 1 ≤ z1 then (fX3_vatOf nT vat a1).bind fun z3 => (fX3_pairOf nT pair a1).bind fun z4 => (fX0_gradeOf beat sort nM worn z3 z4).bind fun z5 => (fX1_markOf nM mark z4).bind fun z6 => (fX2_add nQ allS pmark pgrade psheets z6 z5 z1).bind fun z7 => (fX5_worthOf z5).bind fun z8 => (fX1_sizeOf nM size z4).bind fun z9 => (fX4_takeOut pulp beat sort z3 (z1 * z9)).bind fun z10 => (fX1_wearBySheets nM worn z4 z1).bind fun z11 => some (made + z1, worth + (z1 * z8), z10.1, z10.2.1, z10.2.2, z11, z7.1, z7.2.1, z7.2.2.1, z7.2.2.2.1, z7.2.2.2.2) else some (made, worth, pulp, beat, sort, worn, nQ, allS, pmark, pgrade, psheets)
abbrev rX0_makeSheets : Room := { frames := 3, cells := 0, slots := 0, locals := 67 }
set_option maxHeartbeats 4000000 in
set_option maxRecDepth 100000 in
theorem kX0_makeSheets (l : Launch) (D : va_G) (cy : Nat → ClassId) (sa : SAT) (h : Nat → Nat) (day : Int32) (coins : Int32) (felts : Int32) (made : Int32) (worth : Int32) (rags : FN) (water : FN) (pulp : FN) (beat : FN) (sort : FN) (nM : Int32) (mark : FN) (size : FN) (worn : FN) (nT : Int32) (skill : FN) (vat : FN) (pair : FN) (nQ : Int32) (allS : Int32) (pmark : FN) (pgrade : FN) (psheets : FN) (loft : FN) (a1 : Int32) (z : Int32 × Int32 × FN × FN × FN × FN × Int32 × Int32 × FN × FN × FN) (hF : fX0_makeSheets felts made worth pulp beat sort nM mark size worn nT skill vat pair nQ allS pmark pgrade psheets a1 = some z) : KV l D (tyW cy) sa yX0_makeSheets wsX0_makeSheets rX0_makeSheets [.ref (h 0), .int a1] (wX0 cy h day coins felts made worth rags water pulp beat sort nM mark size worn nT skill vat pair nQ allS pmark pgrade psheets loft) (fun _ => wX0 cy h day coins felts z.1 z.2.1 rags water z.2.2.1 z.2.2.2.1 z.2.2.2.2.1 nM mark size z.2.2.2.2.2.1 nT skill vat pair z.2.2.2.2.2.2.1 z.2.2.2.2.2.2.2.1 z.2.2.2.2.2.2.2.2.1 z.2.2.2.2.2.2.2.2.2.1 z.2.2.2.2.2.2.2.2.2.2 loft) 0 0 := by
  refine KV.of (cc := cX0_makeSheets) (maxL := 6) (by decide +kernel) rfl (Nat.le_of_ble_eq_true rfl) ?_
  intro p e s m args below meth c A ls Q hE hQ
  obtain ⟨hx, hb, hml, hown, hts, hA, hP, hK, hD, hG, hl, hnm⟩ := hE
  replace hown : s.vm.findClass RX0 = some m.cls := hown
  have hiX0 : ∀ w ∈ u_ws RX0 TX0 12, w ∈ wsX0_makeSheets := by decide +kernel
  have hf21 : (Cond.fieldLink RX0 21 "RagVats$Mill" "made" "I").before args s = true := hts _ (by decide +kernel)
  have hf24 : (Cond.fieldLink RX0 24 "RagVats$Mill" "worth" "I").before args s = true := hts _ (by decide +kernel)
  have hf37 : (Cond.fieldLink RX0 37 "RagVats$Mill" "vats" "LRagVats$Vats;").before args s = true := hts _ (by decide +kernel)
  have hf44 : (Cond.fieldLink RX0 44 "RagVats$Mill" "moulds" "LRagVats$Moulds;").before args s = true := hts _ (by decide +kernel)
  have hf51 : (Cond.fieldLink RX0 51 "RagVats$Mill" "teams" "LRagVats$Teams;").before args s = true := hts _ (by decide +kernel)
  have hf58 : (Cond.fieldLink RX0 58 "RagVats$Mill" "posts" "LRagVats$Posts;").before args s = true := hts _ (by decide +kernel)
  have hn174 : va_Nw (.methodLinkNest RX0 174 yX5_worthOf "RagVats") s := hG.1.1 _ (by decide +kernel)
  replace hl : lv_has ls 6 [(0, .ref (h 0)), (1, .int a1)] := hl
  have hS : va_S A s.heap s.heap [] := va_S.rf
  unfold fX0_makeSheets at hF
  refine lv_aload_n hx hb dX0_makeSheets_0 rfl (lv_at hl 0 rfl) ?_
  refine lv_iload_n hx hb dX0_makeSheets_1 rfl (lv_at hl 1 rfl) ?_
  replace hF := bnd_some hF
  obtain ⟨z1, hz_1, hF⟩ := hF
  refine krI (kV (As := [.int a1]) ⟨hx, hb, hml, hown, hts⟩ (kX0_sheetsOf l D cy sa h day coins felts made worth rags water pulp beat sort nM mark size worn nT skill vat pair nQ allS pmark pgrade psheets loft a1 z1 hz_1 _) (cwV 1 hts gX0_makeSheets_X0_sheetsOf rfl rfl rfl (by decide +kernel) ⟨Nat.le_of_ble_eq_true rfl, Nat.le_of_ble_eq_true rfl⟩) hK hP hD hS hA hG [0, 1, 2, 3, 4, 5, 6, 7, 8, 9, 10, 11, 12, 13, 14, 15, 16, 17, 18, 19] hcX0_X0_0 ndX0_0 gtX0_0 rfl rfl rfl hl.1 [] rfl (Nat.le_of_ble_eq_true rfl) dX0_makeSheets_2 ⟨(Nat.le_of_ble_eq_true rfl), (Nat.le_of_ble_eq_true rfl)⟩) hP hD hS hA [0, 1, 2, 3, 4, 5, 6, 7, 8, 9, 10, 11, 12, 13, 14, 15, 16, 17, 18, 19] hcX0_X0_0 (fun H locs hP hS => ?_)
  refine lv_istore_n (lv' := [(2, .int z1), (0, .ref (h 0)), (1, .int a1)]) hx hb dX0_makeSheets_5 rfl hl (by decide) rfl (fun ls hl => ?_)
  refine lv_iload_n hx hb dX0_makeSheets_6 rfl (lv_at hl 0 rfl) ?_
  refine lv_iconst (v := 1) hx hb dX0_makeSheets_7 (by decide) ?_
  refine lv_icmp_ge (tgt := 12) hx hb dX0_makeSheets_8 (by decide) (fun c_2 => ?_) (fun c_2 => ?_)
  · replace hF := if_t hF c_2
    refine lv_aload_n hx hb dX0_makeSheets_12 rfl (lv_at hl 1 rfl) ?_
    refine va_get (D := D) (C := RX0) (T := TX0) (N := 12) hx hb hts hiX0 hown hK hP 0 gtX0_0 rfl 9 (by decide) hf51 (fun _ h9 => h9) rfl dX0_makeSheets_13 ?_
    refine lv_iload_n hx hb dX0_makeSheets_16 rfl (lv_at hl 2 rfl) ?_
    replace hF := bnd_some hF
    obtain ⟨z3, hz_3, hF⟩ := hF
    refine krI (kV (As := [.int a1]) ⟨hx, hb, hml, hown, hts⟩ (kX3_vatOf l D cy sa (fun i => h (i + 11)) nT skill vat pair a1 z3 hz_3 _) (cwV 1 hts gX0_makeSheets_X3_vatOf rfl rfl rfl (by decide +kernel) ⟨Nat.le_of_ble_eq_true rfl, Nat.le_of_ble_eq_true rfl⟩) hK hP hD hS hA hG [11, 12, 13, 14] hcX0_X3_11 ndX3_11 gtX3_0 rfl rfl rfl hl.1 [] rfl (Nat.le_of_ble_eq_true rfl) dX0_makeSheets_17 ⟨(Nat.le_of_ble_eq_true rfl), (Nat.le_of_ble_eq_true rfl)⟩) hP hD hS hA [11, 12, 13, 14] hcX0_X3_11 (fun H locs hP hS => ?_)
    refine lv_istore_n (lv' := [(3, .int z3), (2, .int z1), (0, .ref (h 0)), (1, .int a1)]) hx hb dX0_makeSheets_20 rfl hl (by decide) rfl (fun ls hl => ?_)
    refine lv_aload_n hx hb dX0_makeSheets_21 rfl (lv_at hl 2 rfl) ?_
    refine va_get (D := D) (C := RX0) (T := TX0) (N := 12) hx hb hts hiX0 hown hK hP 0 gtX0_0 rfl 9 (by decide) hf51 (fun _ h9 => h9) rfl dX0_makeSheets_22 ?_
    refine lv_iload_n hx hb dX0_makeSheets_25 rfl (lv_at hl 3 rfl) ?_
    replace hF := bnd_some hF
    obtain ⟨z4, hz_4, hF⟩ := hF
    refine krI (kV (As := [.int a1]) ⟨hx, hb, hml, hown, hts⟩ (kX3_pairOf l D cy sa (fun i => h (i + 11)) nT skill vat pair a1 z4 hz_4 _) (cwV 1 hts gX0_makeSheets_X3_pairOf rfl rfl rfl (by decide +kernel) ⟨Nat.le_of_ble_eq_true rfl, Nat.le_of_ble_eq_true rfl⟩) hK hP hD hS hA hG [11, 12, 13, 14] hcX0_X3_11 ndX3_11 gtX3_0 rfl rfl rfl hl.1 [] rfl (Nat.le_of_ble_eq_true rfl) dX0_makeSheets_26 ⟨(Nat.le_of_ble_eq_true rfl), (Nat.le_of_ble_eq_true rfl)⟩) hP hD hS hA [11, 12, 13, 14] hcX0_X3_11 (fun H locs hP hS => ?_)
    refine lv_istore (lv' := [(4, .int z4), (3, .int z3), (2, .int z1), (0, .ref (h 0)), (1, .int a1)]) hx hb dX0_makeSheets_29 hl (by decide) rfl (fun ls hl => ?_)
    refine lv_aload_n hx hb dX0_makeSheets_31 rfl (lv_at hl 3 rfl) ?_
    refine lv_iload_n hx hb dX0_makeSheets_32 rfl (lv_at hl 1 rfl) ?_
    refine lv_iload hx hb dX0_makeSheets_33 (lv_at hl 0 rfl) ?_
    replace hF := bnd_some hF
    obtain ⟨z5, hz_5, hF⟩ := hF
    refine krI (kV (As := [.int z3, .int z4]) ⟨hx, hb, hml, hown, hts⟩ (kX0_gradeOf l D cy sa h day coins felts made worth rags water pulp beat sort nM mark size worn nT skill vat pair nQ allS pmark pgrade psheets loft z3 z4 z5 hz_5 _) (cwV 2 hts gX0_makeSheets_X0_gradeOf rfl rfl rfl (by decide +kernel) ⟨Nat.le_of_ble_eq_true rfl, Nat.le_of_ble_eq_true rfl⟩) hK hP hD hS hA hG [0, 1, 2, 3, 4, 5, 6, 7, 8, 9, 10, 11, 12, 13, 14, 15, 16, 17, 18, 19] hcX0_X0_0 ndX0_0 gtX0_0 rfl rfl rfl hl.1 [] rfl (Nat.le_of_ble_eq_true rfl) dX0_makeSheets_35 ⟨(Nat.le_of_ble_eq_true rfl), (Nat.le_of_ble_eq_true rfl)⟩) hP hD hS hA [0, 1, 2, 3, 4, 5, 6, 7, 8, 9, 10, 11, 12, 13, 14, 15, 16, 17, 18, 19] hcX0_X0_0 (fun H locs hP hS => ?_)
    refine lv_istore (lv' := [(5, .int z5), (4, .int z4), (3, .int z3), (2, .int z1), (0, .ref (h 0)), (1, .int a1)]) hx hb dX0_makeSheets_38 hl (by decide) rfl (fun ls hl => ?_)
    refine lv_aload_n hx hb dX0_makeSheets_40 rfl (lv_at hl 4 rfl) ?_
    refine va_get (D := D) (C := RX0) (T := TX0) (N := 12) hx hb hts hiX0 hown hK hP 0 gtX0_0 rfl 10 (by decide) hf58 (fun _ h9 => h9) rfl dX0_makeSheets_41 ?_
    refine lv_aload_n hx hb dX0_makeSheets_44 rfl (lv_at hl 4 rfl) ?_
    refine va_get (D := D) (C := RX0) (T := TX0) (N := 12) hx hb hts hiX0 hown hK hP 0 gtX0_0 rfl 8 (by decide) hf44 (fun _ h9 => h9) rfl dX0_makeSheets_45 ?_
    refine lv_iload hx hb dX0_makeSheets_48 (lv_at hl 1 rfl) ?_
    replace hF := bnd_some hF
    obtain ⟨z6, hz_6, hF⟩ := hF
    refine krI (kV (As := [.int z4]) ⟨hx, hb, hml, hown, hts⟩ (kX1_markOf l D cy sa (fun i => h (i + 7)) nM mark size worn z4 z6 hz_6 _) (cwV 1 hts gX0_makeSheets_X1_markOf rfl rfl rfl (by decide +kernel) ⟨Nat.le_of_ble_eq_true rfl, Nat.le_of_ble_eq_true rfl⟩) hK hP hD hS hA hG [7, 8, 9, 10] hcX0_X1_7 ndX1_7 gtX1_0 rfl rfl rfl hl.1 [.ref (h 15)] rfl (Nat.le_of_ble_eq_true rfl) dX0_makeSheets_50 ⟨(Nat.le_of_ble_eq_true rfl), (Nat.le_of_ble_eq_true rfl)⟩) hP hD hS hA [7, 8, 9, 10] hcX0_X1_7 (fun H locs hP hS => ?_)
    refine lv_iload hx hb dX0_makeSheets_53 (lv_at hl 0 rfl) ?_
    refine lv_iload_n hx hb dX0_makeSheets_55 rfl (lv_at hl 3 rfl) ?_
    replace hF := bnd_some hF
    obtain ⟨z7, hz_7, hF⟩ := hF
    refine kwVE (kV (As := [.int z6, .int z5, .int z1]) ⟨hx, hb, hml, hown, hts⟩ (kX2_add l D cy sa (fun i => h (i + 15)) nQ allS pmark pgrade psheets z6 z5 z1 z7 hz_7 _) (cwV 3 hts gX0_makeSheets_X2_add rfl rfl rfl (by decide +kernel) ⟨Nat.le_of_ble_eq_true rfl, Nat.le_of_ble_eq_true rfl⟩) hK hP hD hS hA hG [15, 16, 17, 18] hcX0_X2_15 ndX2_15 gtX2_0 rfl rfl rfl hl.1 [] rfl (Nat.le_of_ble_eq_true rfl) dX0_makeSheets_56 ⟨(Nat.le_of_ble_eq_true rfl), (Nat.le_of_ble_eq_true rfl)⟩) hP hD hS hA [15, 16, 17, 18] hcX0_X2_15 hmX2 kpX0_X2_15 (fun H locs hP hD hS => ?_)
    refine lv_aload_n hx hb dX0_makeSheets_59 rfl (lv_at hl 4 rfl) ?_
    refine lv_dup hx hb dX0_makeSheets_60 rfl ?_
    refine va_get (D := D) (C := RX0) (T := TX0) (N := 12) hx hb hts hiX0 hown hK hP 0 gtX0_0 rfl 3 (by decide) hf21 (fun _ h9 => h9) rfl dX0_makeSheets_61 ?_
    refine lv_iload_n hx hb dX0_makeSheets_64 rfl (lv_at hl 3 rfl) ?_
    refine lv_iadd hx hb dX0_makeSheets_65 ?_
    refine va_put (D := D) (v := .int (made + z1)) (ty := .int) (C := RX0) (T := TX0) (N := 12) hx hb hts hiX0 tyX0 tyX0_ok nmX0 hown hK hP hD hS 0 gtX0_0 rfl 3 (by decide) hf21 (fun _ h9 => h9) rfl (by decide +kernel) rfl rfl (Nat.le_of_ble_eq_true rfl) dX0_makeSheets_66 (fun H locs hP hD hS => ?_)
    rw [stX0_0_3] at hP hD
    refine lv_aload_n hx hb dX0_makeSheets_69 rfl (lv_at hl 4 rfl) ?_
    refine lv_dup hx hb dX0_makeSheets_70 rfl ?_
    refine va_get (D := D) (C := RX0) (T := TX0) (N := 12) hx hb hts hiX0 hown hK hP 0 gtX0_0 rfl 4 (by decide) hf24 (fun _ h9 => h9) rfl dX0_makeSheets_71 ?_
    refine lv_iload_n hx hb dX0_makeSheets_74 rfl (lv_at hl 3 rfl) ?_
    refine lv_iload hx hb dX0_makeSheets_75 (lv_at hl 0 rfl) ?_
    replace hF := bnd_some hF
    obtain ⟨z8, hz_8, hF⟩ := hF
    refine krI (kSN (As := [.int z5]) ⟨hx, hb, hml, hown, hts⟩ (kX5_worthOf l D cy sa z5 z8 hz_8 _) ⟨va_cnB (host := "RagVats") 1 hts gX0_makeSheets_X5_worthOf_n174 rfl rfl rfl hn174 (hts (.initialized RX5) (by decide +kernel)) (by decide +kernel) ⟨Nat.le_of_ble_eq_true rfl, Nat.le_of_ble_eq_true rfl⟩, hts (.static yX5_worthOf) (by decide +kernel), trivial⟩ hK hP hD hS hA hG [] rfl rfl rfl hl.1 [.int z1, .int worth, .ref (h 0)] rfl (Nat.le_of_ble_eq_true rfl) dX0_makeSheets_77 ⟨(Nat.le_of_ble_eq_true rfl), (Nat.le_of_ble_eq_true rfl)⟩) hP hD hS hA [] rfl (fun H locs hP hS => ?_)
    refine lv_imul hx hb dX0_makeSheets_80 ?_
    refine lv_iadd hx hb dX0_makeSheets_81 ?_
    refine va_put (D := D) (v := .int (worth + (z1 * z8))) (ty := .int) (C := RX0) (T := TX0) (N := 12) hx hb hts hiX0 tyX0 tyX0_ok nmX0 hown hK hP hD hS 0 gtX0_0 rfl 4 (by decide) hf24 (fun _ h9 => h9) rfl (by decide +kernel) rfl rfl (Nat.le_of_ble_eq_true rfl) dX0_makeSheets_82 (fun H locs hP hD hS => ?_)
    rw [stX0_0_4] at hP hD
    refine lv_aload_n hx hb dX0_makeSheets_85 rfl (lv_at hl 4 rfl) ?_
    refine va_get (D := D) (C := RX0) (T := TX0) (N := 12) hx hb hts hiX0 hown hK hP 0 gtX0_0 rfl 7 (by decide) hf37 (fun _ h9 => h9) rfl dX0_makeSheets_86 ?_
    refine lv_iload_n hx hb dX0_makeSheets_89 rfl (lv_at hl 2 rfl) ?_
    refine lv_iload_n hx hb dX0_makeSheets_90 rfl (lv_at hl 3 rfl) ?_
    refine lv_aload_n hx hb dX0_makeSheets_91 rfl (lv_at hl 4 rfl) ?_
    refine va_get (D := D) (C := RX0) (T := TX0) (N := 12) hx hb hts hiX0 hown hK hP 0 gtX0_0 rfl 8 (by decide) hf44 (fun _ h9 => h9) rfl dX0_makeSheets_92 ?_
    refine lv_iload hx hb dX0_makeSheets_95 (lv_at hl 1 rfl) ?_
    replace hF := bnd_some hF
    obtain ⟨z9, hz_9, hF⟩ := hF
    refine krI (kV (As := [.int z4]) ⟨hx, hb, hml, hown, hts⟩ (kX1_sizeOf l D cy sa (fun i => h (i + 7)) nM mark size worn z4 z9 hz_9 _) (cwV 1 hts gX0_makeSheets_X1_sizeOf rfl rfl rfl (by decide +kernel) ⟨Nat.le_of_ble_eq_true rfl, Nat.le_of_ble_eq_true rfl⟩) hK hP hD hS hA hG [7, 8, 9, 10] hcX0_X1_7 ndX1_7 gtX1_0 rfl rfl rfl hl.1 [.int z1, .int z3, .ref (h 3)] rfl (Nat.le_of_ble_eq_true rfl) dX0_makeSheets_97 ⟨(Nat.le_of_ble_eq_true rfl), (Nat.le_of_ble_eq_true rfl)⟩) hP hD hS hA [7, 8, 9, 10] hcX0_X1_7 (fun H locs hP hS => ?_)
    refine lv_imul hx hb dX0_makeSheets_100 ?_
    replace hF := bnd_some hF
    obtain ⟨z10, hz_10, hF⟩ := hF
    refine kwVE (kV (As := [.int z3, .int (z1 * z9)]) ⟨hx, hb, hml, hown, hts⟩ (kX4_takeOut l D cy sa (fun i => h (i + 3)) pulp beat sort z3 (z1 * z9) z10 hz_10 _) (cwV 2 hts gX0_makeSheets_X4_takeOut rfl rfl rfl (by decide +kernel) ⟨Nat.le_of_ble_eq_true rfl, Nat.le_of_ble_eq_true rfl⟩) hK hP hD hS hA hG [3, 4, 5, 6] hcX0_X4_3 ndX4_3 gtX4_0 rfl rfl rfl hl.1 [] rfl (Nat.le_of_ble_eq_true rfl) dX0_makeSheets_101 ⟨(Nat.le_of_ble_eq_true rfl), (Nat.le_of_ble_eq_true rfl)⟩) hP hD hS hA [3, 4, 5, 6] hcX0_X4_3 hmX4 kpX0_X4_3 (fun H locs hP hD hS => ?_)
    refine lv_aload_n hx hb dX0_makeSheets_104 rfl (lv_at hl 4 rfl) ?_
    refine va_get (D := D) (C := RX0) (T := TX0) (N := 12) hx hb hts hiX0 hown hK hP 0 gtX0_0 rfl 8 (by decide) hf44 (fun _ h9 => h9) rfl dX0_makeSheets_105 ?_
    refine lv_iload hx hb dX0_makeSheets_108 (lv_at hl 1 rfl) ?_
    refine lv_iload_n hx hb dX0_makeSheets_110 rfl (lv_at hl 3 rfl) ?_
    replace hF := bnd_some hF
    obtain ⟨z11, hz_11, hF⟩ := hF
    refine kwVE (kV (As := [.int z4, .int z1]) ⟨hx, hb, hml, hown, hts⟩ (kX1_wearBySheets l D cy sa (fun i => h (i + 7)) nM mark size worn z4 z1 z11 hz_11 _) (cwV 2 hts gX0_makeSheets_X1_wearBySheets rfl rfl rfl (by decide +kernel) ⟨Nat.le_of_ble_eq_true rfl, Nat.le_of_ble_eq_true rfl⟩) hK hP hD hS hA hG [7, 8, 9, 10] hcX0_X1_7 ndX1_7 gtX1_0 rfl rfl rfl hl.1 [] rfl (Nat.le_of_ble_eq_true rfl) dX0_makeSheets_111 ⟨(Nat.le_of_ble_eq_true rfl), (Nat.le_of_ble_eq_true rfl)⟩) hP hD hS hA [7, 8, 9, 10] hcX0_X1_7 hmX1 kpX0_X1_7 (fun H locs hP hD hS => ?_)
    cases hF
    exact hQ _ _ _ _ _ _ (fun _ => 0) dX0_makeSheets_114 hP hD hS (Nat.le_of_ble_eq_true rfl) (Nat.le_of_ble_eq_true rfl)
  · replace hF := if_f hF c_2
    cases hF
    exact hQ _ _ _ _ _ _ (fun _ => 0) dX0_makeSheets_11 hP hD hS (Nat.le_of_ble_eq_true rfl) (Nat.le_of_ble_eq_true rfl)

def fX0_pressPosts_L5 (nQ : Int32) (pmark : FN) (pgrade : FN) : Nat → Int32 → FN → FN → Int32 → Int32 → Option (Int32 × Int32 × FN × FN × FN × FN)
  | 0, _, _, _, _, _ => none
  | k + 1, allS_5, psheets_5, loft_5, x1_5, x2_5 => if nQ ≤ x2_5 then (fX2_dropEmptyOnes nQ pmark pgrade psheets_5).bind fun z2 => some (z2.1, allS_5, z2.2.1, z2.2.2.1, z2.2.2.2, loft_5) else if x1_5 ≤ 0 then (fX2_dropEmptyOnes nQ pmark pgrade psheets_5).bind fun z4 => some (z4.1, allS_5, z4.2.1, z4.2.2.1, z4.2.2.2, loft_5) else (fX2_sheetsOf nQ psheets_5 x2_5).bind fun z5 => (fX2_markOf nQ pmark x2_5).bind fun z6 => (fX2_gradeOf nQ pgrade x2_5).bind fun z7 => (fX0_hang loft_5 z6 z7 (if z5 < x1_5 then z5 else x1_5)).bind fun z8 => (fX2_takeOff nQ allS_5 psheets_5 x2_5 (if z5 < x1_5 then z5 else x1_5)).bind fun z9 => fX0_pressPosts_L5 nQ pmark pgrade k z9.1 z9.2 z8 (x1_5 - (if z5 < x1_5 then z5 else x1_5)) (x2_5 + 1)
def fX0_pressPosts (nQ : Int32) (allS : Int32) (pmark : FN) (pgrade : FN) (psheets : FN) (loft : FN) : Option (Int32 × Int32 × FN × FN × FN × FN) := fX0_pressPosts_L5 nQ pmark pgrade 300 allS psheets loft 24 0
abbrev rX0_pressPosts : Room := { frames := 2, cells := 0, slots := 0, locals := 44 }
set_option maxHeartbeats 4000000 in
set_option maxRecDepth 100000 in
theorem kX0_pressPosts (l : Launch) (D : va_G) (cy : Nat → ClassId) (sa : SAT) (h : Nat → Nat) (day : Int32) (coins : Int32) (felts : Int32) (made : Int32) (worth : Int32) (rags : FN) (water : FN) (pulp : FN) (beat : FN) (sort : FN) (nM : Int32) (mark : FN) (size : FN) (worn : FN) (nT : Int32) (skill : FN) (vat : FN) (pair : FN) (nQ : Int32) (allS : Int32) (pmark : FN) (pgrade : FN) (psheets : FN) (loft : FN) (z : Int32 × Int32 × FN × FN × FN × FN) (hF : fX0_pressPosts nQ allS pmark pgrade psheets loft = some z) : KV l D (tyW cy) sa yX0_pressPosts wsX0_pressPosts rX0_pressPosts [.ref (h 0)] (wX0 cy h day coins felts made worth rags water pulp beat sort nM mark size worn nT skill vat pair nQ allS pmark pgrade psheets loft) (fun _ => wX0 cy h day coins felts made worth rags water pulp beat sort nM mark size worn nT skill vat pair z.1 z.2.1 z.2.2.1 z.2.2.2.1 z.2.2.2.2.1 z.2.2.2.2.2) 0 0 := by
  refine KV.of (cc := cX0_pressPosts) (maxL := 4) (by decide +kernel) rfl (Nat.le_of_ble_eq_true rfl) ?_
  intro p e s m args below meth c A ls Q hE hQ
  obtain ⟨hx, hb, hml, hown, hts, hA, hP, hK, hD, hG, hl, hnm⟩ := hE
  replace hown : s.vm.findClass RX0 = some m.cls := hown
  have hiX0 : ∀ w ∈ u_ws RX0 TX0 12, w ∈ wsX0_pressPosts := by decide +kernel
  have hiX2 : ∀ w ∈ u_ws RX2 TX2 5, w ∈ wsX0_pressPosts := by decide +kernel
  have hf58 : (Cond.fieldLink RX0 58 "RagVats$Mill" "posts" "LRagVats$Posts;").before args s = true := hts _ (by decide +kernel)
  have hn101 : (Cond.fieldLinkNest RX0 101 "RagVats$Posts" "number" "I" "RagVats").before args s = true := va_Nw.use rfl (hG.1.1 _ (by decide +kernel))
  replace hl : lv_has ls 4 [(0, .ref (h 0))] := hl
  have hS : va_S A s.heap s.heap [] := va_S.rf
  have L5 : ∀ (k : Nat) (allS_5 : Int32) (psheets_5 : FN) (loft_5 : FN) (x1_5 : Int32) (x2_5 : Int32), fX0_pressPosts_L5 nQ pmark pgrade k allS_5 psheets_5 loft_5 x1_5 x2_5 = some z → ∀ (H : Heap) (locs : List Loc) (ls : Array Slot), va_P D vwCl (wX0 cy h day coins felts made worth rags water pulp beat sort nM mark size worn nT skill vat pair nQ allS_5 pmark pgrade psheets_5 loft_5) H → va_D A (wX0 cy h day coins felts made worth rags water pulp beat sort nM mark size worn nT skill vat pair nQ allS_5 pmark pgrade psheets_5 loft_5) → va_S A s.heap H locs → lv_has ls 4 [(0, .ref (h 0)), (1, .int x1_5), (2, .int x2_5)] → W p l e rX0_pressPosts s m args below meth c H locs 0 0 Q (F0 m 5 ls []) := by
    intro k
    induction k with
    | zero =>
      intro allS_5 psheets_5 loft_5 x1_5 x2_5 hF
      rw [fX0_pressPosts_L5] at hF
      cases hF
    | succ k ih =>
      intro allS_5 psheets_5 loft_5 x1_5 x2_5 hF H locs ls hP hD hS hl
      rw [fX0_pressPosts_L5] at hF
      refine lv_iload_n hx hb dX0_pressPosts_5 rfl (lv_at hl 2 rfl) ?_
      refine lv_aload_n hx hb dX0_pressPosts_6 rfl (lv_at hl 0 rfl) ?_
      refine va_get (D := D) (C := RX0) (T := TX0) (N := 12) hx hb hts hiX0 hown hK hP 0 gtX0_0 rfl 10 (by decide) hf58 (fun _ h9 => h9) rfl dX0_pressPosts_7 ?_
      refine va_getN (host := "RagVats") (D := D) (C := RX2) (T := TX2) (N := 5) hx hb hts hiX2 hown hK hP 15 gtX0_15 rfl 0 (by decide) hn101 (fun _ h9 => h9) rfl dX0_pressPosts_10 ?_
      refine lv_icmp_ge (tgt := 73) hx hb dX0_pressPosts_13 (by decide) (fun c_1 => ?_) (fun c_1 => ?_)
      · replace hF := if_t hF c_1
        refine lv_aload_n hx hb dX0_pressPosts_73 rfl (lv_at hl 0 rfl) ?_
        refine va_get (D := D) (C := RX0) (T := TX0) (N := 12) hx hb hts hiX0 hown hK hP 0 gtX0_0 rfl 10 (by decide) hf58 (fun _ h9 => h9) rfl dX0_pressPosts_74 ?_
        replace hF := bnd_some hF
        obtain ⟨z2, hz_2, hF⟩ := hF
        refine kwVE (kV (As := []) ⟨hx, hb, hml, hown, hts⟩ (kX2_dropEmptyOnes l D cy sa (fun i => h (i + 15)) nQ allS_5 pmark pgrade psheets_5 z2 hz_2 _) (cwV 0 hts gX0_pressPosts_X2_dropEmptyOnes rfl rfl rfl (by decide +kernel) ⟨Nat.le_of_ble_eq_true rfl, Nat.le_of_ble_eq_true rfl⟩) hK hP hD hS hA hG [15, 16, 17, 18] hcX0_X2_15 ndX2_15 gtX2_0 rfl rfl rfl hl.1 [] rfl (Nat.le_of_ble_eq_true rfl) dX0_pressPosts_77 ⟨(Nat.le_of_ble_eq_true rfl), (Nat.le_of_ble_eq_true rfl)⟩) hP hD hS hA [15, 16, 17, 18] hcX0_X2_15 hmX2 kpX0_X2_15 (fun H locs hP hD hS => ?_)
        cases hF
        exact hQ _ _ _ _ _ _ (fun _ => 0) dX0_pressPosts_80 hP hD hS (Nat.le_of_ble_eq_true rfl) (Nat.le_of_ble_eq_true rfl)
      · replace hF := if_f hF c_1
        refine lv_iload_n hx hb dX0_pressPosts_16 rfl (lv_at hl 1 rfl) ?_
        refine lv_if_le (tgt := 73) hx hb dX0_pressPosts_17 (by decide) (fun c_3 => ?_) (fun c_3 => ?_)
        · replace hF := if_t hF c_3
          refine lv_aload_n hx hb dX0_pressPosts_73 rfl (lv_at hl 0 rfl) ?_
          refine va_get (D := D) (C := RX0) (T := TX0) (N := 12) hx hb hts hiX0 hown hK hP 0 gtX0_0 rfl 10 (by decide) hf58 (fun _ h9 => h9) rfl dX0_pressPosts_74 ?_
          replace hF := bnd_some hF
          obtain ⟨z4, hz_4, hF⟩ := hF
          refine kwVE (kV (As := []) ⟨hx, hb, hml, hown, hts⟩ (kX2_dropEmptyOnes l D cy sa (fun i => h (i + 15)) nQ allS_5 pmark pgrade psheets_5 z4 hz_4 _) (cwV 0 hts gX0_pressPosts_X2_dropEmptyOnes rfl rfl rfl (by decide +kernel) ⟨Nat.le_of_ble_eq_true rfl, Nat.le_of_ble_eq_true rfl⟩) hK hP hD hS hA hG [15, 16, 17, 18] hcX0_X2_15 ndX2_15 gtX2_0 rfl rfl rfl hl.1 [] rfl (Nat.le_of_ble_eq_true rfl) dX0_pressPosts_77 ⟨(Nat.le_of_ble_eq_true rfl), (Nat.le_of_ble_eq_true rfl)⟩) hP hD hS hA [15, 16, 17, 18] hcX0_X2_15 hmX2 kpX0_X2_15 (fun H locs hP hD hS => ?_)
          cases hF
          exact hQ _ _ _ _ _ _ (fun _ => 0) dX0_pressPosts_80 hP hD hS (Nat.le_of_ble_eq_true rfl) (Nat.le_of_ble_eq_true rfl)
        · replace hF := if_f hF c_3
          refine lv_iload_n hx hb dX0_pressPosts_20 rfl (lv_at hl 1 rfl) ?_
          refine lv_aload_n hx hb dX0_pressPosts_21 rfl (lv_at hl 0 rfl) ?_
          refine va_get (D := D) (C := RX0) (T := TX0) (N := 12) hx hb hts hiX0 hown hK hP 0 gtX0_0 rfl 10 (by decide) hf58 (fun _ h9 => h9) rfl dX0_pressPosts_22 ?_
          refine lv_iload_n hx hb dX0_pressPosts_25 rfl (lv_at hl 2 rfl) ?_
          replace hF := bnd_some hF
          obtain ⟨z5, hz_5, hF⟩ := hF
          refine krI (kV (As := [.int x2_5]) ⟨hx, hb, hml, hown, hts⟩ (kX2_sheetsOf l D cy sa (fun i => h (i + 15)) nQ allS_5 pmark pgrade psheets_5 x2_5 z5 hz_5 _) (cwV 1 hts gX0_pressPosts_X2_sheetsOf rfl rfl rfl (by decide +kernel) ⟨Nat.le_of_ble_eq_true rfl, Nat.le_of_ble_eq_true rfl⟩) hK hP hD hS hA hG [15, 16, 17, 18] hcX0_X2_15 ndX2_15 gtX2_0 rfl rfl rfl hl.1 [.int x1_5] rfl (Nat.le_of_ble_eq_true rfl) dX0_pressPosts_26 ⟨(Nat.le_of_ble_eq_true rfl), (Nat.le_of_ble_eq_true rfl)⟩) hP hD hS hA [15, 16, 17, 18] hcX0_X2_15 (fun H locs hP hS => ?_)
          refine va_mmin hx hb (hml.trans hl.1.symm) hown (hts (.methodLink RX0 141 Lib.Math.min.name) (by decide +kernel)) (hts (.static Lib.Math.min.name) (by decide +kernel)) (hts (.initialized "java/lang/Math") (by decide +kernel)) (hts (.code Lib.Math.min.name Lib.Math.min.code 2 (some .int)) (by decide +kernel)) (Nat.le_of_ble_eq_true rfl) (Nat.le_of_ble_eq_true rfl) (Nat.le_of_ble_eq_true rfl) (Nat.le_of_ble_eq_true rfl) dX0_pressPosts_29 ?_
          refine lv_istore_n (lv' := [(3, .int (if z5 < x1_5 then z5 else x1_5)), (0, .ref (h 0)), (1, .int x1_5), (2, .int x2_5)]) hx hb dX0_pressPosts_32 rfl hl (by decide) rfl (fun ls hl => ?_)
          refine lv_aload_n hx hb dX0_pressPosts_33 rfl (lv_at hl 1 rfl) ?_
          refine lv_aload_n hx hb dX0_pressPosts_34 rfl (lv_at hl 1 rfl) ?_
          refine va_get (D := D) (C := RX0) (T := TX0) (N := 12) hx hb hts hiX0 hown hK hP 0 gtX0_0 rfl 10 (by decide) hf58 (fun _ h9 => h9) rfl dX0_pressPosts_35 ?_
          refine lv_iload_n hx hb dX0_pressPosts_38 rfl (lv_at hl 3 rfl) ?_
          replace hF := bnd_some hF
          obtain ⟨z6, hz_6, hF⟩ := hF
          refine krI (kV (As := [.int x2_5]) ⟨hx, hb, hml, hown, hts⟩ (kX2_markOf l D cy sa (fun i => h (i + 15)) nQ allS_5 pmark pgrade psheets_5 x2_5 z6 hz_6 _) (cwV 1 hts gX0_pressPosts_X2_markOf rfl rfl rfl (by decide +kernel) ⟨Nat.le_of_ble_eq_true rfl, Nat.le_of_ble_eq_true rfl⟩) hK hP hD hS hA hG [15, 16, 17, 18] hcX0_X2_15 ndX2_15 gtX2_0 rfl rfl rfl hl.1 [.ref (h 0)] rfl (Nat.le_of_ble_eq_true rfl) dX0_pressPosts_39 ⟨(Nat.le_of_ble_eq_true rfl), (Nat.le_of_ble_eq_true rfl)⟩) hP hD hS hA [15, 16, 17, 18] hcX0_X2_15 (fun H locs hP hS => ?_)
          refine lv_aload_n hx hb dX0_pressPosts_42 rfl (lv_at hl 1 rfl) ?_
          refine va_get (D := D) (C := RX0) (T := TX0) (N := 12) hx hb hts hiX0 hown hK hP 0 gtX0_0 rfl 10 (by decide) hf58 (fun _ h9 => h9) rfl dX0_pressPosts_43 ?_
          refine lv_iload_n hx hb dX0_pressPosts_46 rfl (lv_at hl 3 rfl) ?_
          replace hF := bnd_some hF
          obtain ⟨z7, hz_7, hF⟩ := hF
          refine krI (kV (As := [.int x2_5]) ⟨hx, hb, hml, hown, hts⟩ (kX2_gradeOf l D cy sa (fun i => h (i + 15)) nQ allS_5 pmark pgrade psheets_5 x2_5 z7 hz_7 _) (cwV 1 hts gX0_pressPosts_X2_gradeOf rfl rfl rfl (by decide +kernel) ⟨Nat.le_of_ble_eq_true rfl, Nat.le_of_ble_eq_true rfl⟩) hK hP hD hS hA hG [15, 16, 17, 18] hcX0_X2_15 ndX2_15 gtX2_0 rfl rfl rfl hl.1 [.int z6, .ref (h 0)] rfl (Nat.le_of_ble_eq_true rfl) dX0_pressPosts_47 ⟨(Nat.le_of_ble_eq_true rfl), (Nat.le_of_ble_eq_true rfl)⟩) hP hD hS hA [15, 16, 17, 18] hcX0_X2_15 (fun H locs hP hS => ?_)
          refine lv_iload_n hx hb dX0_pressPosts_50 rfl (lv_at hl 0 rfl) ?_
          replace hF := bnd_some hF
          obtain ⟨z8, hz_8, hF⟩ := hF
          refine kwVE (kV (As := [.int z6, .int z7, .int (if z5 < x1_5 then z5 else x1_5)]) ⟨hx, hb, hml, hown, hts⟩ (kX0_hang l D cy sa h day coins felts made worth rags water pulp beat sort nM mark size worn nT skill vat pair nQ allS_5 pmark pgrade psheets_5 loft_5 z6 z7 (if z5 < x1_5 then z5 else x1_5) z8 hz_8 _) (cwV 3 hts gX0_pressPosts_X0_hang rfl rfl rfl (by decide +kernel) ⟨Nat.le_of_ble_eq_true rfl, Nat.le_of_ble_eq_true rfl⟩) hK hP hD hS hA hG [0, 1, 2, 3, 4, 5, 6, 7, 8, 9, 10, 11, 12, 13, 14, 15, 16, 17, 18, 19] hcX0_X0_0 ndX0_0 gtX0_0 rfl rfl rfl hl.1 [] rfl (Nat.le_of_ble_eq_true rfl) dX0_pressPosts_51 ⟨(Nat.le_of_ble_eq_true rfl), (Nat.le_of_ble_eq_true rfl)⟩) hP hD hS hA [0, 1, 2, 3, 4, 5, 6, 7, 8, 9, 10, 11, 12, 13, 14, 15, 16, 17, 18, 19] hcX0_X0_0 hmX0 kpX0_X0_0 (fun H locs hP hD hS => ?_)
          refine lv_aload_n hx hb dX0_pressPosts_54 rfl (lv_at hl 1 rfl) ?_
          refine va_get (D := D) (C := RX0) (T := TX0) (N := 12) hx hb hts hiX0 hown hK hP 0 gtX0_0 rfl 10 (by decide) hf58 (fun _ h9 => h9) rfl dX0_pressPosts_55 ?_
          refine lv_iload_n hx hb dX0_pressPosts_58 rfl (lv_at hl 3 rfl) ?_
          refine lv_iload_n hx hb dX0_pressPosts_59 rfl (lv_at hl 0 rfl) ?_
          replace hF := bnd_some hF
          obtain ⟨z9, hz_9, hF⟩ := hF
          refine kwVE (kV (As := [.int x2_5, .int (if z5 < x1_5 then z5 else x1_5)]) ⟨hx, hb, hml, hown, hts⟩ (kX2_takeOff l D cy sa (fun i => h (i + 15)) nQ allS_5 pmark pgrade psheets_5 x2_5 (if z5 < x1_5 then z5 else x1_5) z9 hz_9 _) (cwV 2 hts gX0_pressPosts_X2_takeOff rfl rfl rfl (by decide +kernel) ⟨Nat.le_of_ble_eq_true rfl, Nat.le_of_ble_eq_true rfl⟩) hK hP hD hS hA hG [15, 16, 17, 18] hcX0_X2_15 ndX2_15 gtX2_0 rfl rfl rfl hl.1 [] rfl (Nat.le_of_ble_eq_true rfl) dX0_pressPosts_60 ⟨(Nat.le_of_ble_eq_true rfl), (Nat.le_of_ble_eq_true rfl)⟩) hP hD hS hA [15, 16, 17, 18] hcX0_X2_15 hmX2 kpX0_X2_15 (fun H locs hP hD hS => ?_)
          refine lv_iload_n hx hb dX0_pressPosts_63 rfl (lv_at hl 2 rfl) ?_
          refine lv_iload_n hx hb dX0_pressPosts_64 rfl (lv_at hl 0 rfl) ?_
          refine lv_isub hx hb dX0_pressPosts_65 ?_
          refine lv_istore_n (lv' := [(1, .int (x1_5 - (if z5 < x1_5 then z5 else x1_5))), (3, .int (if z5 < x1_5 then z5 else x1_5)), (0, .ref (h 0)), (2, .int x2_5)]) hx hb dX0_pressPosts_66 rfl hl (by decide) rfl (fun ls hl => ?_)
          refine lv_iinc (v := x2_5 + 1) (lv' := [(2, .int (x2_5 + 1)), (1, .int (x1_5 - (if z5 < x1_5 then z5 else x1_5))), (3, .int (if z5 < x1_5 then z5 else x1_5)), (0, .ref (h 0))]) hx hb dX0_pressPosts_67 hl (k := 3) rfl rfl (by decide) rfl (fun ls hl => ?_)
          refine lv_goto (tgt := 5) hx hb dX0_pressPosts_70 (by decide) ?_
          exact ih  z9.1 z9.2 z8 (x1_5 - (if z5 < x1_5 then z5 else x1_5)) (x2_5 + 1)  hF _ _ _ hP hD hS (lv_sub hl [3, 1, 0] rfl)
  unfold fX0_pressPosts at hF
  refine lv_bipush (v := 24) hx hb dX0_pressPosts_0 (by decide) ?_
  refine lv_istore_n (lv' := [(1, .int 24), (0, .ref (h 0))]) hx hb dX0_pressPosts_2 rfl hl (by decide) rfl (fun ls hl => ?_)
  refine lv_iconst (v := 0) hx hb dX0_pressPosts_3 (by decide) ?_
  refine lv_istore_n (lv' := [(2, .int 0), (1, .int 24), (0, .ref (h 0))]) hx hb dX0_pressPosts_4 rfl hl (by decide) rfl (fun ls hl => ?_)
  exact L5 300 allS psheets loft 24 0  hF _ _ _ hP hD hS (lv_sub hl [2, 1, 0] rfl)

def fX0_liveDay_L23 (day : Int32) (felts : Int32) (nM : Int32) (mark : FN) (size : FN) (nT : Int32) (skill : FN) (vat : FN) (pair : FN) (loft : FN) : Nat → Int32 → Int32 → FN → FN → FN → FN → Int32 → Int32 → FN → FN → FN → Int32 → Option (Int32 × Int32 × Int32 × FN × FN × FN × FN × Int32 × Int32 × FN × FN × FN × FN)
  | 0, _, _, _, _, _, _, _, _, _, _, _, _ => none
  | k + 1, made_23, worth_23, pulp_23, beat_23, sort_23, worn_23, nQ_23, allS_23, pmark_23, pgrade_23, psheets_23, x1_23 => if nT ≤ x1_23 then (fX0_pressPosts nQ_23 allS_23 pmark_23 pgrade_23 psheets_23 loft).bind fun z5 => some (day + 1, made_23, worth_23, pulp_23, beat_23, sort_23, worn_23, z5.1, z5.2.1, z5.2.2.1, z5.2.2.2.1, z5.2.2.2.2.1, z5.2.2.2.2.2) else (fX0_makeSheets felts made_23 worth_23 pulp_23 beat_23 sort_23 nM mark size worn_23 nT skill vat pair nQ_23 allS_23 pmark_23 pgrade_23 psheets_23 x1_23).bind fun z6 => fX0_liveDay_L23 day felts nM mark size nT skill vat pair loft k z6.1 z6.2.1 z6.2.2.1 z6.2.2.2.1 z6.2.2.2.2.1 z6.2.2.2.2.2.1 z6.2.2.2.2.2.2.1 z6.2.2.2.2.2.2.2.1 z6.2.2.2.2.2.2.2.2.1 z6.2.2.2.2.2.2.2.2.2.1 z6.2.2.2.2.2.2.2.2.2.2 (x1_23 + 1)
def fX0_liveDay (day : Int32) (felts : Int32) (made : Int32) (worth : Int32) (water : FN) (pulp : FN) (beat : FN) (sort : FN) (nM : Int32) (mark : FN) (size : FN) (worn : FN) (nT : Int32) (skill : FN) (vat : FN) (pair : FN) (nQ : Int32) (allS : Int32) (pmark : FN) (pgrade : FN) (psheets : FN) (loft : FN) : Option (Int32 × Int32 × Int32 × FN × FN × FN × FN × Int32 × Int32 × FN × FN × FN × FN) := (fJ9_floorMod_7cf53 day 7).bind fun z1 => ckI z1 7 ((fX4_beatAll pulp beat (water z1.toNatClampNeg)).bind fun z3 => fX0_liveDay_L23 day felts nM mark size nT skill vat pair loft 300 made worth pulp z3 sort worn nQ allS pmark pgrade psheets 0)
abbrev rX0_liveDay : Room := { frames := 4, cells := 0, slots := 0, locals := 92 }
set_option maxHeartbeats 4000000 in
set_option maxRecDepth 100000 in
theorem kX0_liveDay (l : Launch) (D : va_G) (cy : Nat → ClassId) (sa : SAT) (h : Nat → Nat) (day : Int32) (coins : Int32) (felts : Int32) (made : Int32) (worth : Int32) (rags : FN) (water : FN) (pulp : FN) (beat : FN) (sort : FN) (nM : Int32) (mark : FN) (size : FN) (worn : FN) (nT : Int32) (skill : FN) (vat : FN) (pair : FN) (nQ : Int32) (allS : Int32) (pmark : FN) (pgrade : FN) (psheets : FN) (loft : FN) (z : Int32 × Int32 × Int32 × FN × FN × FN × FN × Int32 × Int32 × FN × FN × FN × FN) (hF : fX0_liveDay day felts made worth water pulp beat sort nM mark size worn nT skill vat pair nQ allS pmark pgrade psheets loft = some z) : KV l D (tyW cy) sa yX0_liveDay wsX0_liveDay rX0_liveDay [.ref (h 0)] (wX0 cy h day coins felts made worth rags water pulp beat sort nM mark size worn nT skill vat pair nQ allS pmark pgrade psheets loft) (fun _ => wX0 cy h z.1 coins felts z.2.1 z.2.2.1 rags water z.2.2.2.1 z.2.2.2.2.1 z.2.2.2.2.2.1 nM mark size z.2.2.2.2.2.2.1 nT skill vat pair z.2.2.2.2.2.2.2.1 z.2.2.2.2.2.2.2.2.1 z.2.2.2.2.2.2.2.2.2.1 z.2.2.2.2.2.2.2.2.2.2.1 z.2.2.2.2.2.2.2.2.2.2.2.1 z.2.2.2.2.2.2.2.2.2.2.2.2) 0 0 := by
  refine KV.of (cc := cX0_liveDay) (maxL := 2) (by decide +kernel) rfl (Nat.le_of_ble_eq_true rfl) ?_
  intro p e s m args below meth c A ls Q hE hQ
  obtain ⟨hx, hb, hml, hown, hts, hA, hP, hK, hD, hG, hl, hnm⟩ := hE
  replace hown : s.vm.findClass RX0 = some m.cls := hown
  have hiX0 : ∀ w ∈ u_ws RX0 TX0 12, w ∈ wsX0_liveDay := by decide +kernel
  have hiX3 : ∀ w ∈ u_ws RX3 TX3 4, w ∈ wsX0_liveDay := by decide +kernel
  have hf9 : (Cond.fieldLink RX0 9 "RagVats$Mill" "day" "I").before args s = true := hts _ (by decide +kernel)
  have hf31 : (Cond.fieldLink RX0 31 "RagVats$Mill" "water" "[I").before args s = true := hts _ (by decide +kernel)
  have hf37 : (Cond.fieldLink RX0 37 "RagVats$Mill" "vats" "LRagVats$Vats;").before args s = true := hts _ (by decide +kernel)
  have hf51 : (Cond.fieldLink RX0 51 "RagVats$Mill" "teams" "LRagVats$Teams;").before args s = true := hts _ (by decide +kernel)
  have hn160 : (Cond.fieldLinkNest RX0 160 "RagVats$Teams" "number" "I" "RagVats").before args s = true := va_Nw.use rfl (hG.1.1 _ (by decide +kernel))
  replace hl : lv_has ls 2 [(0, .ref (h 0))] := hl
  have hS : va_S A s.heap s.heap [] := va_S.rf
  have L23 : ∀ (k : Nat) (made_23 : Int32) (worth_23 : Int32) (pulp_23 : FN) (beat_23 : FN) (sort_23 : FN) (worn_23 : FN) (nQ_23 : Int32) (allS_23 : Int32) (pmark_23 : FN) (pgrade_23 : FN) (psheets_23 : FN) (x1_23 : Int32), fX0_liveDay_L23 day felts nM mark size nT skill vat pair loft k made_23 worth_23 pulp_23 beat_23 sort_23 worn_23 nQ_23 allS_23 pmark_23 pgrade_23 psheets_23 x1_23 = some z → ∀ (H : Heap) (locs : List Loc) (ls : Array Slot), va_P D vwCl (wX0 cy h day coins felts made_23 worth_23 rags water pulp_23 beat_23 sort_23 nM mark size worn_23 nT skill vat pair nQ_23 allS_23 pmark_23 pgrade_23 psheets_23 loft) H → va_D A (wX0 cy h day coins felts made_23 worth_23 rags water pulp_23 beat_23 sort_23 nM mark size worn_23 nT skill vat pair nQ_23 allS_23 pmark_23 pgrade_23 psheets_23 loft) → va_S A s.heap H locs → lv_has ls 2 [(0, .ref (h 0)), (1, .int x1_23)] → W p l e rX0_liveDay s m args below meth c H locs 0 0 Q (F0 m 23 ls []) := by
    intro k
    induction k with
    | zero =>
      intro made_23 worth_23 pulp_23 beat_23 sort_23 worn_23 nQ_23 allS_23 pmark_23 pgrade_23 psheets_23 x1_23 hF
      rw [fX0_liveDay_L23] at hF
      cases hF
    | succ k ih =>
      intro made_23 worth_23 pulp_23 beat_23 sort_23 worn_23 nQ_23 allS_23 pmark_23 pgrade_23 psheets_23 x1_23 hF H locs ls hP hD hS hl
      rw [fX0_liveDay_L23] at hF
      refine lv_iload_n hx hb dX0_liveDay_23 rfl (lv_at hl 1 rfl) ?_
      refine lv_aload_n hx hb dX0_liveDay_24 rfl (lv_at hl 0 rfl) ?_
      refine va_get (D := D) (C := RX0) (T := TX0) (N := 12) hx hb hts hiX0 hown hK hP 0 gtX0_0 rfl 9 (by decide) hf51 (fun _ h9 => h9) rfl dX0_liveDay_25 ?_
      refine va_getN (host := "RagVats") (D := D) (C := RX3) (T := TX3) (N := 4) hx hb hts hiX3 hown hK hP 11 gtX0_11 rfl 0 (by decide) hn160 (fun _ h9 => h9) rfl dX0_liveDay_28 ?_
      refine lv_icmp_ge (tgt := 45) hx hb dX0_liveDay_31 (by decide) (fun c_4 => ?_) (fun c_4 => ?_)
      · replace hF := if_t hF c_4
        refine lv_aload_n hx hb dX0_liveDay_45 rfl (lv_at hl 0 rfl) ?_
        replace hF := bnd_some hF
        obtain ⟨z5, hz_5, hF⟩ := hF
        refine kwVE (kV (As := []) ⟨hx, hb, hml, hown, hts⟩ (kX0_pressPosts l D cy sa h day coins felts made_23 worth_23 rags water pulp_23 beat_23 sort_23 nM mark size worn_23 nT skill vat pair nQ_23 allS_23 pmark_23 pgrade_23 psheets_23 loft z5 hz_5 _) (cwV 0 hts gX0_liveDay_X0_pressPosts rfl rfl rfl (by decide +kernel) ⟨Nat.le_of_ble_eq_true rfl, Nat.le_of_ble_eq_true rfl⟩) hK hP hD hS hA hG [0, 1, 2, 3, 4, 5, 6, 7, 8, 9, 10, 11, 12, 13, 14, 15, 16, 17, 18, 19] hcX0_X0_0 ndX0_0 gtX0_0 rfl rfl rfl hl.1 [] rfl (Nat.le_of_ble_eq_true rfl) dX0_liveDay_46 ⟨(Nat.le_of_ble_eq_true rfl), (Nat.le_of_ble_eq_true rfl)⟩) hP hD hS hA [0, 1, 2, 3, 4, 5, 6, 7, 8, 9, 10, 11, 12, 13, 14, 15, 16, 17, 18, 19] hcX0_X0_0 hmX0 kpX0_X0_0 (fun H locs hP hD hS => ?_)
        refine lv_aload_n hx hb dX0_liveDay_49 rfl (lv_at hl 0 rfl) ?_
        refine lv_dup hx hb dX0_liveDay_50 rfl ?_
        refine va_get (D := D) (C := RX0) (T := TX0) (N := 12) hx hb hts hiX0 hown hK hP 0 gtX0_0 rfl 0 (by decide) hf9 (fun _ h9 => h9) rfl dX0_liveDay_51 ?_
        refine lv_iconst (v := 1) hx hb dX0_liveDay_54 (by decide) ?_
        refine lv_iadd hx hb dX0_liveDay_55 ?_
        refine va_put (D := D) (v := .int (day + 1)) (ty := .int) (C := RX0) (T := TX0) (N := 12) hx hb hts hiX0 tyX0 tyX0_ok nmX0 hown hK hP hD hS 0 gtX0_0 rfl 0 (by decide) hf9 (fun _ h9 => h9) rfl (by decide +kernel) rfl rfl (Nat.le_of_ble_eq_true rfl) dX0_liveDay_56 (fun H locs hP hD hS => ?_)
        rw [stX0_0_0] at hP hD
        cases hF
        exact hQ _ _ _ _ _ _ (fun _ => 0) dX0_liveDay_59 hP hD hS (Nat.le_of_ble_eq_true rfl) (Nat.le_of_ble_eq_true rfl)
      · replace hF := if_f hF c_4
        refine lv_aload_n hx hb dX0_liveDay_34 rfl (lv_at hl 0 rfl) ?_
        refine lv_iload_n hx hb dX0_liveDay_35 rfl (lv_at hl 1 rfl) ?_
        replace hF := bnd_some hF
        obtain ⟨z6, hz_6, hF⟩ := hF
        refine kwVE (kV (As := [.int x1_23]) ⟨hx, hb, hml, hown, hts⟩ (kX0_makeSheets l D cy sa h day coins felts made_23 worth_23 rags water pulp_23 beat_23 sort_23 nM mark size worn_23 nT skill vat pair nQ_23 allS_23 pmark_23 pgrade_23 psheets_23 loft x1_23 z6 hz_6 _) (cwV 1 hts gX0_liveDay_X0_makeSheets rfl rfl rfl (by decide +kernel) ⟨Nat.le_of_ble_eq_true rfl, Nat.le_of_ble_eq_true rfl⟩) hK hP hD hS hA hG [0, 1, 2, 3, 4, 5, 6, 7, 8, 9, 10, 11, 12, 13, 14, 15, 16, 17, 18, 19] hcX0_X0_0 ndX0_0 gtX0_0 rfl rfl rfl hl.1 [] rfl (Nat.le_of_ble_eq_true rfl) dX0_liveDay_36 ⟨(Nat.le_of_ble_eq_true rfl), (Nat.le_of_ble_eq_true rfl)⟩) hP hD hS hA [0, 1, 2, 3, 4, 5, 6, 7, 8, 9, 10, 11, 12, 13, 14, 15, 16, 17, 18, 19] hcX0_X0_0 hmX0 kpX0_X0_0 (fun H locs hP hD hS => ?_)
        refine lv_iinc (v := x1_23 + 1) (lv' := [(1, .int (x1_23 + 1)), (0, .ref (h 0))]) hx hb dX0_liveDay_39 hl (k := 1) rfl rfl (by decide) rfl (fun ls hl => ?_)
        refine lv_goto (tgt := 23) hx hb dX0_liveDay_42 (by decide) ?_
        exact ih  z6.1 z6.2.1 z6.2.2.1 z6.2.2.2.1 z6.2.2.2.2.1 z6.2.2.2.2.2.1 z6.2.2.2.2.2.2.1 z6.2.2.2.2.2.2.2.1 z6.2.2.2.2.2.2.2.2.1 z6.2.2.2.2.2.2.2.2.2.1 z6.2.2.2.2.2.2.2.2.2.2 (x1_23 + 1)  hF _ _ _ hP hD hS (lv_sub hl [1, 0] rfl)
  unfold fX0_liveDay at hF
  refine lv_aload_n hx hb dX0_liveDay_0 rfl (lv_at hl 0 rfl) ?_
  refine va_get (D := D) (C := RX0) (T := TX0) (N := 12) hx hb hts hiX0 hown hK hP 0 gtX0_0 rfl 7 (by decide) hf37 (fun _ h9 => h9) rfl dX0_liveDay_1 ?_
  refine lv_aload_n hx hb dX0_liveDay_4 rfl (lv_at hl 0 rfl) ?_
  refine va_get (D := D) (C := RX0) (T := TX0) (N := 12) hx hb hts hiX0 hown hK hP 0 gtX0_0 rfl 6 (by decide) hf31 (fun _ h9 => h9) rfl dX0_liveDay_5 ?_
  refine lv_aload_n hx hb dX0_liveDay_8 rfl (lv_at hl 0 rfl) ?_
  refine va_get (D := D) (C := RX0) (T := TX0) (N := 12) hx hb hts hiX0 hown hK hP 0 gtX0_0 rfl 0 (by decide) hf9 (fun _ h9 => h9) rfl dX0_liveDay_9 ?_
  refine lv_bipush (v := 7) hx hb dX0_liveDay_12 (by decide) ?_
  replace hF := bnd_some hF
  obtain ⟨z1, hz_1, hF⟩ := hF
  refine krI (kS (As := [.int day, .int 7]) ⟨hx, hb, hml, hown, hts⟩ (kJ9_floorMod_7cf53 l D cy sa day 7 z1 hz_1 _) (va_cwS 2 hts gX0_liveDay_J9_floorMod_7cf53 rfl rfl rfl (by decide +kernel) ⟨Nat.le_of_ble_eq_true rfl, Nat.le_of_ble_eq_true rfl⟩) hK hP hD hS hA hG [] rfl rfl rfl hl.1 [.ref (h 2), .ref (h 3)] rfl (Nat.le_of_ble_eq_true rfl) dX0_liveDay_14 ⟨(Nat.le_of_ble_eq_true rfl), (Nat.le_of_ble_eq_true rfl)⟩) hP hD hS hA [] rfl (fun H locs hP hS => ?_)
  replace hF := ckI_some hF
  obtain ⟨hi_2, hF⟩ := hF
  refine va_iald hx hb hK hP 2 0 gtX0_2 rfl hi_2 dX0_liveDay_17 ?_
  replace hF := bnd_some hF
  obtain ⟨z3, hz_3, hF⟩ := hF
  refine kwVE (kV (As := [.int (water z1.toNatClampNeg)]) ⟨hx, hb, hml, hown, hts⟩ (kX4_beatAll l D cy sa (fun i => h (i + 3)) pulp beat sort (water z1.toNatClampNeg) z3 hz_3 _) (cwV 1 hts gX0_liveDay_X4_beatAll rfl rfl rfl (by decide +kernel) ⟨Nat.le_of_ble_eq_true rfl, Nat.le_of_ble_eq_true rfl⟩) hK hP hD hS hA hG [3, 4, 5, 6] hcX0_X4_3 ndX4_3 gtX4_0 rfl rfl rfl hl.1 [] rfl (Nat.le_of_ble_eq_true rfl) dX0_liveDay_18 ⟨(Nat.le_of_ble_eq_true rfl), (Nat.le_of_ble_eq_true rfl)⟩) hP hD hS hA [3, 4, 5, 6] hcX0_X4_3 hmX4 kpX0_X4_3 (fun H locs hP hD hS => ?_)
  refine lv_iconst (v := 0) hx hb dX0_liveDay_21 (by decide) ?_
  refine lv_istore_n (lv' := [(1, .int 0), (0, .ref (h 0))]) hx hb dX0_liveDay_22 rfl hl (by decide) rfl (fun ls hl => ?_)
  exact L23 300 made worth pulp z3 sort worn nQ allS pmark pgrade psheets 0  hF _ _ _ hP hD hS (lv_sub hl [1, 0] rfl)

def fX0_liveDays_L2 (felts : Int32) (water : FN) (nM : Int32) (mark : FN) (size : FN) (nT : Int32) (skill : FN) (vat : FN) (pair : FN) (a1 : Int32) : Nat → Int32 → Int32 → Int32 → FN → FN → FN → FN → Int32 → Int32 → FN → FN → FN → FN → Int32 → Option (Int32 × Int32 × Int32 × FN × FN × FN × FN × Int32 × Int32 × FN × FN × FN × FN)
  | 0, _, _, _, _, _, _, _, _, _, _, _, _, _, _ => none
  | k + 1, day_2, made_2, worth_2, pulp_2, beat_2, sort_2, worn_2, nQ_2, allS_2, pmark_2, pgrade_2, psheets_2, loft_2, x2_2 => if a1 ≤ x2_2 then some (day_2, made_2, worth_2, pulp_2, beat_2, sort_2, worn_2, nQ_2, allS_2, pmark_2, pgrade_2, psheets_2, loft_2) else (fX0_liveDay day_2 felts made_2 worth_2 water pulp_2 beat_2 sort_2 nM mark size worn_2 nT skill vat pair nQ_2 allS_2 pmark_2 pgrade_2 psheets_2 loft_2).bind fun z2 => fX0_liveDays_L2 felts water nM mark size nT skill vat pair a1 k z2.1 z2.2.1 z2.2.2.1 z2.2.2.2.1 z2.2.2.2.2.1 z2.2.2.2.2.2.1 z2.2.2.2.2.2.2.1 z2.2.2.2.2.2.2.2.1 z2.2.2.2.2.2.2.2.2.1 z2.2.2.2.2.2.2.2.2.2.1 z2.2.2.2.2.2.2.2.2.2.2.1 z2.2.2.2.2.2.2.2.2.2.2.2.1 z2.2.2.2.2.2.2.2.2.2.2.2.2 (x2_2 + 1)
def fX0_liveDays (day : Int32) (felts : Int32) (made : Int32) (worth : Int32) (water : FN) (pulp : FN) (beat : FN) (sort : FN) (nM : Int32) (mark : FN) (size : FN) (worn : FN) (nT : Int32) (skill : FN) (vat : FN) (pair : FN) (nQ : Int32) (allS : Int32) (pmark : FN) (pgrade : FN) (psheets : FN) (loft : FN) (a1 : Int32) : Option (Int32 × Int32 × Int32 × FN × FN × FN × FN × Int32 × Int32 × FN × FN × FN × FN) := fX0_liveDays_L2 felts water nM mark size nT skill vat pair a1 64 day made worth pulp beat sort worn nQ allS pmark pgrade psheets loft 0
abbrev rX0_liveDays : Room := { frames := 5, cells := 0, slots := 0, locals := 113 }
set_option maxHeartbeats 4000000 in
set_option maxRecDepth 100000 in
theorem kX0_liveDays (l : Launch) (D : va_G) (cy : Nat → ClassId) (sa : SAT) (h : Nat → Nat) (day : Int32) (coins : Int32) (felts : Int32) (made : Int32) (worth : Int32) (rags : FN) (water : FN) (pulp : FN) (beat : FN) (sort : FN) (nM : Int32) (mark : FN) (size : FN) (worn : FN) (nT : Int32) (skill : FN) (vat : FN) (pair : FN) (nQ : Int32) (allS : Int32) (pmark : FN) (pgrade : FN) (psheets : FN) (loft : FN) (a1 : Int32) (z : Int32 × Int32 × Int32 × FN × FN × FN × FN × Int32 × Int32 × FN × FN × FN × FN) (hF : fX0_liveDays day felts made worth water pulp beat sort nM mark size worn nT skill vat pair nQ allS pmark pgrade psheets loft a1 = some z) : KV l D (tyW cy) sa yX0_liveDays wsX0_liveDays rX0_liveDays [.ref (h 0), .int a1] (wX0 cy h day coins felts made worth rags water pulp beat sort nM mark size worn nT skill vat pair nQ allS pmark pgrade psheets loft) (fun _ => wX0 cy h z.1 coins felts z.2.1 z.2.2.1 rags water z.2.2.2.1 z.2.2.2.2.1 z.2.2.2.2.2.1 nM mark size z.2.2.2.2.2.2.1 nT skill vat pair z.2.2.2.2.2.2.2.1 z.2.2.2.2.2.2.2.2.1 z.2.2.2.2.2.2.2.2.2.1 z.2.2.2.2.2.2.2.2.2.2.1 z.2.2.2.2.2.2.2.2.2.2.2.1 z.2.2.2.2.2.2.2.2.2.2.2.2) 0 0 := by
  refine KV.of (cc := cX0_liveDays) (maxL := 3) (by decide +kernel) rfl (Nat.le_of_ble_eq_true rfl) ?_
  intro p e s m args below meth c A ls Q hE hQ
  obtain ⟨hx, hb, hml, hown, hts, hA, hP, hK, hD, hG, hl, hnm⟩ := hE
  replace hown : s.vm.findClass RX0 = some m.cls := hown
  replace hl : lv_has ls 3 [(0, .ref (h 0)), (1, .int a1)] := hl
  have hS : va_S A s.heap s.heap [] := va_S.rf
  have L2 : ∀ (k : Nat) (day_2 : Int32) (made_2 : Int32) (worth_2 : Int32) (pulp_2 : FN) (beat_2 : FN) (sort_2 : FN) (worn_2 : FN) (nQ_2 : Int32) (allS_2 : Int32) (pmark_2 : FN) (pgrade_2 : FN) (psheets_2 : FN) (loft_2 : FN) (x2_2 : Int32), fX0_liveDays_L2 felts water nM mark size nT skill vat pair a1 k day_2 made_2 worth_2 pulp_2 beat_2 sort_2 worn_2 nQ_2 allS_2 pmark_2 pgrade_2 psheets_2 loft_2 x2_2 = some z → ∀ (H : Heap) (locs : List Loc) (ls : Array Slot), va_P D vwCl (wX0 cy h day_2 coins felts made_2 worth_2 rags water pulp_2 beat_2 sort_2 nM mark size worn_2 nT skill vat pair nQ_2 allS_2 pmark_2 pgrade_2 psheets_2 loft_2) H → va_D A (wX0 cy h day_2 coins felts made_2 worth_2 rags water pulp_2 beat_2 sort_2 nM mark size worn_2 nT skill vat pair nQ_2 allS_2 pmark_2 pgrade_2 psheets_2 loft_2) → va_S A s.heap H locs → lv_has ls 3 [(0, .ref (h 0)), (1, .int a1), (2, .int x2_2)] → W p l e rX0_liveDays s m args below meth c H locs 0 0 Q (F0 m 2 ls []) := by
    intro k
    induction k with
    | zero =>
      intro day_2 made_2 worth_2 pulp_2 beat_2 sort_2 worn_2 nQ_2 allS_2 pmark_2 pgrade_2 psheets_2 loft_2 x2_2 hF
      rw [fX0_liveDays_L2] at hF
      cases hF
    | succ k ih =>
      intro day_2 made_2 worth_2 pulp_2 beat_2 sort_2 worn_2 nQ_2 allS_2 pmark_2 pgrade_2 psheets_2 loft_2 x2_2 hF H locs ls hP hD hS hl
      rw [fX0_liveDays_L2] at hF
      refine lv_iload_n hx hb dX0_liveDays_2 rfl (lv_at hl 2 rfl) ?_
      refine lv_iload_n hx hb dX0_liveDays_3 rfl (lv_at hl 1 rfl) ?_
      refine lv_icmp_ge (tgt := 17) hx hb dX0_liveDays_4 (by decide) (fun c_1 => ?_) (fun c_1 => ?_)
      · replace hF := if_t hF c_1
        cases hF
        exact hQ _ _ _ _ _ _ (fun _ => 0) dX0_liveDays_17 hP hD hS (Nat.le_of_ble_eq_true rfl) (Nat.le_of_ble_eq_true rfl)
      · replace hF := if_f hF c_1
        refine lv_aload_n hx hb dX0_liveDays_7 rfl (lv_at hl 0 rfl) ?_
        replace hF := bnd_some hF
        obtain ⟨z2, hz_2, hF⟩ := hF
        refine kwVE (kV (As := []) ⟨hx, hb, hml, hown, hts⟩ (kX0_liveDay l D cy sa h day_2 coins felts made_2 worth_2 rags water pulp_2 beat_2 sort_2 nM mark size worn_2 nT skill vat pair nQ_2 allS_2 pmark_2 pgrade_2 psheets_2 loft_2 z2 hz_2 _) (cwV 0 hts gX0_liveDays_X0_liveDay rfl rfl rfl (by decide +kernel) ⟨Nat.le_of_ble_eq_true rfl, Nat.le_of_ble_eq_true rfl⟩) hK hP hD hS hA hG [0, 1, 2, 3, 4, 5, 6, 7, 8, 9, 10, 11, 12, 13, 14, 15, 16, 17, 18, 19] hcX0_X0_0 ndX0_0 gtX0_0 rfl rfl rfl hl.1 [] rfl (Nat.le_of_ble_eq_true rfl) dX0_liveDays_8 ⟨(Nat.le_of_ble_eq_true rfl), (Nat.le_of_ble_eq_true rfl)⟩) hP hD hS hA [0, 1, 2, 3, 4, 5, 6, 7, 8, 9, 10, 11, 12, 13, 14, 15, 16, 17, 18, 19] hcX0_X0_0 hmX0 kpX0_X0_0 (fun H locs hP hD hS => ?_)
        refine lv_iinc (v := x2_2 + 1) (lv' := [(2, .int (x2_2 + 1)), (0, .ref (h 0)), (1, .int a1)]) hx hb dX0_liveDays_11 hl (k := 2) rfl rfl (by decide) rfl (fun ls hl => ?_)
        refine lv_goto (tgt := 2) hx hb dX0_liveDays_14 (by decide) ?_
        exact ih  z2.1 z2.2.1 z2.2.2.1 z2.2.2.2.1 z2.2.2.2.2.1 z2.2.2.2.2.2.1 z2.2.2.2.2.2.2.1 z2.2.2.2.2.2.2.2.1 z2.2.2.2.2.2.2.2.2.1 z2.2.2.2.2.2.2.2.2.2.1 z2.2.2.2.2.2.2.2.2.2.2.1 z2.2.2.2.2.2.2.2.2.2.2.2.1 z2.2.2.2.2.2.2.2.2.2.2.2.2 (x2_2 + 1)  hF _ _ _ hP hD hS (lv_sub hl [1, 2, 0] rfl)
  unfold fX0_liveDays at hF
  refine lv_iconst (v := 0) hx hb dX0_liveDays_0 (by decide) ?_
  refine lv_istore_n (lv' := [(2, .int 0), (0, .ref (h 0)), (1, .int a1)]) hx hb dX0_liveDays_1 rfl hl (by decide) rfl (fun ls hl => ?_)
  exact L2 64 day made worth pulp beat sort worn nQ allS pmark pgrade psheets loft 0  hF _ _ _ hP hD hS (lv_sub hl [1, 2, 0] rfl)
