def fX1_becomeLike (o_nM : Int32) (o_mark : FN) (o_size : FN) (o_worn : FN) : Option (Int32 × FN × FN × FN) := some (o_nM, o_mark, o_size, o_worn)
abbrev rX1_becomeLike : Room := { frames := 1, cells := 0, slots := 0, locals := 40 }
set_option maxHeartbeats 4000000 in
set_option maxRecDepth 100000 in
theorem kX1_becomeLike (l : Launch) (D : va_G) (cy : Nat → ClassId) (sa : SAT) (h : Nat → Nat) (g : Nat → Nat) (nM : Int32) (mark : FN) (size : FN) (worn : FN) (o_nM : Int32) (o_mark : FN) (o_size : FN) (o_worn : FN) (z : Int32 × FN × FN × FN) (hF : fX1_becomeLike o_nM o_mark o_size o_worn = some z) : KV l D (tyW cy) sa yX1_becomeLike wsX1_becomeLike rX1_becomeLike [.ref (h 0), .ref (g 0)] (wX1X1 cy h g nM mark size worn o_nM o_mark o_size o_worn) (fun _ => wX1X1 cy h g z.1 z.2.1 z.2.2.1 z.2.2.2 o_nM o_mark o_size o_worn) 0 0 := by
  refine KV.of (cc := cX1_becomeLike) (maxL := 2) (by decide +kernel) rfl (Nat.le_of_ble_eq_true rfl) ?_
  intro p e s m args below meth c A ls Q hE hQ
  obtain ⟨hx, hb, hml, hown, hts, hA, hP, hK, hD, hG, hl, hnm⟩ := hE
  replace hown : s.vm.findClass RX1 = some m.cls := hown
  have hiX1 : ∀ w ∈ u_ws RX1 TX1 4, w ∈ wsX1_becomeLike := by decide +kernel
  have hf9 : (Cond.fieldLink RX1 9 "RagVats$Moulds" "number" "I").before args s = true := hts _ (by decide +kernel)
  have hf15 : (Cond.fieldLink RX1 15 "RagVats$Moulds" "mark" "[I").before args s = true := hts _ (by decide +kernel)
  have hf19 : (Cond.fieldLink RX1 19 "RagVats$Moulds" "size" "[I").before args s = true := hts _ (by decide +kernel)
  have hf22 : (Cond.fieldLink RX1 22 "RagVats$Moulds" "worn" "[I").before args s = true := hts _ (by decide +kernel)
  replace hl : lv_has ls 2 [(0, .ref (h 0)), (1, .ref (g 0))] := hl
  have hS : va_S A s.heap s.heap [] := va_S.rf
  unfold fX1_becomeLike at hF
  refine lv_aload_n hx hb dX1_becomeLike_0 rfl (lv_at hl 0 rfl) ?_
  refine lv_aload_n hx hb dX1_becomeLike_1 rfl (lv_at hl 1 rfl) ?_
  refine va_get (D := D) (C := RX1) (T := TX1) (N := 4) hx hb hts hiX1 hown hK hP 4 gtX1X1_4 rfl 0 (by decide) hf9 (fun _ h9 => h9) rfl dX1_becomeLike_2 ?_
  refine va_put (D := D) (v := .int o_nM) (ty := .int) (C := RX1) (T := TX1) (N := 4) hx hb hts hiX1 tyX1 tyX1_ok nmX1 hown hK hP hD hS 0 gtX1X1_0 rfl 0 (by decide) hf9 (fun _ h9 => h9) rfl (by decide +kernel) rfl rfl (Nat.le_of_ble_eq_true rfl) dX1_becomeLike_5 (fun H locs hP hD hS => ?_)
  rw [stX1X1_0_0] at hP hD
  refine lv_aload_n hx hb dX1_becomeLike_8 rfl (lv_at hl 1 rfl) ?_
  refine va_get (D := D) (C := RX1) (T := TX1) (N := 4) hx hb hts hiX1 hown hK hP 4 gtX1X1_4 rfl 1 (by decide) hf15 (fun _ h9 => h9) rfl dX1_becomeLike_9 ?_
  refine lv_iconst (v := 0) hx hb dX1_becomeLike_12 (by decide) ?_
  refine lv_aload_n hx hb dX1_becomeLike_13 rfl (lv_at hl 0 rfl) ?_
  refine va_get (D := D) (C := RX1) (T := TX1) (N := 4) hx hb hts hiX1 hown hK hP 0 gtX1X1_0 rfl 1 (by decide) hf15 (fun _ h9 => h9) rfl dX1_becomeLike_14 ?_
  refine lv_iconst (v := 0) hx hb dX1_becomeLike_17 (by decide) ?_
  refine lv_iconst (v := 5) hx hb dX1_becomeLike_18 (by decide) ?_
  refine va_copyi (own := RX1) hx hb (hml.trans hl.1.symm) hown (hts (.methodLink RX1 25 arraycopyName) (by decide +kernel)) (hts (.native arraycopyName) (by decide +kernel)) (hts (.static arraycopyName) (by decide +kernel)) (hts (.initialized "java/lang/System") (by decide +kernel)) hK hP hD hS 5 1 0 0 gtX1X1_5 gtX1X1_1 rfl rfl rfl (by decide) (by decide) (by decide) (by decide) (by decide) (fun _ _ => rfl) (Nat.le_of_ble_eq_true rfl) (by decide) dX1_becomeLike_19 (fun H locs hP hD hS => ?_)
  replace hP := kcopy hP rfl
  replace hD := kcopyD (e2 := .inl (cy 0, 5, .inl o_mark)) hD
  rw [stX1X1_1] at hP hD
  refine lv_aload_n hx hb dX1_becomeLike_22 rfl (lv_at hl 1 rfl) ?_
  refine va_get (D := D) (C := RX1) (T := TX1) (N := 4) hx hb hts hiX1 hown hK hP 4 gtX1X1_4 rfl 2 (by decide) hf19 (fun _ h9 => h9) rfl dX1_becomeLike_23 ?_
  refine lv_iconst (v := 0) hx hb dX1_becomeLike_26 (by decide) ?_
  refine lv_aload_n hx hb dX1_becomeLike_27 rfl (lv_at hl 0 rfl) ?_
  refine va_get (D := D) (C := RX1) (T := TX1) (N := 4) hx hb hts hiX1 hown hK hP 0 gtX1X1_0 rfl 2 (by decide) hf19 (fun _ h9 => h9) rfl dX1_becomeLike_28 ?_
  refine lv_iconst (v := 0) hx hb dX1_becomeLike_31 (by decide) ?_
  refine lv_iconst (v := 5) hx hb dX1_becomeLike_32 (by decide) ?_
  refine va_copyi (own := RX1) hx hb (hml.trans hl.1.symm) hown (hts (.methodLink RX1 25 arraycopyName) (by decide +kernel)) (hts (.native arraycopyName) (by decide +kernel)) (hts (.static arraycopyName) (by decide +kernel)) (hts (.initialized "java/lang/System") (by decide +kernel)) hK hP hD hS 6 2 0 0 gtX1X1_6 gtX1X1_2 rfl rfl rfl (by decide) (by decide) (by decide) (by decide) (by decide) (fun _ _ => rfl) (Nat.le_of_ble_eq_true rfl) (by decide) dX1_becomeLike_33 (fun H locs hP hD hS => ?_)
  replace hP := kcopy hP rfl
  replace hD := kcopyD (e2 := .inl (cy 0, 5, .inl o_size)) hD
  rw [stX1X1_2] at hP hD
  refine lv_aload_n hx hb dX1_becomeLike_36 rfl (lv_at hl 1 rfl) ?_
  refine va_get (D := D) (C := RX1) (T := TX1) (N := 4) hx hb hts hiX1 hown hK hP 4 gtX1X1_4 rfl 3 (by decide) hf22 (fun _ h9 => h9) rfl dX1_becomeLike_37 ?_
  refine lv_iconst (v := 0) hx hb dX1_becomeLike_40 (by decide) ?_
  refine lv_aload_n hx hb dX1_becomeLike_41 rfl (lv_at hl 0 rfl) ?_
  refine va_get (D := D) (C := RX1) (T := TX1) (N := 4) hx hb hts hiX1 hown hK hP 0 gtX1X1_0 rfl 3 (by decide) hf22 (fun _ h9 => h9) rfl dX1_becomeLike_42 ?_
  refine lv_iconst (v := 0) hx hb dX1_becomeLike_45 (by decide) ?_
  refine lv_iconst (v := 5) hx hb dX1_becomeLike_46 (by decide) ?_
  refine va_copyi (own := RX1) hx hb (hml.trans hl.1.symm) hown (hts (.methodLink RX1 25 arraycopyName) (by decide +kernel)) (hts (.native arraycopyName) (by decide +kernel)) (hts (.static arraycopyName) (by decide +kernel)) (hts (.initialized "java/lang/System") (by decide +kernel)) hK hP hD hS 7 3 0 0 gtX1X1_7 gtX1X1_3 rfl rfl rfl (by decide) (by decide) (by decide) (by decide) (by decide) (fun _ _ => rfl) (Nat.le_of_ble_eq_true rfl) (by decide) dX1_becomeLike_47 (fun H locs hP hD hS => ?_)
  replace hP := kcopy hP rfl
  replace hD := kcopyD (e2 := .inl (cy 0, 5, .inl o_worn)) hD
  rw [stX1X1_3] at hP hD
  cases hF
  exact hQ _ _ _ _ _ _ (fun _ => 0) dX1_becomeLike_50 hP hD hS (Nat.le_of_ble_eq_true rfl) (Nat.le_of_ble_eq_true rfl)

def fX3_becomeLike (o_nT : Int32) (o_skill : FN) (o_vat : FN) (o_pair : FN) : Option (Int32 × FN × FN × FN) := some (o_nT, o_skill, o_vat, o_pair)
abbrev rX3_becomeLike : Room := { frames := 1, cells := 0, slots := 0, locals := 40 }
set_option maxHeartbeats 4000000 in
set_option maxRecDepth 100000 in
theorem kX3_becomeLike (l : Launch) (D : va_G) (cy : Nat → ClassId) (sa : SAT) (h : Nat → Nat) (g : Nat → Nat) (nT : Int32) (skill : FN) (vat : FN) (pair : FN) (o_nT : Int32) (o_skill : FN) (o_vat : FN) (o_pair : FN) (z : Int32 × FN × FN × FN) (hF : fX3_becomeLike o_nT o_skill o_vat o_pair = some z) : KV l D (tyW cy) sa yX3_becomeLike wsX3_becomeLike rX3_becomeLike [.ref (h 0), .ref (g 0)] (wX3X3 cy h g nT skill vat pair o_nT o_skill o_vat o_pair) (fun _ => wX3X3 cy h g z.1 z.2.1 z.2.2.1 z.2.2.2 o_nT o_skill o_vat o_pair) 0 0 := by
  refine KV.of (cc := cX3_becomeLike) (maxL := 2) (by decide +kernel) rfl (Nat.le_of_ble_eq_true rfl) ?_
  intro p e s m args below meth c A ls Q hE hQ
  obtain ⟨hx, hb, hml, hown, hts, hA, hP, hK, hD, hG, hl, hnm⟩ := hE
  replace hown : s.vm.findClass RX3 = some m.cls := hown
  have hiX3 : ∀ w ∈ u_ws RX3 TX3 4, w ∈ wsX3_becomeLike := by decide +kernel
  have hf9 : (Cond.fieldLink RX3 9 "RagVats$Teams" "number" "I").before args s = true := hts _ (by decide +kernel)
  have hf15 : (Cond.fieldLink RX3 15 "RagVats$Teams" "skill" "[I").before args s = true := hts _ (by decide +kernel)
  have hf19 : (Cond.fieldLink RX3 19 "RagVats$Teams" "vat" "[I").before args s = true := hts _ (by decide +kernel)
  have hf22 : (Cond.fieldLink RX3 22 "RagVats$Teams" "pair" "[I").before args s = true := hts _ (by decide +kernel)
  replace hl : lv_has ls 2 [(0, .ref (h 0)), (1, .ref (g 0))] := hl
  have hS : va_S A s.heap s.heap [] := va_S.rf
  unfold fX3_becomeLike at hF
  refine lv_aload_n hx hb dX3_becomeLike_0 rfl (lv_at hl 0 rfl) ?_
  refine lv_aload_n hx hb dX3_becomeLike_1 rfl (lv_at hl 1 rfl) ?_
  refine va_get (D := D) (C := RX3) (T := TX3) (N := 4) hx hb hts hiX3 hown hK hP 4 gtX3X3_4 rfl 0 (by decide) hf9 (fun _ h9 => h9) rfl dX3_becomeLike_2 ?_
  refine va_put (D := D) (v := .int o_nT) (ty := .int) (C := RX3) (T := TX3) (N := 4) hx hb hts hiX3 tyX3 tyX3_ok nmX3 hown hK hP hD hS 0 gtX3X3_0 rfl 0 (by decide) hf9 (fun _ h9 => h9) rfl (by decide +kernel) rfl rfl (Nat.le_of_ble_eq_true rfl) dX3_becomeLike_5 (fun H locs hP hD hS => ?_)
  rw [stX3X3_0_0] at hP hD
  refine lv_aload_n hx hb dX3_becomeLike_8 rfl (lv_at hl 1 rfl) ?_
  refine va_get (D := D) (C := RX3) (T := TX3) (N := 4) hx hb hts hiX3 hown hK hP 4 gtX3X3_4 rfl 1 (by decide) hf15 (fun _ h9 => h9) rfl dX3_becomeLike_9 ?_
  refine lv_iconst (v := 0) hx hb dX3_becomeLike_12 (by decide) ?_
  refine lv_aload_n hx hb dX3_becomeLike_13 rfl (lv_at hl 0 rfl) ?_
  refine va_get (D := D) (C := RX3) (T := TX3) (N := 4) hx hb hts hiX3 hown hK hP 0 gtX3X3_0 rfl 1 (by decide) hf15 (fun _ h9 => h9) rfl dX3_becomeLike_14 ?_
  refine lv_iconst (v := 0) hx hb dX3_becomeLike_17 (by decide) ?_
  refine lv_iconst (v := 3) hx hb dX3_becomeLike_18 (by decide) ?_
  refine va_copyi (own := RX3) hx hb (hml.trans hl.1.symm) hown (hts (.methodLink RX3 25 arraycopyName) (by decide +kernel)) (hts (.native arraycopyName) (by decide +kernel)) (hts (.static arraycopyName) (by decide +kernel)) (hts (.initialized "java/lang/System") (by decide +kernel)) hK hP hD hS 5 1 0 0 gtX3X3_5 gtX3X3_1 rfl rfl rfl (by decide) (by decide) (by decide) (by decide) (by decide) (fun _ _ => rfl) (Nat.le_of_ble_eq_true rfl) (by decide) dX3_becomeLike_19 (fun H locs hP hD hS => ?_)
  replace hP := kcopy hP rfl
  replace hD := kcopyD (e2 := .inl (cy 0, 3, .inl o_skill)) hD
  rw [stX3X3_1] at hP hD
  refine lv_aload_n hx hb dX3_becomeLike_22 rfl (lv_at hl 1 rfl) ?_
  refine va_get (D := D) (C := RX3) (T := TX3) (N := 4) hx hb hts hiX3 hown hK hP 4 gtX3X3_4 rfl 2 (by decide) hf19 (fun _ h9 => h9) rfl dX3_becomeLike_23 ?_
  refine lv_iconst (v := 0) hx hb dX3_becomeLike_26 (by decide) ?_
  refine lv_aload_n hx hb dX3_becomeLike_27 rfl (lv_at hl 0 rfl) ?_
  refine va_get (D := D) (C := RX3) (T := TX3) (N := 4) hx hb hts hiX3 hown hK hP 0 gtX3X3_0 rfl 2 (by decide) hf19 (fun _ h9 => h9) rfl dX3_becomeLike_28 ?_
  refine lv_iconst (v := 0) hx hb dX3_becomeLike_31 (by decide) ?_
  refine lv_iconst (v := 3) hx hb dX3_becomeLike_32 (by decide) ?_
  refine va_copyi (own := RX3) hx hb (hml.trans hl.1.symm) hown (hts (.methodLink RX3 25 arraycopyName) (by decide +kernel)) (hts (.native arraycopyName) (by decide +kernel)) (hts (.static arraycopyName) (by decide +kernel)) (hts (.initialized "java/lang/System") (by decide +kernel)) hK hP hD hS 6 2 0 0 gtX3X3_6 gtX3X3_2 rfl rfl rfl (by decide) (by decide) (by decide) (by decide) (by decide) (fun _ _ => rfl) (Nat.le_of_ble_eq_true rfl) (by decide) dX3_becomeLike_33 (fun H locs hP hD hS => ?_)
  replace hP := kcopy hP rfl
  replace hD := kcopyD (e2 := .inl (cy 0, 3, .inl o_vat)) hD
  rw [stX3X3_2] at hP hD
  refine lv_aload_n hx hb dX3_becomeLike_36 rfl (lv_at hl 1 rfl) ?_
  refine va_get (D := D) (C := RX3) (T := TX3) (N := 4) hx hb hts hiX3 hown hK hP 4 gtX3X3_4 rfl 3 (by decide) hf22 (fun _ h9 => h9) rfl dX3_becomeLike_37 ?_
  refine lv_iconst (v := 0) hx hb dX3_becomeLike_40 (by decide) ?_
  refine lv_aload_n hx hb dX3_becomeLike_41 rfl (lv_at hl 0 rfl) ?_
  refine va_get (D := D) (C := RX3) (T := TX3) (N := 4) hx hb hts hiX3 hown hK hP 0 gtX3X3_0 rfl 3 (by decide) hf22 (fun _ h9 => h9) rfl dX3_becomeLike_42 ?_
  refine lv_iconst (v := 0) hx hb dX3_becomeLike_45 (by decide) ?_
  refine lv_iconst (v := 3) hx hb dX3_becomeLike_46 (by decide) ?_
  refine va_copyi (own := RX3) hx hb (hml.trans hl.1.symm) hown (hts (.methodLink RX3 25 arraycopyName) (by decide +kernel)) (hts (.native arraycopyName) (by decide +kernel)) (hts (.static arraycopyName) (by decide +kernel)) (hts (.initialized "java/lang/System") (by decide +kernel)) hK hP hD hS 7 3 0 0 gtX3X3_7 gtX3X3_3 rfl rfl rfl (by decide) (by decide) (by decide) (by decide) (by decide) (fun _ _ => rfl) (Nat.le_of_ble_eq_true rfl) (by decide) dX3_becomeLike_47 (fun H locs hP hD hS => ?_)
  replace hP := kcopy hP rfl
  replace hD := kcopyD (e2 := .inl (cy 0, 3, .inl o_pair)) hD
  rw [stX3X3_3] at hP hD
  cases hF
  exact hQ _ _ _ _ _ _ (fun _ => 0) dX3_becomeLike_50 hP hD hS (Nat.le_of_ble_eq_true rfl) (Nat.le_of_ble_eq_true rfl)

def fX2_becomeLike (o_nQ : Int32) (o_allS : Int32) (o_pmark : FN) (o_pgrade : FN) (o_psheets : FN) : Option (Int32 × Int32 × FN × FN × FN) := some (o_nQ, o_allS, o_pmark, o_pgrade, o_psheets)
abbrev rX2_becomeLike : Room := { frames := 1, cells := 0, slots := 0, locals := 40 }
set_option maxHeartbeats 4000000 in
set_option maxRecDepth 100000 in
theorem kX2_becomeLike (l : Launch) (D : va_G) (cy : Nat → ClassId) (sa : SAT) (h : Nat → Nat) (g : Nat → Nat) (nQ : Int32) (allS : Int32) (pmark : FN) (pgrade : FN) (psheets : FN) (o_nQ : Int32) (o_allS : Int32) (o_pmark : FN) (o_pgrade : FN) (o_psheets : FN) (z : Int32 × Int32 × FN × FN × FN) (hF : fX2_becomeLike o_nQ o_allS o_pmark o_pgrade o_psheets = some z) : KV l D (tyW cy) sa yX2_becomeLike wsX2_becomeLike rX2_becomeLike [.ref (h 0), .ref (g 0)] (wX2X2 cy h g nQ allS pmark pgrade psheets o_nQ o_allS o_pmark o_pgrade o_psheets) (fun _ => wX2X2 cy h g z.1 z.2.1 z.2.2.1 z.2.2.2.1 z.2.2.2.2 o_nQ o_allS o_pmark o_pgrade o_psheets) 0 0 := by
  refine KV.of (cc := cX2_becomeLike) (maxL := 2) (by decide +kernel) rfl (Nat.le_of_ble_eq_true rfl) ?_
  intro p e s m args below meth c A ls Q hE hQ
  obtain ⟨hx, hb, hml, hown, hts, hA, hP, hK, hD, hG, hl, hnm⟩ := hE
  replace hown : s.vm.findClass RX2 = some m.cls := hown
  have hiX2 : ∀ w ∈ u_ws RX2 TX2 5, w ∈ wsX2_becomeLike := by decide +kernel
  have hf9 : (Cond.fieldLink RX2 9 "RagVats$Posts" "number" "I").before args s = true := hts _ (by decide +kernel)
  have hf15 : (Cond.fieldLink RX2 15 "RagVats$Posts" "allSheets" "I").before args s = true := hts _ (by decide +kernel)
  have hf18 : (Cond.fieldLink RX2 18 "RagVats$Posts" "mark" "[I").before args s = true := hts _ (by decide +kernel)
  have hf22 : (Cond.fieldLink RX2 22 "RagVats$Posts" "grade" "[I").before args s = true := hts _ (by decide +kernel)
  have hf25 : (Cond.fieldLink RX2 25 "RagVats$Posts" "sheets" "[I").before args s = true := hts _ (by decide +kernel)
  replace hl : lv_has ls 2 [(0, .ref (h 0)), (1, .ref (g 0))] := hl
  have hS : va_S A s.heap s.heap [] := va_S.rf
  unfold fX2_becomeLike at hF
  refine lv_aload_n hx hb dX2_becomeLike_0 rfl (lv_at hl 0 rfl) ?_
  refine lv_aload_n hx hb dX2_becomeLike_1 rfl (lv_at hl 1 rfl) ?_
  refine va_get (D := D) (C := RX2) (T := TX2) (N := 5) hx hb hts hiX2 hown hK hP 4 gtX2X2_4 rfl 0 (by decide) hf9 (fun _ h9 => h9) rfl dX2_becomeLike_2 ?_
  refine va_put (D := D) (v := .int o_nQ) (ty := .int) (C := RX2) (T := TX2) (N := 5) hx hb hts hiX2 tyX2 tyX2_ok nmX2 hown hK hP hD hS 0 gtX2X2_0 rfl 0 (by decide) hf9 (fun _ h9 => h9) rfl (by decide +kernel) rfl rfl (Nat.le_of_ble_eq_true rfl) dX2_becomeLike_5 (fun H locs hP hD hS => ?_)
  rw [stX2X2_0_0] at hP hD
  refine lv_aload_n hx hb dX2_becomeLike_8 rfl (lv_at hl 0 rfl) ?_
  refine lv_aload_n hx hb dX2_becomeLike_9 rfl (lv_at hl 1 rfl) ?_
  refine va_get (D := D) (C := RX2) (T := TX2) (N := 5) hx hb hts hiX2 hown hK hP 4 gtX2X2_4 rfl 1 (by decide) hf15 (fun _ h9 => h9) rfl dX2_becomeLike_10 ?_
  refine va_put (D := D) (v := .int o_allS) (ty := .int) (C := RX2) (T := TX2) (N := 5) hx hb hts hiX2 tyX2 tyX2_ok nmX2 hown hK hP hD hS 0 gtX2X2_0 rfl 1 (by decide) hf15 (fun _ h9 => h9) rfl (by decide +kernel) rfl rfl (Nat.le_of_ble_eq_true rfl) dX2_becomeLike_13 (fun H locs hP hD hS => ?_)
  rw [stX2X2_0_1] at hP hD
  refine lv_aload_n hx hb dX2_becomeLike_16 rfl (lv_at hl 1 rfl) ?_
  refine va_get (D := D) (C := RX2) (T := TX2) (N := 5) hx hb hts hiX2 hown hK hP 4 gtX2X2_4 rfl 2 (by decide) hf18 (fun _ h9 => h9) rfl dX2_becomeLike_17 ?_
  refine lv_iconst (v := 0) hx hb dX2_becomeLike_20 (by decide) ?_
  refine lv_aload_n hx hb dX2_becomeLike_21 rfl (lv_at hl 0 rfl) ?_
  refine va_get (D := D) (C := RX2) (T := TX2) (N := 5) hx hb hts hiX2 hown hK hP 0 gtX2X2_0 rfl 2 (by decide) hf18 (fun _ h9 => h9) rfl dX2_becomeLike_22 ?_
  refine lv_iconst (v := 0) hx hb dX2_becomeLike_25 (by decide) ?_
  refine lv_bipush (v := 90) hx hb dX2_becomeLike_26 (by decide) ?_
  refine va_copyi (own := RX2) hx hb (hml.trans hl.1.symm) hown (hts (.methodLink RX2 28 arraycopyName) (by decide +kernel)) (hts (.native arraycopyName) (by decide +kernel)) (hts (.static arraycopyName) (by decide +kernel)) (hts (.initialized "java/lang/System") (by decide +kernel)) hK hP hD hS 5 1 0 0 gtX2X2_5 gtX2X2_1 rfl rfl rfl (by decide) (by decide) (by decide) (by decide) (by decide) (fun _ _ => rfl) (Nat.le_of_ble_eq_true rfl) (by decide) dX2_becomeLike_28 (fun H locs hP hD hS => ?_)
  replace hP := kcopy hP rfl
  replace hD := kcopyD (e2 := .inl (cy 0, 90, .inl o_pmark)) hD
  rw [stX2X2_1] at hP hD
  refine lv_aload_n hx hb dX2_becomeLike_31 rfl (lv_at hl 1 rfl) ?_
  refine va_get (D := D) (C := RX2) (T := TX2) (N := 5) hx hb hts hiX2 hown hK hP 4 gtX2X2_4 rfl 3 (by decide) hf22 (fun _ h9 => h9) rfl dX2_becomeLike_32 ?_
  refine lv_iconst (v := 0) hx hb dX2_becomeLike_35 (by decide) ?_
  refine lv_aload_n hx hb dX2_becomeLike_36 rfl (lv_at hl 0 rfl) ?_
  refine va_get (D := D) (C := RX2) (T := TX2) (N := 5) hx hb hts hiX2 hown hK hP 0 gtX2X2_0 rfl 3 (by decide) hf22 (fun _ h9 => h9) rfl dX2_becomeLike_37 ?_
  refine lv_iconst (v := 0) hx hb dX2_becomeLike_40 (by decide) ?_
  refine lv_bipush (v := 90) hx hb dX2_becomeLike_41 (by decide) ?_
  refine va_copyi (own := RX2) hx hb (hml.trans hl.1.symm) hown (hts (.methodLink RX2 28 arraycopyName) (by decide +kernel)) (hts (.native arraycopyName) (by decide +kernel)) (hts (.static arraycopyName) (by decide +kernel)) (hts (.initialized "java/lang/System") (by decide +kernel)) hK hP hD hS 6 2 0 0 gtX2X2_6 gtX2X2_2 rfl rfl rfl (by decide) (by decide) (by decide) (by decide) (by decide) (fun _ _ => rfl) (Nat.le_of_ble_eq_true rfl) (by decide) dX2_becomeLike_43 (fun H locs hP hD hS => ?_)
  replace hP := kcopy hP rfl
  replace hD := kcopyD (e2 := .inl (cy 0, 90, .inl o_pgrade)) hD
  rw [stX2X2_2] at hP hD
  refine lv_aload_n hx hb dX2_becomeLike_46 rfl (lv_at hl 1 rfl) ?_
  refine va_get (D := D) (C := RX2) (T := TX2) (N := 5) hx hb hts hiX2 hown hK hP 4 gtX2X2_4 rfl 4 (by decide) hf25 (fun _ h9 => h9) rfl dX2_becomeLike_47 ?_
  refine lv_iconst (v := 0) hx hb dX2_becomeLike_50 (by decide) ?_
  refine lv_aload_n hx hb dX2_becomeLike_51 rfl (lv_at hl 0 rfl) ?_
  refine va_get (D := D) (C := RX2) (T := TX2) (N := 5) hx hb hts hiX2 hown hK hP 0 gtX2X2_0 rfl 4 (by decide) hf25 (fun _ h9 => h9) rfl dX2_becomeLike_52 ?_
  refine lv_iconst (v := 0) hx hb dX2_becomeLike_55 (by decide) ?_
  refine lv_bipush (v := 90) hx hb dX2_becomeLike_56 (by decide) ?_
  refine va_copyi (own := RX2) hx hb (hml.trans hl.1.symm) hown (hts (.methodLink RX2 28 arraycopyName) (by decide +kernel)) (hts (.native arraycopyName) (by decide +kernel)) (hts (.static arraycopyName) (by decide +kernel)) (hts (.initialized "java/lang/System") (by decide +kernel)) hK hP hD hS 7 3 0 0 gtX2X2_7 gtX2X2_3 rfl rfl rfl (by decide) (by decide) (by decide) (by decide) (by decide) (fun _ _ => rfl) (Nat.le_of_ble_eq_true rfl) (by decide) dX2_becomeLike_58 (fun H locs hP hD hS => ?_)
  replace hP := kcopy hP rfl
  replace hD := kcopyD (e2 := .inl (cy 0, 90, .inl o_psheets)) hD
  rw [stX2X2_3] at hP hD
  cases hF
  exact hQ _ _ _ _ _ _ (fun _ => 0) dX2_becomeLike_61 hP hD hS (Nat.le_of_ble_eq_true rfl) (Nat.le_of_ble_eq_true rfl)

def fX1_has (nM : Int32) (a1 : Int32) : Option (Int32) := if a1 < 0 then some 0 else if nM ≤ a1 then some 0 else if 5 ≤ a1 then some 0 else some 1
abbrev rX1_has : Room := { frames := 0, cells := 0, slots := 0, locals := 0 }
set_option maxHeartbeats 4000000 in
set_option maxRecDepth 100000 in
theorem kX1_has (l : Launch) (D : va_G) (cy : Nat → ClassId) (sa : SAT) (h : Nat → Nat) (nM : Int32) (mark : FN) (size : FN) (worn : FN) (a1 : Int32) (z : Int32) (hF : fX1_has nM a1 = some z) : KI l D (tyW cy) sa yX1_has wsX1_has rX1_has [.ref (h 0), .int a1] (wX1 cy h nM mark size worn) z (fun _ => wX1 cy h nM mark size worn) 0 0 := by
  refine KI.ofZ (cc := cX1_has) (maxL := 2) (by decide +kernel) rfl (Nat.le_of_ble_eq_true rfl) ?_
  intro p e s m args below meth c A ls Q hE hQ
  obtain ⟨hx, hb, hml, hown, hts, hA, hP, hK, hD, hG, hl, hnm⟩ := hE
  replace hown : s.vm.findClass RX1 = some m.cls := hown
  have hiX1 : ∀ w ∈ u_ws RX1 TX1 4, w ∈ wsX1_has := by decide +kernel
  have hf9 : (Cond.fieldLink RX1 9 "RagVats$Moulds" "number" "I").before args s = true := hts _ (by decide +kernel)
  replace hl : lv_has ls 2 [(0, .ref (h 0)), (1, .int a1)] := hl
  have hS : va_S A s.heap s.heap [] := va_S.rf
  unfold fX1_has at hF
  refine lv_iload_n hx hb dX1_has_0 rfl (lv_at hl 1 rfl) ?_
  refine lv_if_lt (tgt := 21) hx hb dX1_has_1 (by decide) (fun c_1 => ?_) (fun c_1 => ?_)
  · replace hF := if_t hF c_1
    refine lv_iconst (v := 0) hx hb dX1_has_21 (by decide) ?_
    cases hF
    exact hQ _ _ _ _ _ _ (fun _ => 0) rfl dX1_has_22 hP hD hS (Nat.le_of_ble_eq_true rfl) (Nat.le_of_ble_eq_true rfl)
  · replace hF := if_f hF c_1
    refine lv_iload_n hx hb dX1_has_4 rfl (lv_at hl 1 rfl) ?_
    refine lv_aload_n hx hb dX1_has_5 rfl (lv_at hl 0 rfl) ?_
    refine va_get (D := D) (C := RX1) (T := TX1) (N := 4) hx hb hts hiX1 hown hK hP 0 gtX1_0 rfl 0 (by decide) hf9 (fun _ h9 => h9) rfl dX1_has_6 ?_
    refine lv_icmp_ge (tgt := 21) hx hb dX1_has_9 (by decide) (fun c_2 => ?_) (fun c_2 => ?_)
    · replace hF := if_t hF c_2
      refine lv_iconst (v := 0) hx hb dX1_has_21 (by decide) ?_
      cases hF
      exact hQ _ _ _ _ _ _ (fun _ => 0) rfl dX1_has_22 hP hD hS (Nat.le_of_ble_eq_true rfl) (Nat.le_of_ble_eq_true rfl)
    · replace hF := if_f hF c_2
      refine lv_iload_n hx hb dX1_has_12 rfl (lv_at hl 1 rfl) ?_
      refine lv_iconst (v := 5) hx hb dX1_has_13 (by decide) ?_
      refine lv_icmp_ge (tgt := 21) hx hb dX1_has_14 (by decide) (fun c_3 => ?_) (fun c_3 => ?_)
      · replace hF := if_t hF c_3
        refine lv_iconst (v := 0) hx hb dX1_has_21 (by decide) ?_
        cases hF
        exact hQ _ _ _ _ _ _ (fun _ => 0) rfl dX1_has_22 hP hD hS (Nat.le_of_ble_eq_true rfl) (Nat.le_of_ble_eq_true rfl)
      · replace hF := if_f hF c_3
        refine lv_iconst (v := 1) hx hb dX1_has_17 (by decide) ?_
        refine lv_goto (tgt := 22) hx hb dX1_has_18 (by decide) ?_
        cases hF
        exact hQ _ _ _ _ _ _ (fun _ => 0) rfl dX1_has_22 hP hD hS (Nat.le_of_ble_eq_true rfl) (Nat.le_of_ble_eq_true rfl)

def fX1_markOf (nM : Int32) (mark : FN) (a1 : Int32) : Option (Int32) := (fX1_has nM a1).bind fun z1 => if z1 = 0 then some 0 else ckI a1 5 (some (mark a1.toNatClampNeg))
abbrev rX1_markOf : Room := { frames := 1, cells := 0, slots := 0, locals := 21 }
set_option maxHeartbeats 4000000 in
set_option maxRecDepth 100000 in
theorem kX1_markOf (l : Launch) (D : va_G) (cy : Nat → ClassId) (sa : SAT) (h : Nat → Nat) (nM : Int32) (mark : FN) (size : FN) (worn : FN) (a1 : Int32) (z : Int32) (hF : fX1_markOf nM mark a1 = some z) : KI l D (tyW cy) sa yX1_markOf wsX1_markOf rX1_markOf [.ref (h 0), .int a1] (wX1 cy h nM mark size worn) z (fun _ => wX1 cy h nM mark size worn) 0 0 := by
  refine KI.of (cc := cX1_markOf) (maxL := 2) (by decide +kernel) rfl (Nat.le_of_ble_eq_true rfl) ?_
  intro p e s m args below meth c A ls Q hE hQ
  obtain ⟨hx, hb, hml, hown, hts, hA, hP, hK, hD, hG, hl, hnm⟩ := hE
  replace hown : s.vm.findClass RX1 = some m.cls := hown
  have hiX1 : ∀ w ∈ u_ws RX1 TX1 4, w ∈ wsX1_markOf := by decide +kernel
  have hf15 : (Cond.fieldLink RX1 15 "RagVats$Moulds" "mark" "[I").before args s = true := hts _ (by decide +kernel)
  replace hl : lv_has ls 2 [(0, .ref (h 0)), (1, .int a1)] := hl
  have hS : va_S A s.heap s.heap [] := va_S.rf
  unfold fX1_markOf at hF
  refine lv_aload_n hx hb dX1_markOf_0 rfl (lv_at hl 0 rfl) ?_
  refine lv_iload_n hx hb dX1_markOf_1 rfl (lv_at hl 1 rfl) ?_
  replace hF := bnd_some hF
  obtain ⟨z1, hz_1, hF⟩ := hF
  refine krI (kV (As := [.int a1]) ⟨hx, hb, hml, hown, hts⟩ (kX1_has l D cy sa h nM mark size worn a1 z1 hz_1 _) (cwV 1 hts gX1_markOf_X1_has rfl rfl rfl (by decide +kernel) ⟨Nat.le_of_ble_eq_true rfl, Nat.le_of_ble_eq_true rfl⟩) hK hP hD hS hA hG [0, 1, 2, 3] hcX1_X1_0 ndX1_0 gtX1_0 rfl rfl rfl hl.1 [] rfl (Nat.le_of_ble_eq_true rfl) dX1_markOf_2 ⟨(Nat.le_of_ble_eq_true rfl), (Nat.le_of_ble_eq_true rfl)⟩) hP hD hS hA [0, 1, 2, 3] hcX1_X1_0 (fun H locs hP hS => ?_)
  refine lv_if_eq (tgt := 17) hx hb dX1_markOf_5 (by decide) (fun c_2 => ?_) (fun c_2 => ?_)
  · replace hF := if_t hF c_2
    refine lv_iconst (v := 0) hx hb dX1_markOf_17 (by decide) ?_
    cases hF
    exact hQ _ _ _ _ _ _ (fun _ => 0) dX1_markOf_18 hP hD hS (Nat.le_of_ble_eq_true rfl) (Nat.le_of_ble_eq_true rfl)
  · replace hF := if_f hF c_2
    refine lv_aload_n hx hb dX1_markOf_8 rfl (lv_at hl 0 rfl) ?_
    refine va_get (D := D) (C := RX1) (T := TX1) (N := 4) hx hb hts hiX1 hown hK hP 0 gtX1_0 rfl 1 (by decide) hf15 (fun _ h9 => h9) rfl dX1_markOf_9 ?_
    refine lv_iload_n hx hb dX1_markOf_12 rfl (lv_at hl 1 rfl) ?_
    replace hF := ckI_some hF
    obtain ⟨hi_3, hF⟩ := hF
    refine va_iald hx hb hK hP 1 0 gtX1_1 rfl hi_3 dX1_markOf_13 ?_
    refine lv_goto (tgt := 18) hx hb dX1_markOf_14 (by decide) ?_
    cases hF
    exact hQ _ _ _ _ _ _ (fun _ => 0) dX1_markOf_18 hP hD hS (Nat.le_of_ble_eq_true rfl) (Nat.le_of_ble_eq_true rfl)

def fX1_sizeOf (nM : Int32) (size : FN) (a1 : Int32) : Option (Int32) := (fX1_has nM a1).bind fun z1 => if z1 = 0 then some 1 else ckI a1 5 (some (size a1.toNatClampNeg))
abbrev rX1_sizeOf : Room := { frames := 1, cells := 0, slots := 0, locals := 21 }
set_option maxHeartbeats 4000000 in
set_option maxRecDepth 100000 in
theorem kX1_sizeOf (l : Launch) (D : va_G) (cy : Nat → ClassId) (sa : SAT) (h : Nat → Nat) (nM : Int32) (mark : FN) (size : FN) (worn : FN) (a1 : Int32) (z : Int32) (hF : fX1_sizeOf nM size a1 = some z) : KI l D (tyW cy) sa yX1_sizeOf wsX1_sizeOf rX1_sizeOf [.ref (h 0), .int a1] (wX1 cy h nM mark size worn) z (fun _ => wX1 cy h nM mark size worn) 0 0 := by
  refine KI.of (cc := cX1_sizeOf) (maxL := 2) (by decide +kernel) rfl (Nat.le_of_ble_eq_true rfl) ?_
  intro p e s m args below meth c A ls Q hE hQ
  obtain ⟨hx, hb, hml, hown, hts, hA, hP, hK, hD, hG, hl, hnm⟩ := hE
  replace hown : s.vm.findClass RX1 = some m.cls := hown
  have hiX1 : ∀ w ∈ u_ws RX1 TX1 4, w ∈ wsX1_sizeOf := by decide +kernel
  have hf19 : (Cond.fieldLink RX1 19 "RagVats$Moulds" "size" "[I").before args s = true := hts _ (by decide +kernel)
  replace hl : lv_has ls 2 [(0, .ref (h 0)), (1, .int a1)] := hl
  have hS : va_S A s.heap s.heap [] := va_S.rf
  unfold fX1_sizeOf at hF
  refine lv_aload_n hx hb dX1_sizeOf_0 rfl (lv_at hl 0 rfl) ?_
  refine lv_iload_n hx hb dX1_sizeOf_1 rfl (lv_at hl 1 rfl) ?_
  replace hF := bnd_some hF
  obtain ⟨z1, hz_1, hF⟩ := hF
  refine krI (kV (As := [.int a1]) ⟨hx, hb, hml, hown, hts⟩ (kX1_has l D cy sa h nM mark size worn a1 z1 hz_1 _) (cwV 1 hts gX1_sizeOf_X1_has rfl rfl rfl (by decide +kernel) ⟨Nat.le_of_ble_eq_true rfl, Nat.le_of_ble_eq_true rfl⟩) hK hP hD hS hA hG [0, 1, 2, 3] hcX1_X1_0 ndX1_0 gtX1_0 rfl rfl rfl hl.1 [] rfl (Nat.le_of_ble_eq_true rfl) dX1_sizeOf_2 ⟨(Nat.le_of_ble_eq_true rfl), (Nat.le_of_ble_eq_true rfl)⟩) hP hD hS hA [0, 1, 2, 3] hcX1_X1_0 (fun H locs hP hS => ?_)
  refine lv_if_eq (tgt := 17) hx hb dX1_sizeOf_5 (by decide) (fun c_2 => ?_) (fun c_2 => ?_)
  · replace hF := if_t hF c_2
    refine lv_iconst (v := 1) hx hb dX1_sizeOf_17 (by decide) ?_
    cases hF
    exact hQ _ _ _ _ _ _ (fun _ => 0) dX1_sizeOf_18 hP hD hS (Nat.le_of_ble_eq_true rfl) (Nat.le_of_ble_eq_true rfl)
  · replace hF := if_f hF c_2
    refine lv_aload_n hx hb dX1_sizeOf_8 rfl (lv_at hl 0 rfl) ?_
    refine va_get (D := D) (C := RX1) (T := TX1) (N := 4) hx hb hts hiX1 hown hK hP 0 gtX1_0 rfl 2 (by decide) hf19 (fun _ h9 => h9) rfl dX1_sizeOf_9 ?_
    refine lv_iload_n hx hb dX1_sizeOf_12 rfl (lv_at hl 1 rfl) ?_
    replace hF := ckI_some hF
    obtain ⟨hi_3, hF⟩ := hF
    refine va_iald hx hb hK hP 2 0 gtX1_2 rfl hi_3 dX1_sizeOf_13 ?_
    refine lv_goto (tgt := 18) hx hb dX1_sizeOf_14 (by decide) ?_
    cases hF
    exact hQ _ _ _ _ _ _ (fun _ => 0) dX1_sizeOf_18 hP hD hS (Nat.le_of_ble_eq_true rfl) (Nat.le_of_ble_eq_true rfl)

def fX1_wornOf (nM : Int32) (worn : FN) (a1 : Int32) : Option (Int32) := (fX1_has nM a1).bind fun z1 => if z1 = 0 then some 0 else ckI a1 5 (some (worn a1.toNatClampNeg))
abbrev rX1_wornOf : Room := { frames := 1, cells := 0, slots := 0, locals := 21 }
set_option maxHeartbeats 4000000 in
set_option maxRecDepth 100000 in
theorem kX1_wornOf (l : Launch) (D : va_G) (cy : Nat → ClassId) (sa : SAT) (h : Nat → Nat) (nM : Int32) (mark : FN) (size : FN) (worn : FN) (a1 : Int32) (z : Int32) (hF : fX1_wornOf nM worn a1 = some z) : KI l D (tyW cy) sa yX1_wornOf wsX1_wornOf rX1_wornOf [.ref (h 0), .int a1] (wX1 cy h nM mark size worn) z (fun _ => wX1 cy h nM mark size worn) 0 0 := by
  refine KI.of (cc := cX1_wornOf) (maxL := 2) (by decide +kernel) rfl (Nat.le_of_ble_eq_true rfl) ?_
  intro p e s m args below meth c A ls Q hE hQ
  obtain ⟨hx, hb, hml, hown, hts, hA, hP, hK, hD, hG, hl, hnm⟩ := hE
  replace hown : s.vm.findClass RX1 = some m.cls := hown
  have hiX1 : ∀ w ∈ u_ws RX1 TX1 4, w ∈ wsX1_wornOf := by decide +kernel
  have hf22 : (Cond.fieldLink RX1 22 "RagVats$Moulds" "worn" "[I").before args s = true := hts _ (by decide +kernel)
  replace hl : lv_has ls 2 [(0, .ref (h 0)), (1, .int a1)] := hl
  have hS : va_S A s.heap s.heap [] := va_S.rf
  unfold fX1_wornOf at hF
  refine lv_aload_n hx hb dX1_wornOf_0 rfl (lv_at hl 0 rfl) ?_
  refine lv_iload_n hx hb dX1_wornOf_1 rfl (lv_at hl 1 rfl) ?_
  replace hF := bnd_some hF
  obtain ⟨z1, hz_1, hF⟩ := hF
  refine krI (kV (As := [.int a1]) ⟨hx, hb, hml, hown, hts⟩ (kX1_has l D cy sa h nM mark size worn a1 z1 hz_1 _) (cwV 1 hts gX1_wornOf_X1_has rfl rfl rfl (by decide +kernel) ⟨Nat.le_of_ble_eq_true rfl, Nat.le_of_ble_eq_true rfl⟩) hK hP hD hS hA hG [0, 1, 2, 3] hcX1_X1_0 ndX1_0 gtX1_0 rfl rfl rfl hl.1 [] rfl (Nat.le_of_ble_eq_true rfl) dX1_wornOf_2 ⟨(Nat.le_of_ble_eq_true rfl), (Nat.le_of_ble_eq_true rfl)⟩) hP hD hS hA [0, 1, 2, 3] hcX1_X1_0 (fun H locs hP hS => ?_)
  refine lv_if_eq (tgt := 17) hx hb dX1_wornOf_5 (by decide) (fun c_2 => ?_) (fun c_2 => ?_)
  · replace hF := if_t hF c_2
    refine lv_iconst (v := 0) hx hb dX1_wornOf_17 (by decide) ?_
    cases hF
    exact hQ _ _ _ _ _ _ (fun _ => 0) dX1_wornOf_18 hP hD hS (Nat.le_of_ble_eq_true rfl) (Nat.le_of_ble_eq_true rfl)
  · replace hF := if_f hF c_2
    refine lv_aload_n hx hb dX1_wornOf_8 rfl (lv_at hl 0 rfl) ?_
    refine va_get (D := D) (C := RX1) (T := TX1) (N := 4) hx hb hts hiX1 hown hK hP 0 gtX1_0 rfl 3 (by decide) hf22 (fun _ h9 => h9) rfl dX1_wornOf_9 ?_
    refine lv_iload_n hx hb dX1_wornOf_12 rfl (lv_at hl 1 rfl) ?_
    replace hF := ckI_some hF
    obtain ⟨hi_3, hF⟩ := hF
    refine va_iald hx hb hK hP 3 0 gtX1_3 rfl hi_3 dX1_wornOf_13 ?_
    refine lv_goto (tgt := 18) hx hb dX1_wornOf_14 (by decide) ?_
    cases hF
    exact hQ _ _ _ _ _ _ (fun _ => 0) dX1_wornOf_18 hP hD hS (Nat.le_of_ble_eq_true rfl) (Nat.le_of_ble_eq_true rfl)

def fX3_has (nT : Int32) (a1 : Int32) : Option (Int32) := if a1 < 0 then some 0 else if nT ≤ a1 then some 0 else if 3 ≤ a1 then some 0 else some 1
abbrev rX3_has : Room := { frames := 0, cells := 0, slots := 0, locals := 0 }
set_option maxHeartbeats 4000000 in
set_option maxRecDepth 100000 in
theorem kX3_has (l : Launch) (D : va_G) (cy : Nat → ClassId) (sa : SAT) (h : Nat → Nat) (nT : Int32) (skill : FN) (vat : FN) (pair : FN) (a1 : Int32) (z : Int32) (hF : fX3_has nT a1 = some z) : KI l D (tyW cy) sa yX3_has wsX3_has rX3_has [.ref (h 0), .int a1] (wX3 cy h nT skill vat pair) z (fun _ => wX3 cy h nT skill vat pair) 0 0 := by
  refine KI.ofZ (cc := cX3_has) (maxL := 2) (by decide +kernel) rfl (Nat.le_of_ble_eq_true rfl) ?_
  intro p e s m args below meth c A ls Q hE hQ
  obtain ⟨hx, hb, hml, hown, hts, hA, hP, hK, hD, hG, hl, hnm⟩ := hE
  replace hown : s.vm.findClass RX3 = some m.cls := hown
  have hiX3 : ∀ w ∈ u_ws RX3 TX3 4, w ∈ wsX3_has := by decide +kernel
  have hf9 : (Cond.fieldLink RX3 9 "RagVats$Teams" "number" "I").before args s = true := hts _ (by decide +kernel)
  replace hl : lv_has ls 2 [(0, .ref (h 0)), (1, .int a1)] := hl
  have hS : va_S A s.heap s.heap [] := va_S.rf
  unfold fX3_has at hF
  refine lv_iload_n hx hb dX3_has_0 rfl (lv_at hl 1 rfl) ?_
  refine lv_if_lt (tgt := 21) hx hb dX3_has_1 (by decide) (fun c_1 => ?_) (fun c_1 => ?_)
  · replace hF := if_t hF c_1
    refine lv_iconst (v := 0) hx hb dX3_has_21 (by decide) ?_
    cases hF
    exact hQ _ _ _ _ _ _ (fun _ => 0) rfl dX3_has_22 hP hD hS (Nat.le_of_ble_eq_true rfl) (Nat.le_of_ble_eq_true rfl)
  · replace hF := if_f hF c_1
    refine lv_iload_n hx hb dX3_has_4 rfl (lv_at hl 1 rfl) ?_
    refine lv_aload_n hx hb dX3_has_5 rfl (lv_at hl 0 rfl) ?_
    refine va_get (D := D) (C := RX3) (T := TX3) (N := 4) hx hb hts hiX3 hown hK hP 0 gtX3_0 rfl 0 (by decide) hf9 (fun _ h9 => h9) rfl dX3_has_6 ?_
    refine lv_icmp_ge (tgt := 21) hx hb dX3_has_9 (by decide) (fun c_2 => ?_) (fun c_2 => ?_)
    · replace hF := if_t hF c_2
      refine lv_iconst (v := 0) hx hb dX3_has_21 (by decide) ?_
      cases hF
      exact hQ _ _ _ _ _ _ (fun _ => 0) rfl dX3_has_22 hP hD hS (Nat.le_of_ble_eq_true rfl) (Nat.le_of_ble_eq_true rfl)
    · replace hF := if_f hF c_2
      refine lv_iload_n hx hb dX3_has_12 rfl (lv_at hl 1 rfl) ?_
      refine lv_iconst (v := 3) hx hb dX3_has_13 (by decide) ?_
      refine lv_icmp_ge (tgt := 21) hx hb dX3_has_14 (by decide) (fun c_3 => ?_) (fun c_3 => ?_)
      · replace hF := if_t hF c_3
        refine lv_iconst (v := 0) hx hb dX3_has_21 (by decide) ?_
        cases hF
        exact hQ _ _ _ _ _ _ (fun _ => 0) rfl dX3_has_22 hP hD hS (Nat.le_of_ble_eq_true rfl) (Nat.le_of_ble_eq_true rfl)
      · replace hF := if_f hF c_3
        refine lv_iconst (v := 1) hx hb dX3_has_17 (by decide) ?_
        refine lv_goto (tgt := 22) hx hb dX3_has_18 (by decide) ?_
        cases hF
        exact hQ _ _ _ _ _ _ (fun _ => 0) rfl dX3_has_22 hP hD hS (Nat.le_of_ble_eq_true rfl) (Nat.le_of_ble_eq_true rfl)

def fX3_pairOf (nT : Int32) (pair : FN) (a1 : Int32) : Option (Int32) := (fX3_has nT a1).bind fun z1 => if z1 = 0 then some (-1) else ckI a1 3 (some (pair a1.toNatClampNeg))
abbrev rX3_pairOf : Room := { frames := 1, cells := 0, slots := 0, locals := 21 }
set_option maxHeartbeats 4000000 in
set_option maxRecDepth 100000 in
theorem kX3_pairOf (l : Launch) (D : va_G) (cy : Nat → ClassId) (sa : SAT) (h : Nat → Nat) (nT : Int32) (skill : FN) (vat : FN) (pair : FN) (a1 : Int32) (z : Int32) (hF : fX3_pairOf nT pair a1 = some z) : KI l D (tyW cy) sa yX3_pairOf wsX3_pairOf rX3_pairOf [.ref (h 0), .int a1] (wX3 cy h nT skill vat pair) z (fun _ => wX3 cy h nT skill vat pair) 0 0 := by
  refine KI.of (cc := cX3_pairOf) (maxL := 2) (by decide +kernel) rfl (Nat.le_of_ble_eq_true rfl) ?_
  intro p e s m args below meth c A ls Q hE hQ
  obtain ⟨hx, hb, hml, hown, hts, hA, hP, hK, hD, hG, hl, hnm⟩ := hE
  replace hown : s.vm.findClass RX3 = some m.cls := hown
  have hiX3 : ∀ w ∈ u_ws RX3 TX3 4, w ∈ wsX3_pairOf := by decide +kernel
  have hf22 : (Cond.fieldLink RX3 22 "RagVats$Teams" "pair" "[I").before args s = true := hts _ (by decide +kernel)
  replace hl : lv_has ls 2 [(0, .ref (h 0)), (1, .int a1)] := hl
  have hS : va_S A s.heap s.heap [] := va_S.rf
  unfold fX3_pairOf at hF
  refine lv_aload_n hx hb dX3_pairOf_0 rfl (lv_at hl 0 rfl) ?_
  refine lv_iload_n hx hb dX3_pairOf_1 rfl (lv_at hl 1 rfl) ?_
  replace hF := bnd_some hF
  obtain ⟨z1, hz_1, hF⟩ := hF
  refine krI (kV (As := [.int a1]) ⟨hx, hb, hml, hown, hts⟩ (kX3_has l D cy sa h nT skill vat pair a1 z1 hz_1 _) (cwV 1 hts gX3_pairOf_X3_has rfl rfl rfl (by decide +kernel) ⟨Nat.le_of_ble_eq_true rfl, Nat.le_of_ble_eq_true rfl⟩) hK hP hD hS hA hG [0, 1, 2, 3] hcX3_X3_0 ndX3_0 gtX3_0 rfl rfl rfl hl.1 [] rfl (Nat.le_of_ble_eq_true rfl) dX3_pairOf_2 ⟨(Nat.le_of_ble_eq_true rfl), (Nat.le_of_ble_eq_true rfl)⟩) hP hD hS hA [0, 1, 2, 3] hcX3_X3_0 (fun H locs hP hS => ?_)
  refine lv_if_eq (tgt := 17) hx hb dX3_pairOf_5 (by decide) (fun c_2 => ?_) (fun c_2 => ?_)
  · replace hF := if_t hF c_2
    refine lv_iconst (v := -1) hx hb dX3_pairOf_17 (by decide) ?_
    cases hF
    exact hQ _ _ _ _ _ _ (fun _ => 0) dX3_pairOf_18 hP hD hS (Nat.le_of_ble_eq_true rfl) (Nat.le_of_ble_eq_true rfl)
  · replace hF := if_f hF c_2
    refine lv_aload_n hx hb dX3_pairOf_8 rfl (lv_at hl 0 rfl) ?_
    refine va_get (D := D) (C := RX3) (T := TX3) (N := 4) hx hb hts hiX3 hown hK hP 0 gtX3_0 rfl 3 (by decide) hf22 (fun _ h9 => h9) rfl dX3_pairOf_9 ?_
    refine lv_iload_n hx hb dX3_pairOf_12 rfl (lv_at hl 1 rfl) ?_
    replace hF := ckI_some hF
    obtain ⟨hi_3, hF⟩ := hF
    refine va_iald hx hb hK hP 3 0 gtX3_3 rfl hi_3 dX3_pairOf_13 ?_
    refine lv_goto (tgt := 18) hx hb dX3_pairOf_14 (by decide) ?_
    cases hF
    exact hQ _ _ _ _ _ _ (fun _ => 0) dX3_pairOf_18 hP hD hS (Nat.le_of_ble_eq_true rfl) (Nat.le_of_ble_eq_true rfl)

def fX3_holderOf_L9 (nT : Int32) (pair : FN) (a1 : Int32) : Nat → Int32 → Option (Int32)
  | 0, _ => none
  | k + 1, x2_9 => if nT ≤ x2_9 then some (-1) else (fX3_pairOf nT pair x2_9).bind fun z3 => if z3 = a1 then some x2_9 else fX3_holderOf_L9 nT pair a1 k (x2_9 + 1)
def fX3_holderOf (nT : Int32) (pair : FN) (a1 : Int32) : Option (Int32) := if a1 = (-1) then some (-1) else fX3_holderOf_L9 nT pair a1 300 0
abbrev rX3_holderOf : Room := { frames := 2, cells := 0, slots := 0, locals := 42 }
set_option maxHeartbeats 4000000 in
set_option maxRecDepth 100000 in
theorem kX3_holderOf (l : Launch) (D : va_G) (cy : Nat → ClassId) (sa : SAT) (h : Nat → Nat) (nT : Int32) (skill : FN) (vat : FN) (pair : FN) (a1 : Int32) (z : Int32) (hF : fX3_holderOf nT pair a1 = some z) : KI l D (tyW cy) sa yX3_holderOf wsX3_holderOf rX3_holderOf [.ref (h 0), .int a1] (wX3 cy h nT skill vat pair) z (fun _ => wX3 cy h nT skill vat pair) 0 0 := by
  refine KI.of (cc := cX3_holderOf) (maxL := 3) (by decide +kernel) rfl (Nat.le_of_ble_eq_true rfl) ?_
  intro p e s m args below meth c A ls Q hE hQ
  obtain ⟨hx, hb, hml, hown, hts, hA, hP, hK, hD, hG, hl, hnm⟩ := hE
  replace hown : s.vm.findClass RX3 = some m.cls := hown
  have hiX3 : ∀ w ∈ u_ws RX3 TX3 4, w ∈ wsX3_holderOf := by decide +kernel
  have hf9 : (Cond.fieldLink RX3 9 "RagVats$Teams" "number" "I").before args s = true := hts _ (by decide +kernel)
  replace hl : lv_has ls 3 [(0, .ref (h 0)), (1, .int a1)] := hl
  have hS : va_S A s.heap s.heap [] := va_S.rf
  have L9 : ∀ (k : Nat) (x2_9 : Int32), fX3_holderOf_L9 nT pair a1 k x2_9 = some z → ∀ (H : Heap) (locs : List Loc) (ls : Array Slot), va_P D vwCl (wX3 cy h nT skill vat pair) H → va_D A (wX3 cy h nT skill vat pair) → va_S A s.heap H locs → lv_has ls 3 [(0, .ref (h 0)), (1, .int a1), (2, .int x2_9)] → W p l e rX3_holderOf s m args below meth c H locs 0 0 Q (F0 m 9 ls []) := by
    intro k
    induction k with
    | zero =>
      intro x2_9 hF
      rw [fX3_holderOf_L9] at hF
      cases hF
    | succ k ih =>
      intro x2_9 hF H locs ls hP hD hS hl
      rw [fX3_holderOf_L9] at hF
      refine lv_iload_n hx hb dX3_holderOf_9 rfl (lv_at hl 2 rfl) ?_
      refine lv_aload_n hx hb dX3_holderOf_10 rfl (lv_at hl 0 rfl) ?_
      refine va_get (D := D) (C := RX3) (T := TX3) (N := 4) hx hb hts hiX3 hown hK hP 0 gtX3_0 rfl 0 (by decide) hf9 (fun _ h9 => h9) rfl dX3_holderOf_11 ?_
      refine lv_icmp_ge (tgt := 34) hx hb dX3_holderOf_14 (by decide) (fun c_2 => ?_) (fun c_2 => ?_)
      · replace hF := if_t hF c_2
        refine lv_iconst (v := -1) hx hb dX3_holderOf_34 (by decide) ?_
        cases hF
        exact hQ _ _ _ _ _ _ (fun _ => 0) dX3_holderOf_35 hP hD hS (Nat.le_of_ble_eq_true rfl) (Nat.le_of_ble_eq_true rfl)
      · replace hF := if_f hF c_2
        refine lv_aload_n hx hb dX3_holderOf_17 rfl (lv_at hl 0 rfl) ?_
        refine lv_iload_n hx hb dX3_holderOf_18 rfl (lv_at hl 2 rfl) ?_
        replace hF := bnd_some hF
        obtain ⟨z3, hz_3, hF⟩ := hF
        refine krI (kV (As := [.int x2_9]) ⟨hx, hb, hml, hown, hts⟩ (kX3_pairOf l D cy sa h nT skill vat pair x2_9 z3 hz_3 _) (cwV 1 hts gX3_holderOf_X3_pairOf rfl rfl rfl (by decide +kernel) ⟨Nat.le_of_ble_eq_true rfl, Nat.le_of_ble_eq_true rfl⟩) hK hP hD hS hA hG [0, 1, 2, 3] hcX3_X3_0 ndX3_0 gtX3_0 rfl rfl rfl hl.1 [] rfl (Nat.le_of_ble_eq_true rfl) dX3_holderOf_19 ⟨(Nat.le_of_ble_eq_true rfl), (Nat.le_of_ble_eq_true rfl)⟩) hP hD hS hA [0, 1, 2, 3] hcX3_X3_0 (fun H locs hP hS => ?_)
        refine lv_iload_n hx hb dX3_holderOf_22 rfl (lv_at hl 1 rfl) ?_
        refine lv_icmp_ne (tgt := 28) hx hb dX3_holderOf_23 (by decide) (fun c_4 => ?_) (fun c_4 => ?_)
        · replace hF := if_f hF c_4
          refine lv_iinc (v := x2_9 + 1) (lv' := [(2, .int (x2_9 + 1)), (0, .ref (h 0)), (1, .int a1)]) hx hb dX3_holderOf_28 hl (k := 2) rfl rfl (by decide) rfl (fun ls hl => ?_)
          refine lv_goto (tgt := 9) hx hb dX3_holderOf_31 (by decide) ?_
          exact ih  (x2_9 + 1)  hF _ _ _ hP hD hS (lv_sub hl [1, 2, 0] rfl)
        · replace hF := if_t hF c_4
          refine lv_iload_n hx hb dX3_holderOf_26 rfl (lv_at hl 2 rfl) ?_
          cases hF
          exact hQ _ _ _ _ _ _ (fun _ => 0) dX3_holderOf_27 hP hD hS (Nat.le_of_ble_eq_true rfl) (Nat.le_of_ble_eq_true rfl)
  unfold fX3_holderOf at hF
  refine lv_iload_n hx hb dX3_holderOf_0 rfl (lv_at hl 1 rfl) ?_
  refine lv_iconst (v := -1) hx hb dX3_holderOf_1 (by decide) ?_
  refine lv_icmp_ne (tgt := 7) hx hb dX3_holderOf_2 (by decide) (fun c_1 => ?_) (fun c_1 => ?_)
  · replace hF := if_f hF c_1
    refine lv_iconst (v := 0) hx hb dX3_holderOf_7 (by decide) ?_
    refine lv_istore_n (lv' := [(2, .int 0), (0, .ref (h 0)), (1, .int a1)]) hx hb dX3_holderOf_8 rfl hl (by decide) rfl (fun ls hl => ?_)
    exact L9 300 0  hF _ _ _ hP hD hS (lv_sub hl [1, 2, 0] rfl)
  · replace hF := if_t hF c_1
    refine lv_iconst (v := -1) hx hb dX3_holderOf_5 (by decide) ?_
    cases hF
    exact hQ _ _ _ _ _ _ (fun _ => 0) dX3_holderOf_6 hP hD hS (Nat.le_of_ble_eq_true rfl) (Nat.le_of_ble_eq_true rfl)

def fX3_skillOf (nT : Int32) (skill : FN) (a1 : Int32) : Option (Int32) := (fX3_has nT a1).bind fun z1 => if z1 = 0 then some 0 else ckI a1 3 (some (skill a1.toNatClampNeg))
abbrev rX3_skillOf : Room := { frames := 1, cells := 0, slots := 0, locals := 21 }
set_option maxHeartbeats 4000000 in
set_option maxRecDepth 100000 in
theorem kX3_skillOf (l : Launch) (D : va_G) (cy : Nat → ClassId) (sa : SAT) (h : Nat → Nat) (nT : Int32) (skill : FN) (vat : FN) (pair : FN) (a1 : Int32) (z : Int32) (hF : fX3_skillOf nT skill a1 = some z) : KI l D (tyW cy) sa yX3_skillOf wsX3_skillOf rX3_skillOf [.ref (h 0), .int a1] (wX3 cy h nT skill vat pair) z (fun _ => wX3 cy h nT skill vat pair) 0 0 := by
  refine KI.of (cc := cX3_skillOf) (maxL := 2) (by decide +kernel) rfl (Nat.le_of_ble_eq_true rfl) ?_
  intro p e s m args below meth c A ls Q hE hQ
  obtain ⟨hx, hb, hml, hown, hts, hA, hP, hK, hD, hG, hl, hnm⟩ := hE
  replace hown : s.vm.findClass RX3 = some m.cls := hown
  have hiX3 : ∀ w ∈ u_ws RX3 TX3 4, w ∈ wsX3_skillOf := by decide +kernel
  have hf15 : (Cond.fieldLink RX3 15 "RagVats$Teams" "skill" "[I").before args s = true := hts _ (by decide +kernel)
  replace hl : lv_has ls 2 [(0, .ref (h 0)), (1, .int a1)] := hl
  have hS : va_S A s.heap s.heap [] := va_S.rf
  unfold fX3_skillOf at hF
  refine lv_aload_n hx hb dX3_skillOf_0 rfl (lv_at hl 0 rfl) ?_
  refine lv_iload_n hx hb dX3_skillOf_1 rfl (lv_at hl 1 rfl) ?_
  replace hF := bnd_some hF
  obtain ⟨z1, hz_1, hF⟩ := hF
  refine krI (kV (As := [.int a1]) ⟨hx, hb, hml, hown, hts⟩ (kX3_has l D cy sa h nT skill vat pair a1 z1 hz_1 _) (cwV 1 hts gX3_skillOf_X3_has rfl rfl rfl (by decide +kernel) ⟨Nat.le_of_ble_eq_true rfl, Nat.le_of_ble_eq_true rfl⟩) hK hP hD hS hA hG [0, 1, 2, 3] hcX3_X3_0 ndX3_0 gtX3_0 rfl rfl rfl hl.1 [] rfl (Nat.le_of_ble_eq_true rfl) dX3_skillOf_2 ⟨(Nat.le_of_ble_eq_true rfl), (Nat.le_of_ble_eq_true rfl)⟩) hP hD hS hA [0, 1, 2, 3] hcX3_X3_0 (fun H locs hP hS => ?_)
  refine lv_if_eq (tgt := 17) hx hb dX3_skillOf_5 (by decide) (fun c_2 => ?_) (fun c_2 => ?_)
  · replace hF := if_t hF c_2
    refine lv_iconst (v := 0) hx hb dX3_skillOf_17 (by decide) ?_
    cases hF
    exact hQ _ _ _ _ _ _ (fun _ => 0) dX3_skillOf_18 hP hD hS (Nat.le_of_ble_eq_true rfl) (Nat.le_of_ble_eq_true rfl)
  · replace hF := if_f hF c_2
    refine lv_aload_n hx hb dX3_skillOf_8 rfl (lv_at hl 0 rfl) ?_
    refine va_get (D := D) (C := RX3) (T := TX3) (N := 4) hx hb hts hiX3 hown hK hP 0 gtX3_0 rfl 1 (by decide) hf15 (fun _ h9 => h9) rfl dX3_skillOf_9 ?_
    refine lv_iload_n hx hb dX3_skillOf_12 rfl (lv_at hl 1 rfl) ?_
    replace hF := ckI_some hF
    obtain ⟨hi_3, hF⟩ := hF
    refine va_iald hx hb hK hP 1 0 gtX3_1 rfl hi_3 dX3_skillOf_13 ?_
    refine lv_goto (tgt := 18) hx hb dX3_skillOf_14 (by decide) ?_
    cases hF
    exact hQ _ _ _ _ _ _ (fun _ => 0) dX3_skillOf_18 hP hD hS (Nat.le_of_ble_eq_true rfl) (Nat.le_of_ble_eq_true rfl)

def fX3_vatOf (nT : Int32) (vat : FN) (a1 : Int32) : Option (Int32) := (fX3_has nT a1).bind fun z1 => if z1 = 0 then some (-1) else ckI a1 3 (some (vat a1.toNatClampNeg))
abbrev rX3_vatOf : Room := { frames := 1, cells := 0, slots := 0, locals := 21 }
set_option maxHeartbeats 4000000 in
set_option maxRecDepth 100000 in
theorem kX3_vatOf (l : Launch) (D : va_G) (cy : Nat → ClassId) (sa : SAT) (h : Nat → Nat) (nT : Int32) (skill : FN) (vat : FN) (pair : FN) (a1 : Int32) (z : Int32) (hF : fX3_vatOf nT vat a1 = some z) : KI l D (tyW cy) sa yX3_vatOf wsX3_vatOf rX3_vatOf [.ref (h 0), .int a1] (wX3 cy h nT skill vat pair) z (fun _ => wX3 cy h nT skill vat pair) 0 0 := by
  refine KI.of (cc := cX3_vatOf) (maxL := 2) (by decide +kernel) rfl (Nat.le_of_ble_eq_true rfl) ?_
  intro p e s m args below meth c A ls Q hE hQ
  obtain ⟨hx, hb, hml, hown, hts, hA, hP, hK, hD, hG, hl, hnm⟩ := hE
  replace hown : s.vm.findClass RX3 = some m.cls := hown
  have hiX3 : ∀ w ∈ u_ws RX3 TX3 4, w ∈ wsX3_vatOf := by decide +kernel
  have hf19 : (Cond.fieldLink RX3 19 "RagVats$Teams" "vat" "[I").before args s = true := hts _ (by decide +kernel)
  replace hl : lv_has ls 2 [(0, .ref (h 0)), (1, .int a1)] := hl
  have hS : va_S A s.heap s.heap [] := va_S.rf
  unfold fX3_vatOf at hF
  refine lv_aload_n hx hb dX3_vatOf_0 rfl (lv_at hl 0 rfl) ?_
  refine lv_iload_n hx hb dX3_vatOf_1 rfl (lv_at hl 1 rfl) ?_
  replace hF := bnd_some hF
  obtain ⟨z1, hz_1, hF⟩ := hF
  refine krI (kV (As := [.int a1]) ⟨hx, hb, hml, hown, hts⟩ (kX3_has l D cy sa h nT skill vat pair a1 z1 hz_1 _) (cwV 1 hts gX3_vatOf_X3_has rfl rfl rfl (by decide +kernel) ⟨Nat.le_of_ble_eq_true rfl, Nat.le_of_ble_eq_true rfl⟩) hK hP hD hS hA hG [0, 1, 2, 3] hcX3_X3_0 ndX3_0 gtX3_0 rfl rfl rfl hl.1 [] rfl (Nat.le_of_ble_eq_true rfl) dX3_vatOf_2 ⟨(Nat.le_of_ble_eq_true rfl), (Nat.le_of_ble_eq_true rfl)⟩) hP hD hS hA [0, 1, 2, 3] hcX3_X3_0 (fun H locs hP hS => ?_)
  refine lv_if_eq (tgt := 17) hx hb dX3_vatOf_5 (by decide) (fun c_2 => ?_) (fun c_2 => ?_)
  · replace hF := if_t hF c_2
    refine lv_iconst (v := -1) hx hb dX3_vatOf_17 (by decide) ?_
    cases hF
    exact hQ _ _ _ _ _ _ (fun _ => 0) dX3_vatOf_18 hP hD hS (Nat.le_of_ble_eq_true rfl) (Nat.le_of_ble_eq_true rfl)
  · replace hF := if_f hF c_2
    refine lv_aload_n hx hb dX3_vatOf_8 rfl (lv_at hl 0 rfl) ?_
    refine va_get (D := D) (C := RX3) (T := TX3) (N := 4) hx hb hts hiX3 hown hK hP 0 gtX3_0 rfl 2 (by decide) hf19 (fun _ h9 => h9) rfl dX3_vatOf_9 ?_
    refine lv_iload_n hx hb dX3_vatOf_12 rfl (lv_at hl 1 rfl) ?_
    replace hF := ckI_some hF
    obtain ⟨hi_3, hF⟩ := hF
    refine va_iald hx hb hK hP 2 0 gtX3_2 rfl hi_3 dX3_vatOf_13 ?_
    refine lv_goto (tgt := 18) hx hb dX3_vatOf_14 (by decide) ?_
    cases hF
    exact hQ _ _ _ _ _ _ (fun _ => 0) dX3_vatOf_18 hP hD hS (Nat.le_of_ble_eq_true rfl) (Nat.le_of_ble_eq_true rfl)

def fX2_add (nQ : Int32) (allS : Int32) (pmark : FN) (pgrade : FN) (psheets : FN) (a1 : Int32) (a2 : Int32) (a3 : Int32) : Option (Int32 × Int32 × FN × FN × FN) := if 90 ≤ nQ then some (nQ, allS, pmark, pgrade, psheets) else ckI nQ 90 (ckI nQ 90 (ckI nQ 90 (some (nQ + 1, allS + a3, upd pmark nQ.toNatClampNeg a1, upd pgrade nQ.toNatClampNeg a2, upd psheets nQ.toNatClampNeg a3))))
abbrev rX2_add : Room := { frames := 0, cells := 0, slots := 0, locals := 0 }
set_option maxHeartbeats 4000000 in
set_option maxRecDepth 100000 in
theorem kX2_add (l : Launch) (D : va_G) (cy : Nat → ClassId) (sa : SAT) (h : Nat → Nat) (nQ : Int32) (allS : Int32) (pmark : FN) (pgrade : FN) (psheets : FN) (a1 : Int32) (a2 : Int32) (a3 : Int32) (z : Int32 × Int32 × FN × FN × FN) (hF : fX2_add nQ allS pmark pgrade psheets a1 a2 a3 = some z) : KV l D (tyW cy) sa yX2_add wsX2_add rX2_add [.ref (h 0), .int a1, .int a2, .int a3] (wX2 cy h nQ allS pmark pgrade psheets) (fun _ => wX2 cy h z.1 z.2.1 z.2.2.1 z.2.2.2.1 z.2.2.2.2) 0 0 := by
  refine KV.of (cc := cX2_add) (maxL := 4) (by decide +kernel) rfl (Nat.le_of_ble_eq_true rfl) ?_
  intro p e s m args below meth c A ls Q hE hQ
  obtain ⟨hx, hb, hml, hown, hts, hA, hP, hK, hD, hG, hl, hnm⟩ := hE
  replace hown : s.vm.findClass RX2 = some m.cls := hown
  have hiX2 : ∀ w ∈ u_ws RX2 TX2 5, w ∈ wsX2_add := by decide +kernel
  have hf9 : (Cond.fieldLink RX2 9 "RagVats$Posts" "number" "I").before args s = true := hts _ (by decide +kernel)
  have hf15 : (Cond.fieldLink RX2 15 "RagVats$Posts" "allSheets" "I").before args s = true := hts _ (by decide +kernel)
  have hf18 : (Cond.fieldLink RX2 18 "RagVats$Posts" "mark" "[I").before args s = true := hts _ (by decide +kernel)
  have hf22 : (Cond.fieldLink RX2 22 "RagVats$Posts" "grade" "[I").before args s = true := hts _ (by decide +kernel)
  have hf25 : (Cond.fieldLink RX2 25 "RagVats$Posts" "sheets" "[I").before args s = true := hts _ (by decide +kernel)
  replace hl : lv_has ls 4 [(0, .ref (h 0)), (1, .int a1), (2, .int a2), (3, .int a3)] := hl
  have hS : va_S A s.heap s.heap [] := va_S.rf
  unfold fX2_add at hF
  refine lv_aload_n hx hb dX2_add_0 rfl (lv_at hl 0 rfl) ?_
  refine va_get (D := D) (C := RX2) (T := TX2) (N := 5) hx hb hts hiX2 hown hK hP 0 gtX2_0 rfl 0 (by decide) hf9 (fun _ h9 => h9) rfl dX2_add_1 ?_
  refine lv_bipush (v := 90) hx hb dX2_add_4 (by decide) ?_
  refine lv_icmp_ge (tgt := 59) hx hb dX2_add_6 (by decide) (fun c_1 => ?_) (fun c_1 => ?_)
  · replace hF := if_t hF c_1
    cases hF
    exact hQ _ _ _ _ _ _ (fun _ => 0) dX2_add_59 hP hD hS (Nat.le_of_ble_eq_true rfl) (Nat.le_of_ble_eq_true rfl)
  · replace hF := if_f hF c_1
    refine lv_aload_n hx hb dX2_add_9 rfl (lv_at hl 0 rfl) ?_
    refine va_get (D := D) (C := RX2) (T := TX2) (N := 5) hx hb hts hiX2 hown hK hP 0 gtX2_0 rfl 2 (by decide) hf18 (fun _ h9 => h9) rfl dX2_add_10 ?_
    refine lv_aload_n hx hb dX2_add_13 rfl (lv_at hl 0 rfl) ?_
    refine va_get (D := D) (C := RX2) (T := TX2) (N := 5) hx hb hts hiX2 hown hK hP 0 gtX2_0 rfl 0 (by decide) hf9 (fun _ h9 => h9) rfl dX2_add_14 ?_
    refine lv_iload_n hx hb dX2_add_17 rfl (lv_at hl 1 rfl) ?_
    replace hF := ckI_some hF
    obtain ⟨hi_2, hF⟩ := hF
    refine va_iast hx hb hK hP hD hS 1 0 gtX2_1 rfl hi_2 dX2_add_18 (fun H locs hP hD hS => ?_)
    rw [stX2_1] at hP hD
    refine lv_aload_n hx hb dX2_add_19 rfl (lv_at hl 0 rfl) ?_
    refine va_get (D := D) (C := RX2) (T := TX2) (N := 5) hx hb hts hiX2 hown hK hP 0 gtX2_0 rfl 3 (by decide) hf22 (fun _ h9 => h9) rfl dX2_add_20 ?_
    refine lv_aload_n hx hb dX2_add_23 rfl (lv_at hl 0 rfl) ?_
    refine va_get (D := D) (C := RX2) (T := TX2) (N := 5) hx hb hts hiX2 hown hK hP 0 gtX2_0 rfl 0 (by decide) hf9 (fun _ h9 => h9) rfl dX2_add_24 ?_
    refine lv_iload_n hx hb dX2_add_27 rfl (lv_at hl 2 rfl) ?_
    replace hF := ckI_some hF
    obtain ⟨hi_3, hF⟩ := hF
    refine va_iast hx hb hK hP hD hS 2 0 gtX2_2 rfl hi_3 dX2_add_28 (fun H locs hP hD hS => ?_)
    rw [stX2_2] at hP hD
    refine lv_aload_n hx hb dX2_add_29 rfl (lv_at hl 0 rfl) ?_
    refine va_get (D := D) (C := RX2) (T := TX2) (N := 5) hx hb hts hiX2 hown hK hP 0 gtX2_0 rfl 4 (by decide) hf25 (fun _ h9 => h9) rfl dX2_add_30 ?_
    refine lv_aload_n hx hb dX2_add_33 rfl (lv_at hl 0 rfl) ?_
    refine va_get (D := D) (C := RX2) (T := TX2) (N := 5) hx hb hts hiX2 hown hK hP 0 gtX2_0 rfl 0 (by decide) hf9 (fun _ h9 => h9) rfl dX2_add_34 ?_
    refine lv_iload_n hx hb dX2_add_37 rfl (lv_at hl 3 rfl) ?_
    replace hF := ckI_some hF
    obtain ⟨hi_4, hF⟩ := hF
    refine va_iast hx hb hK hP hD hS 3 0 gtX2_3 rfl hi_4 dX2_add_38 (fun H locs hP hD hS => ?_)
    rw [stX2_3] at hP hD
    refine lv_aload_n hx hb dX2_add_39 rfl (lv_at hl 0 rfl) ?_
    refine lv_dup hx hb dX2_add_40 rfl ?_
    refine va_get (D := D) (C := RX2) (T := TX2) (N := 5) hx hb hts hiX2 hown hK hP 0 gtX2_0 rfl 0 (by decide) hf9 (fun _ h9 => h9) rfl dX2_add_41 ?_
    refine lv_iconst (v := 1) hx hb dX2_add_44 (by decide) ?_
    refine lv_iadd hx hb dX2_add_45 ?_
    refine va_put (D := D) (v := .int (nQ + 1)) (ty := .int) (C := RX2) (T := TX2) (N := 5) hx hb hts hiX2 tyX2 tyX2_ok nmX2 hown hK hP hD hS 0 gtX2_0 rfl 0 (by decide) hf9 (fun _ h9 => h9) rfl (by decide +kernel) rfl rfl (Nat.le_of_ble_eq_true rfl) dX2_add_46 (fun H locs hP hD hS => ?_)
    rw [stX2_0_0] at hP hD
    refine lv_aload_n hx hb dX2_add_49 rfl (lv_at hl 0 rfl) ?_
    refine lv_dup hx hb dX2_add_50 rfl ?_
    refine va_get (D := D) (C := RX2) (T := TX2) (N := 5) hx hb hts hiX2 hown hK hP 0 gtX2_0 rfl 1 (by decide) hf15 (fun _ h9 => h9) rfl dX2_add_51 ?_
    refine lv_iload_n hx hb dX2_add_54 rfl (lv_at hl 3 rfl) ?_
    refine lv_iadd hx hb dX2_add_55 ?_
    refine va_put (D := D) (v := .int (allS + a3)) (ty := .int) (C := RX2) (T := TX2) (N := 5) hx hb hts hiX2 tyX2 tyX2_ok nmX2 hown hK hP hD hS 0 gtX2_0 rfl 1 (by decide) hf15 (fun _ h9 => h9) rfl (by decide +kernel) rfl rfl (Nat.le_of_ble_eq_true rfl) dX2_add_56 (fun H locs hP hD hS => ?_)
    rw [stX2_0_1] at hP hD
    cases hF
    exact hQ _ _ _ _ _ _ (fun _ => 0) dX2_add_59 hP hD hS (Nat.le_of_ble_eq_true rfl) (Nat.le_of_ble_eq_true rfl)

def fX1_wearBySheets (nM : Int32) (worn : FN) (a1 : Int32) (a2 : Int32) : Option (FN) := (fX1_has nM a1).bind fun z1 => if z1 = 0 then some worn else ckI a1 5 (ckI a1 5 (some (upd worn a1.toNatClampNeg (if ((worn a1.toNatClampNeg) + ((a2 + 1) / 2)) < 50 then ((worn a1.toNatClampNeg) + ((a2 + 1) / 2)) else 50))))
abbrev rX1_wearBySheets : Room := { frames := 1, cells := 0, slots := 0, locals := 30 }
set_option maxHeartbeats 4000000 in
set_option maxRecDepth 100000 in
theorem kX1_wearBySheets (l : Launch) (D : va_G) (cy : Nat → ClassId) (sa : SAT) (h : Nat → Nat) (nM : Int32) (mark : FN) (size : FN) (worn : FN) (a1 : Int32) (a2 : Int32) (z : FN) (hF : fX1_wearBySheets nM worn a1 a2 = some z) : KV l D (tyW cy) sa yX1_wearBySheets wsX1_wearBySheets rX1_wearBySheets [.ref (h 0), .int a1, .int a2] (wX1 cy h nM mark size worn) (fun _ => wX1 cy h nM mark size z) 0 0 := by
  refine KV.of (cc := cX1_wearBySheets) (maxL := 3) (by decide +kernel) rfl (Nat.le_of_ble_eq_true rfl) ?_
  intro p e s m args below meth c A ls Q hE hQ
  obtain ⟨hx, hb, hml, hown, hts, hA, hP, hK, hD, hG, hl, hnm⟩ := hE
  replace hown : s.vm.findClass RX1 = some m.cls := hown
  have hiX1 : ∀ w ∈ u_ws RX1 TX1 4, w ∈ wsX1_wearBySheets := by decide +kernel
  have hf22 : (Cond.fieldLink RX1 22 "RagVats$Moulds" "worn" "[I").before args s = true := hts _ (by decide +kernel)
  replace hl : lv_has ls 3 [(0, .ref (h 0)), (1, .int a1), (2, .int a2)] := hl
  have hS : va_S A s.heap s.heap [] := va_S.rf
  unfold fX1_wearBySheets at hF
  refine lv_aload_n hx hb dX1_wearBySheets_0 rfl (lv_at hl 0 rfl) ?_
  refine lv_iload_n hx hb dX1_wearBySheets_1 rfl (lv_at hl 1 rfl) ?_
  replace hF := bnd_some hF
  obtain ⟨z1, hz_1, hF⟩ := hF
  refine krI (kV (As := [.int a1]) ⟨hx, hb, hml, hown, hts⟩ (kX1_has l D cy sa h nM mark size worn a1 z1 hz_1 _) (cwV 1 hts gX1_wearBySheets_X1_has rfl rfl rfl (by decide +kernel) ⟨Nat.le_of_ble_eq_true rfl, Nat.le_of_ble_eq_true rfl⟩) hK hP hD hS hA hG [0, 1, 2, 3] hcX1_X1_0 ndX1_0 gtX1_0 rfl rfl rfl hl.1 [] rfl (Nat.le_of_ble_eq_true rfl) dX1_wearBySheets_2 ⟨(Nat.le_of_ble_eq_true rfl), (Nat.le_of_ble_eq_true rfl)⟩) hP hD hS hA [0, 1, 2, 3] hcX1_X1_0 (fun H locs hP hS => ?_)
  refine lv_if_eq (tgt := 31) hx hb dX1_wearBySheets_5 (by decide) (fun c_2 => ?_) (fun c_2 => ?_)
  · replace hF := if_t hF c_2
    cases hF
    exact hQ _ _ _ _ _ _ (fun _ => 0) dX1_wearBySheets_31 hP hD hS (Nat.le_of_ble_eq_true rfl) (Nat.le_of_ble_eq_true rfl)
  · replace hF := if_f hF c_2
    refine lv_aload_n hx hb dX1_wearBySheets_8 rfl (lv_at hl 0 rfl) ?_
    refine va_get (D := D) (C := RX1) (T := TX1) (N := 4) hx hb hts hiX1 hown hK hP 0 gtX1_0 rfl 3 (by decide) hf22 (fun _ h9 => h9) rfl dX1_wearBySheets_9 ?_
    refine lv_iload_n hx hb dX1_wearBySheets_12 rfl (lv_at hl 1 rfl) ?_
    refine lv_bipush (v := 50) hx hb dX1_wearBySheets_13 (by decide) ?_
    refine lv_aload_n hx hb dX1_wearBySheets_15 rfl (lv_at hl 0 rfl) ?_
    refine va_get (D := D) (C := RX1) (T := TX1) (N := 4) hx hb hts hiX1 hown hK hP 0 gtX1_0 rfl 3 (by decide) hf22 (fun _ h9 => h9) rfl dX1_wearBySheets_16 ?_
    refine lv_iload_n hx hb dX1_wearBySheets_19 rfl (lv_at hl 1 rfl) ?_
    replace hF := ckI_some hF
    obtain ⟨hi_3, hF⟩ := hF
    refine va_iald hx hb hK hP 3 0 gtX1_3 rfl hi_3 dX1_wearBySheets_20 ?_
    refine lv_iload_n hx hb dX1_wearBySheets_21 rfl (lv_at hl 2 rfl) ?_
    refine lv_iconst (v := 1) hx hb dX1_wearBySheets_22 (by decide) ?_
    refine lv_iadd hx hb dX1_wearBySheets_23 ?_
    refine lv_iconst (v := 2) hx hb dX1_wearBySheets_24 (by decide) ?_
    refine lv_idiv hx hb dX1_wearBySheets_25 (by decide) ?_
    refine lv_iadd hx hb dX1_wearBySheets_26 ?_
    refine va_mmin hx hb (hml.trans hl.1.symm) hown (hts (.methodLink RX1 35 Lib.Math.min.name) (by decide +kernel)) (hts (.static Lib.Math.min.name) (by decide +kernel)) (hts (.initialized "java/lang/Math") (by decide +kernel)) (hts (.code Lib.Math.min.name Lib.Math.min.code 2 (some .int)) (by decide +kernel)) (Nat.le_of_ble_eq_true rfl) (Nat.le_of_ble_eq_true rfl) (Nat.le_of_ble_eq_true rfl) (Nat.le_of_ble_eq_true rfl) dX1_wearBySheets_27 ?_
    replace hF := ckI_some hF
    obtain ⟨hi_4, hF⟩ := hF
    refine va_iast hx hb hK hP hD hS 3 0 gtX1_3 rfl hi_4 dX1_wearBySheets_30 (fun H locs hP hD hS => ?_)
    rw [stX1_3] at hP hD
    cases hF
    exact hQ _ _ _ _ _ _ (fun _ => 0) dX1_wearBySheets_31 hP hD hS (Nat.le_of_ble_eq_true rfl) (Nat.le_of_ble_eq_true rfl)

def fX2_has (nQ : Int32) (a1 : Int32) : Option (Int32) := if a1 < 0 then some 0 else if nQ ≤ a1 then some 0 else if 90 ≤ a1 then some 0 else some 1
abbrev rX2_has : Room := { frames := 0, cells := 0, slots := 0, locals := 0 }
set_option maxHeartbeats 4000000 in
set_option maxRecDepth 100000 in
theorem kX2_has (l : Launch) (D : va_G) (cy : Nat → ClassId) (sa : SAT) (h : Nat → Nat) (nQ : Int32) (allS : Int32) (pmark : FN) (pgrade : FN) (psheets : FN) (a1 : Int32) (z : Int32) (hF : fX2_has nQ a1 = some z) : KI l D (tyW cy) sa yX2_has wsX2_has rX2_has [.ref (h 0), .int a1] (wX2 cy h nQ allS pmark pgrade psheets) z (fun _ => wX2 cy h nQ allS pmark pgrade psheets) 0 0 := by
  refine KI.ofZ (cc := cX2_has) (maxL := 2) (by decide +kernel) rfl (Nat.le_of_ble_eq_true rfl) ?_
  intro p e s m args below meth c A ls Q hE hQ
  obtain ⟨hx, hb, hml, hown, hts, hA, hP, hK, hD, hG, hl, hnm⟩ := hE
  replace hown : s.vm.findClass RX2 = some m.cls := hown
  have hiX2 : ∀ w ∈ u_ws RX2 TX2 5, w ∈ wsX2_has := by decide +kernel
  have hf9 : (Cond.fieldLink RX2 9 "RagVats$Posts" "number" "I").before args s = true := hts _ (by decide +kernel)
  replace hl : lv_has ls 2 [(0, .ref (h 0)), (1, .int a1)] := hl
  have hS : va_S A s.heap s.heap [] := va_S.rf
  unfold fX2_has at hF
  refine lv_iload_n hx hb dX2_has_0 rfl (lv_at hl 1 rfl) ?_
  refine lv_if_lt (tgt := 22) hx hb dX2_has_1 (by decide) (fun c_1 => ?_) (fun c_1 => ?_)
  · replace hF := if_t hF c_1
    refine lv_iconst (v := 0) hx hb dX2_has_22 (by decide) ?_
    cases hF
    exact hQ _ _ _ _ _ _ (fun _ => 0) rfl dX2_has_23 hP hD hS (Nat.le_of_ble_eq_true rfl) (Nat.le_of_ble_eq_true rfl)
  · replace hF := if_f hF c_1
    refine lv_iload_n hx hb dX2_has_4 rfl (lv_at hl 1 rfl) ?_
    refine lv_aload_n hx hb dX2_has_5 rfl (lv_at hl 0 rfl) ?_
    refine va_get (D := D) (C := RX2) (T := TX2) (N := 5) hx hb hts hiX2 hown hK hP 0 gtX2_0 rfl 0 (by decide) hf9 (fun _ h9 => h9) rfl dX2_has_6 ?_
    refine lv_icmp_ge (tgt := 22) hx hb dX2_has_9 (by decide) (fun c_2 => ?_) (fun c_2 => ?_)
    · replace hF := if_t hF c_2
      refine lv_iconst (v := 0) hx hb dX2_has_22 (by decide) ?_
      cases hF
      exact hQ _ _ _ _ _ _ (fun _ => 0) rfl dX2_has_23 hP hD hS (Nat.le_of_ble_eq_true rfl) (Nat.le_of_ble_eq_true rfl)
    · replace hF := if_f hF c_2
      refine lv_iload_n hx hb dX2_has_12 rfl (lv_at hl 1 rfl) ?_
      refine lv_bipush (v := 90) hx hb dX2_has_13 (by decide) ?_
      refine lv_icmp_ge (tgt := 22) hx hb dX2_has_15 (by decide) (fun c_3 => ?_) (fun c_3 => ?_)
      · replace hF := if_t hF c_3
        refine lv_iconst (v := 0) hx hb dX2_has_22 (by decide) ?_
        cases hF
        exact hQ _ _ _ _ _ _ (fun _ => 0) rfl dX2_has_23 hP hD hS (Nat.le_of_ble_eq_true rfl) (Nat.le_of_ble_eq_true rfl)
      · replace hF := if_f hF c_3
        refine lv_iconst (v := 1) hx hb dX2_has_18 (by decide) ?_
        refine lv_goto (tgt := 23) hx hb dX2_has_19 (by decide) ?_
        cases hF
        exact hQ _ _ _ _ _ _ (fun _ => 0) rfl dX2_has_23 hP hD hS (Nat.le_of_ble_eq_true rfl) (Nat.le_of_ble_eq_true rfl)

def fX2_sheetsOf (nQ : Int32) (psheets : FN) (a1 : Int32) : Option (Int32) := (fX2_has nQ a1).bind fun z1 => if z1 = 0 then some 0 else ckI a1 90 (some (psheets a1.toNatClampNeg))
abbrev rX2_sheetsOf : Room := { frames := 1, cells := 0, slots := 0, locals := 21 }
set_option maxHeartbeats 4000000 in
set_option maxRecDepth 100000 in
theorem kX2_sheetsOf (l : Launch) (D : va_G) (cy : Nat → ClassId) (sa : SAT) (h : Nat → Nat) (nQ : Int32) (allS : Int32) (pmark : FN) (pgrade : FN) (psheets : FN) (a1 : Int32) (z : Int32) (hF : fX2_sheetsOf nQ psheets a1 = some z) : KI l D (tyW cy) sa yX2_sheetsOf wsX2_sheetsOf rX2_sheetsOf [.ref (h 0), .int a1] (wX2 cy h nQ allS pmark pgrade psheets) z (fun _ => wX2 cy h nQ allS pmark pgrade psheets) 0 0 := by
  refine KI.of (cc := cX2_sheetsOf) (maxL := 2) (by decide +kernel) rfl (Nat.le_of_ble_eq_true rfl) ?_
  intro p e s m args below meth c A ls Q hE hQ
  obtain ⟨hx, hb, hml, hown, hts, hA, hP, hK, hD, hG, hl, hnm⟩ := hE
  replace hown : s.vm.findClass RX2 = some m.cls := hown
  have hiX2 : ∀ w ∈ u_ws RX2 TX2 5, w ∈ wsX2_sheetsOf := by decide +kernel
  have hf25 : (Cond.fieldLink RX2 25 "RagVats$Posts" "sheets" "[I").before args s = true := hts _ (by decide +kernel)
  replace hl : lv_has ls 2 [(0, .ref (h 0)), (1, .int a1)] := hl
  have hS : va_S A s.heap s.heap [] := va_S.rf
  unfold fX2_sheetsOf at hF
  refine lv_aload_n hx hb dX2_sheetsOf_0 rfl (lv_at hl 0 rfl) ?_
  refine lv_iload_n hx hb dX2_sheetsOf_1 rfl (lv_at hl 1 rfl) ?_
  replace hF := bnd_some hF
  obtain ⟨z1, hz_1, hF⟩ := hF
  refine krI (kV (As := [.int a1]) ⟨hx, hb, hml, hown, hts⟩ (kX2_has l D cy sa h nQ allS pmark pgrade psheets a1 z1 hz_1 _) (cwV 1 hts gX2_sheetsOf_X2_has rfl rfl rfl (by decide +kernel) ⟨Nat.le_of_ble_eq_true rfl, Nat.le_of_ble_eq_true rfl⟩) hK hP hD hS hA hG [0, 1, 2, 3] hcX2_X2_0 ndX2_0 gtX2_0 rfl rfl rfl hl.1 [] rfl (Nat.le_of_ble_eq_true rfl) dX2_sheetsOf_2 ⟨(Nat.le_of_ble_eq_true rfl), (Nat.le_of_ble_eq_true rfl)⟩) hP hD hS hA [0, 1, 2, 3] hcX2_X2_0 (fun H locs hP hS => ?_)
  refine lv_if_eq (tgt := 17) hx hb dX2_sheetsOf_5 (by decide) (fun c_2 => ?_) (fun c_2 => ?_)
  · replace hF := if_t hF c_2
    refine lv_iconst (v := 0) hx hb dX2_sheetsOf_17 (by decide) ?_
    cases hF
    exact hQ _ _ _ _ _ _ (fun _ => 0) dX2_sheetsOf_18 hP hD hS (Nat.le_of_ble_eq_true rfl) (Nat.le_of_ble_eq_true rfl)
  · replace hF := if_f hF c_2
    refine lv_aload_n hx hb dX2_sheetsOf_8 rfl (lv_at hl 0 rfl) ?_
    refine va_get (D := D) (C := RX2) (T := TX2) (N := 5) hx hb hts hiX2 hown hK hP 0 gtX2_0 rfl 4 (by decide) hf25 (fun _ h9 => h9) rfl dX2_sheetsOf_9 ?_
    refine lv_iload_n hx hb dX2_sheetsOf_12 rfl (lv_at hl 1 rfl) ?_
    replace hF := ckI_some hF
    obtain ⟨hi_3, hF⟩ := hF
    refine va_iald hx hb hK hP 3 0 gtX2_3 rfl hi_3 dX2_sheetsOf_13 ?_
    refine lv_goto (tgt := 18) hx hb dX2_sheetsOf_14 (by decide) ?_
    cases hF
    exact hQ _ _ _ _ _ _ (fun _ => 0) dX2_sheetsOf_18 hP hD hS (Nat.le_of_ble_eq_true rfl) (Nat.le_of_ble_eq_true rfl)

def fX2_markOf (nQ : Int32) (pmark : FN) (a1 : Int32) : Option (Int32) := (fX2_has nQ a1).bind fun z1 => if z1 = 0 then some 0 else ckI a1 90 (some (pmark a1.toNatClampNeg))
abbrev rX2_markOf : Room := { frames := 1, cells := 0, slots := 0, locals := 21 }
set_option maxHeartbeats 4000000 in
set_option maxRecDepth 100000 in
theorem kX2_markOf (l : Launch) (D : va_G) (cy : Nat → ClassId) (sa : SAT) (h : Nat → Nat) (nQ : Int32) (allS : Int32) (pmark : FN) (pgrade : FN) (psheets : FN) (a1 : Int32) (z : Int32) (hF : fX2_markOf nQ pmark a1 = some z) : KI l D (tyW cy) sa yX2_markOf wsX2_markOf rX2_markOf [.ref (h 0), .int a1] (wX2 cy h nQ allS pmark pgrade psheets) z (fun _ => wX2 cy h nQ allS pmark pgrade psheets) 0 0 := by
  refine KI.of (cc := cX2_markOf) (maxL := 2) (by decide +kernel) rfl (Nat.le_of_ble_eq_true rfl) ?_
  intro p e s m args below meth c A ls Q hE hQ
  obtain ⟨hx, hb, hml, hown, hts, hA, hP, hK, hD, hG, hl, hnm⟩ := hE
  replace hown : s.vm.findClass RX2 = some m.cls := hown
  have hiX2 : ∀ w ∈ u_ws RX2 TX2 5, w ∈ wsX2_markOf := by decide +kernel
  have hf18 : (Cond.fieldLink RX2 18 "RagVats$Posts" "mark" "[I").before args s = true := hts _ (by decide +kernel)
  replace hl : lv_has ls 2 [(0, .ref (h 0)), (1, .int a1)] := hl
  have hS : va_S A s.heap s.heap [] := va_S.rf
  unfold fX2_markOf at hF
  refine lv_aload_n hx hb dX2_markOf_0 rfl (lv_at hl 0 rfl) ?_
  refine lv_iload_n hx hb dX2_markOf_1 rfl (lv_at hl 1 rfl) ?_
  replace hF := bnd_some hF
  obtain ⟨z1, hz_1, hF⟩ := hF
  refine krI (kV (As := [.int a1]) ⟨hx, hb, hml, hown, hts⟩ (kX2_has l D cy sa h nQ allS pmark pgrade psheets a1 z1 hz_1 _) (cwV 1 hts gX2_markOf_X2_has rfl rfl rfl (by decide +kernel) ⟨Nat.le_of_ble_eq_true rfl, Nat.le_of_ble_eq_true rfl⟩) hK hP hD hS hA hG [0, 1, 2, 3] hcX2_X2_0 ndX2_0 gtX2_0 rfl rfl rfl hl.1 [] rfl (Nat.le_of_ble_eq_true rfl) dX2_markOf_2 ⟨(Nat.le_of_ble_eq_true rfl), (Nat.le_of_ble_eq_true rfl)⟩) hP hD hS hA [0, 1, 2, 3] hcX2_X2_0 (fun H locs hP hS => ?_)
  refine lv_if_eq (tgt := 17) hx hb dX2_markOf_5 (by decide) (fun c_2 => ?_) (fun c_2 => ?_)
  · replace hF := if_t hF c_2
    refine lv_iconst (v := 0) hx hb dX2_markOf_17 (by decide) ?_
    cases hF
    exact hQ _ _ _ _ _ _ (fun _ => 0) dX2_markOf_18 hP hD hS (Nat.le_of_ble_eq_true rfl) (Nat.le_of_ble_eq_true rfl)
  · replace hF := if_f hF c_2
    refine lv_aload_n hx hb dX2_markOf_8 rfl (lv_at hl 0 rfl) ?_
    refine va_get (D := D) (C := RX2) (T := TX2) (N := 5) hx hb hts hiX2 hown hK hP 0 gtX2_0 rfl 2 (by decide) hf18 (fun _ h9 => h9) rfl dX2_markOf_9 ?_
    refine lv_iload_n hx hb dX2_markOf_12 rfl (lv_at hl 1 rfl) ?_
    replace hF := ckI_some hF
    obtain ⟨hi_3, hF⟩ := hF
    refine va_iald hx hb hK hP 1 0 gtX2_1 rfl hi_3 dX2_markOf_13 ?_
    refine lv_goto (tgt := 18) hx hb dX2_markOf_14 (by decide) ?_
    cases hF
    exact hQ _ _ _ _ _ _ (fun _ => 0) dX2_markOf_18 hP hD hS (Nat.le_of_ble_eq_true rfl) (Nat.le_of_ble_eq_true rfl)

def fX2_gradeOf (nQ : Int32) (pgrade : FN) (a1 : Int32) : Option (Int32) := (fX2_has nQ a1).bind fun z1 => if z1 = 0 then some 0 else ckI a1 90 (some (pgrade a1.toNatClampNeg))
abbrev rX2_gradeOf : Room := { frames := 1, cells := 0, slots := 0, locals := 21 }
set_option maxHeartbeats 4000000 in
set_option maxRecDepth 100000 in
theorem kX2_gradeOf (l : Launch) (D : va_G) (cy : Nat → ClassId) (sa : SAT) (h : Nat → Nat) (nQ : Int32) (allS : Int32) (pmark : FN) (pgrade : FN) (psheets : FN) (a1 : Int32) (z : Int32) (hF : fX2_gradeOf nQ pgrade a1 = some z) : KI l D (tyW cy) sa yX2_gradeOf wsX2_gradeOf rX2_gradeOf [.ref (h 0), .int a1] (wX2 cy h nQ allS pmark pgrade psheets) z (fun _ => wX2 cy h nQ allS pmark pgrade psheets) 0 0 := by
  refine KI.of (cc := cX2_gradeOf) (maxL := 2) (by decide +kernel) rfl (Nat.le_of_ble_eq_true rfl) ?_
  intro p e s m args below meth c A ls Q hE hQ
  obtain ⟨hx, hb, hml, hown, hts, hA, hP, hK, hD, hG, hl, hnm⟩ := hE
  replace hown : s.vm.findClass RX2 = some m.cls := hown
  have hiX2 : ∀ w ∈ u_ws RX2 TX2 5, w ∈ wsX2_gradeOf := by decide +kernel
  have hf22 : (Cond.fieldLink RX2 22 "RagVats$Posts" "grade" "[I").before args s = true := hts _ (by decide +kernel)
  replace hl : lv_has ls 2 [(0, .ref (h 0)), (1, .int a1)] := hl
  have hS : va_S A s.heap s.heap [] := va_S.rf
  unfold fX2_gradeOf at hF
  refine lv_aload_n hx hb dX2_gradeOf_0 rfl (lv_at hl 0 rfl) ?_
  refine lv_iload_n hx hb dX2_gradeOf_1 rfl (lv_at hl 1 rfl) ?_
  replace hF := bnd_some hF
  obtain ⟨z1, hz_1, hF⟩ := hF
  refine krI (kV (As := [.int a1]) ⟨hx, hb, hml, hown, hts⟩ (kX2_has l D cy sa h nQ allS pmark pgrade psheets a1 z1 hz_1 _) (cwV 1 hts gX2_gradeOf_X2_has rfl rfl rfl (by decide +kernel) ⟨Nat.le_of_ble_eq_true rfl, Nat.le_of_ble_eq_true rfl⟩) hK hP hD hS hA hG [0, 1, 2, 3] hcX2_X2_0 ndX2_0 gtX2_0 rfl rfl rfl hl.1 [] rfl (Nat.le_of_ble_eq_true rfl) dX2_gradeOf_2 ⟨(Nat.le_of_ble_eq_true rfl), (Nat.le_of_ble_eq_true rfl)⟩) hP hD hS hA [0, 1, 2, 3] hcX2_X2_0 (fun H locs hP hS => ?_)
  refine lv_if_eq (tgt := 17) hx hb dX2_gradeOf_5 (by decide) (fun c_2 => ?_) (fun c_2 => ?_)
  · replace hF := if_t hF c_2
    refine lv_iconst (v := 0) hx hb dX2_gradeOf_17 (by decide) ?_
    cases hF
    exact hQ _ _ _ _ _ _ (fun _ => 0) dX2_gradeOf_18 hP hD hS (Nat.le_of_ble_eq_true rfl) (Nat.le_of_ble_eq_true rfl)
  · replace hF := if_f hF c_2
    refine lv_aload_n hx hb dX2_gradeOf_8 rfl (lv_at hl 0 rfl) ?_
    refine va_get (D := D) (C := RX2) (T := TX2) (N := 5) hx hb hts hiX2 hown hK hP 0 gtX2_0 rfl 3 (by decide) hf22 (fun _ h9 => h9) rfl dX2_gradeOf_9 ?_
    refine lv_iload_n hx hb dX2_gradeOf_12 rfl (lv_at hl 1 rfl) ?_
    replace hF := ckI_some hF
    obtain ⟨hi_3, hF⟩ := hF
    refine va_iald hx hb hK hP 2 0 gtX2_2 rfl hi_3 dX2_gradeOf_13 ?_
    refine lv_goto (tgt := 18) hx hb dX2_gradeOf_14 (by decide) ?_
    cases hF
    exact hQ _ _ _ _ _ _ (fun _ => 0) dX2_gradeOf_18 hP hD hS (Nat.le_of_ble_eq_true rfl) (Nat.le_of_ble_eq_true rfl)

def fX2_takeOff (nQ : Int32) (allS : Int32) (psheets : FN) (a1 : Int32) (a2 : Int32) : Option (Int32 × FN) := (fX2_has nQ a1).bind fun z1 => if z1 = 0 then some (allS, psheets) else ckI a1 90 (ckI a1 90 (some (allS - a2, upd psheets a1.toNatClampNeg ((psheets a1.toNatClampNeg) - a2))))
abbrev rX2_takeOff : Room := { frames := 1, cells := 0, slots := 0, locals := 21 }
set_option maxHeartbeats 4000000 in
set_option maxRecDepth 100000 in
theorem kX2_takeOff (l : Launch) (D : va_G) (cy : Nat → ClassId) (sa : SAT) (h : Nat → Nat) (nQ : Int32) (allS : Int32) (pmark : FN) (pgrade : FN) (psheets : FN) (a1 : Int32) (a2 : Int32) (z : Int32 × FN) (hF : fX2_takeOff nQ allS psheets a1 a2 = some z) : KV l D (tyW cy) sa yX2_takeOff wsX2_takeOff rX2_takeOff [.ref (h 0), .int a1, .int a2] (wX2 cy h nQ allS pmark pgrade psheets) (fun _ => wX2 cy h nQ z.1 pmark pgrade z.2) 0 0 := by
  refine KV.of (cc := cX2_takeOff) (maxL := 3) (by decide +kernel) rfl (Nat.le_of_ble_eq_true rfl) ?_
  intro p e s m args below meth c A ls Q hE hQ
  obtain ⟨hx, hb, hml, hown, hts, hA, hP, hK, hD, hG, hl, hnm⟩ := hE
  replace hown : s.vm.findClass RX2 = some m.cls := hown
  have hiX2 : ∀ w ∈ u_ws RX2 TX2 5, w ∈ wsX2_takeOff := by decide +kernel
  have hf15 : (Cond.fieldLink RX2 15 "RagVats$Posts" "allSheets" "I").before args s = true := hts _ (by decide +kernel)
  have hf25 : (Cond.fieldLink RX2 25 "RagVats$Posts" "sheets" "[I").before args s = true := hts _ (by decide +kernel)
  replace hl : lv_has ls 3 [(0, .ref (h 0)), (1, .int a1), (2, .int a2)] := hl
  have hS : va_S A s.heap s.heap [] := va_S.rf
  unfold fX2_takeOff at hF
  refine lv_aload_n hx hb dX2_takeOff_0 rfl (lv_at hl 0 rfl) ?_
  refine lv_iload_n hx hb dX2_takeOff_1 rfl (lv_at hl 1 rfl) ?_
  replace hF := bnd_some hF
  obtain ⟨z1, hz_1, hF⟩ := hF
  refine krI (kV (As := [.int a1]) ⟨hx, hb, hml, hown, hts⟩ (kX2_has l D cy sa h nQ allS pmark pgrade psheets a1 z1 hz_1 _) (cwV 1 hts gX2_takeOff_X2_has rfl rfl rfl (by decide +kernel) ⟨Nat.le_of_ble_eq_true rfl, Nat.le_of_ble_eq_true rfl⟩) hK hP hD hS hA hG [0, 1, 2, 3] hcX2_X2_0 ndX2_0 gtX2_0 rfl rfl rfl hl.1 [] rfl (Nat.le_of_ble_eq_true rfl) dX2_takeOff_2 ⟨(Nat.le_of_ble_eq_true rfl), (Nat.le_of_ble_eq_true rfl)⟩) hP hD hS hA [0, 1, 2, 3] hcX2_X2_0 (fun H locs hP hS => ?_)
  refine lv_if_eq (tgt := 28) hx hb dX2_takeOff_5 (by decide) (fun c_2 => ?_) (fun c_2 => ?_)
  · replace hF := if_t hF c_2
    cases hF
    exact hQ _ _ _ _ _ _ (fun _ => 0) dX2_takeOff_28 hP hD hS (Nat.le_of_ble_eq_true rfl) (Nat.le_of_ble_eq_true rfl)
  · replace hF := if_f hF c_2
    refine lv_aload_n hx hb dX2_takeOff_8 rfl (lv_at hl 0 rfl) ?_
    refine va_get (D := D) (C := RX2) (T := TX2) (N := 5) hx hb hts hiX2 hown hK hP 0 gtX2_0 rfl 4 (by decide) hf25 (fun _ h9 => h9) rfl dX2_takeOff_9 ?_
    refine lv_iload_n hx hb dX2_takeOff_12 rfl (lv_at hl 1 rfl) ?_
    refine lv_dup2_11 hx hb dX2_takeOff_13 rfl rfl ?_
    replace hF := ckI_some hF
    obtain ⟨hi_3, hF⟩ := hF
    refine va_iald hx hb hK hP 3 0 gtX2_3 rfl hi_3 dX2_takeOff_14 ?_
    refine lv_iload_n hx hb dX2_takeOff_15 rfl (lv_at hl 2 rfl) ?_
    refine lv_isub hx hb dX2_takeOff_16 ?_
    replace hF := ckI_some hF
    obtain ⟨hi_4, hF⟩ := hF
    refine va_iast hx hb hK hP hD hS 3 0 gtX2_3 rfl hi_4 dX2_takeOff_17 (fun H locs hP hD hS => ?_)
    rw [stX2_3] at hP hD
    refine lv_aload_n hx hb dX2_takeOff_18 rfl (lv_at hl 0 rfl) ?_
    refine lv_dup hx hb dX2_takeOff_19 rfl ?_
    refine va_get (D := D) (C := RX2) (T := TX2) (N := 5) hx hb hts hiX2 hown hK hP 0 gtX2_0 rfl 1 (by decide) hf15 (fun _ h9 => h9) rfl dX2_takeOff_20 ?_
    refine lv_iload_n hx hb dX2_takeOff_23 rfl (lv_at hl 2 rfl) ?_
    refine lv_isub hx hb dX2_takeOff_24 ?_
    refine va_put (D := D) (v := .int (allS - a2)) (ty := .int) (C := RX2) (T := TX2) (N := 5) hx hb hts hiX2 tyX2 tyX2_ok nmX2 hown hK hP hD hS 0 gtX2_0 rfl 1 (by decide) hf15 (fun _ h9 => h9) rfl (by decide +kernel) rfl rfl (Nat.le_of_ble_eq_true rfl) dX2_takeOff_25 (fun H locs hP hD hS => ?_)
    rw [stX2_0_1] at hP hD
    cases hF
    exact hQ _ _ _ _ _ _ (fun _ => 0) dX2_takeOff_28 hP hD hS (Nat.le_of_ble_eq_true rfl) (Nat.le_of_ble_eq_true rfl)

def fX2_dropEmptyOnes_L4 (nQ : Int32) : Nat → FN → FN → FN → Int32 → Int32 → Option (Int32 × FN × FN × FN)
  | 0, _, _, _, _, _ => none
  | k + 1, pmark_4, pgrade_4, psheets_4, x1_4, x2_4 => if nQ ≤ x2_4 then some (x1_4, pmark_4, pgrade_4, psheets_4) else if 90 ≤ x2_4 then some (x1_4, pmark_4, pgrade_4, psheets_4) else ckI x2_4 90 (if (psheets_4 x2_4.toNatClampNeg) ≤ 0 then fX2_dropEmptyOnes_L4 nQ k pmark_4 pgrade_4 psheets_4 x1_4 (x2_4 + 1) else ckI x2_4 90 (ckI x1_4 90 (ckI x2_4 90 (ckI x1_4 90 (ckI x2_4 90 (ckI x1_4 90 (fX2_dropEmptyOnes_L4 nQ k (upd pmark_4 x1_4.toNatClampNeg (pmark_4 x2_4.toNatClampNeg)) (upd pgrade_4 x1_4.toNatClampNeg (pgrade_4 x2_4.toNatClampNeg)) (upd psheets_4 x1_4.toNatClampNeg (psheets_4 x2_4.toNatClampNeg)) (x1_4 + 1) (x2_4 + 1))))))))
def fX2_dropEmptyOnes (nQ : Int32) (pmark : FN) (pgrade : FN) (psheets : FN) : Option (Int32 × FN × FN × FN) := fX2_dropEmptyOnes_L4 nQ 300 pmark pgrade psheets 0 0
abbrev rX2_dropEmptyOnes : Room := { frames := 0, cells := 0, slots := 0, locals := 0 }
set_option maxHeartbeats 4000000 in
set_option maxRecDepth 100000 in
theorem kX2_dropEmptyOnes (l : Launch) (D : va_G) (cy : Nat → ClassId) (sa : SAT) (h : Nat → Nat) (nQ : Int32) (allS : Int32) (pmark : FN) (pgrade : FN) (psheets : FN) (z : Int32 × FN × FN × FN) (hF : fX2_dropEmptyOnes nQ pmark pgrade psheets = some z) : KV l D (tyW cy) sa yX2_dropEmptyOnes wsX2_dropEmptyOnes rX2_dropEmptyOnes [.ref (h 0)] (wX2 cy h nQ allS pmark pgrade psheets) (fun _ => wX2 cy h z.1 allS z.2.1 z.2.2.1 z.2.2.2) 0 0 := by
  refine KV.of (cc := cX2_dropEmptyOnes) (maxL := 3) (by decide +kernel) rfl (Nat.le_of_ble_eq_true rfl) ?_
  intro p e s m args below meth c A ls Q hE hQ
  obtain ⟨hx, hb, hml, hown, hts, hA, hP, hK, hD, hG, hl, hnm⟩ := hE
  replace hown : s.vm.findClass RX2 = some m.cls := hown
  have hiX2 : ∀ w ∈ u_ws RX2 TX2 5, w ∈ wsX2_dropEmptyOnes := by decide +kernel
  have hf9 : (Cond.fieldLink RX2 9 "RagVats$Posts" "number" "I").before args s = true := hts _ (by decide +kernel)
  have hf18 : (Cond.fieldLink RX2 18 "RagVats$Posts" "mark" "[I").before args s = true := hts _ (by decide +kernel)
  have hf22 : (Cond.fieldLink RX2 22 "RagVats$Posts" "grade" "[I").before args s = true := hts _ (by decide +kernel)
  have hf25 : (Cond.fieldLink RX2 25 "RagVats$Posts" "sheets" "[I").before args s = true := hts _ (by decide +kernel)
  replace hl : lv_has ls 3 [(0, .ref (h 0))] := hl
  have hS : va_S A s.heap s.heap [] := va_S.rf
  have L4 : ∀ (k : Nat) (pmark_4 : FN) (pgrade_4 : FN) (psheets_4 : FN) (x1_4 : Int32) (x2_4 : Int32), fX2_dropEmptyOnes_L4 nQ k pmark_4 pgrade_4 psheets_4 x1_4 x2_4 = some z → ∀ (H : Heap) (locs : List Loc) (ls : Array Slot), va_P D vwCl (wX2 cy h nQ allS pmark_4 pgrade_4 psheets_4) H → va_D A (wX2 cy h nQ allS pmark_4 pgrade_4 psheets_4) → va_S A s.heap H locs → lv_has ls 3 [(0, .ref (h 0)), (1, .int x1_4), (2, .int x2_4)] → W p l e rX2_dropEmptyOnes s m args below meth c H locs 0 0 Q (F0 m 4 ls []) := by
    intro k
    induction k with
    | zero =>
      intro pmark_4 pgrade_4 psheets_4 x1_4 x2_4 hF
      rw [fX2_dropEmptyOnes_L4] at hF
      cases hF
    | succ k ih =>
      intro pmark_4 pgrade_4 psheets_4 x1_4 x2_4 hF H locs ls hP hD hS hl
      rw [fX2_dropEmptyOnes_L4] at hF
      refine lv_iload_n hx hb dX2_dropEmptyOnes_4 rfl (lv_at hl 2 rfl) ?_
      refine lv_aload_n hx hb dX2_dropEmptyOnes_5 rfl (lv_at hl 0 rfl) ?_
      refine va_get (D := D) (C := RX2) (T := TX2) (N := 5) hx hb hts hiX2 hown hK hP 0 gtX2_0 rfl 0 (by decide) hf9 (fun _ h9 => h9) rfl dX2_dropEmptyOnes_6 ?_
      refine lv_icmp_ge (tgt := 72) hx hb dX2_dropEmptyOnes_9 (by decide) (fun c_1 => ?_) (fun c_1 => ?_)
      · replace hF := if_t hF c_1
        refine lv_aload_n hx hb dX2_dropEmptyOnes_72 rfl (lv_at hl 0 rfl) ?_
        refine lv_iload_n hx hb dX2_dropEmptyOnes_73 rfl (lv_at hl 1 rfl) ?_
        refine va_put (D := D) (v := .int x1_4) (ty := .int) (C := RX2) (T := TX2) (N := 5) hx hb hts hiX2 tyX2 tyX2_ok nmX2 hown hK hP hD hS 0 gtX2_0 rfl 0 (by decide) hf9 (fun _ h9 => h9) rfl (by decide +kernel) rfl rfl (Nat.le_of_ble_eq_true rfl) dX2_dropEmptyOnes_74 (fun H locs hP hD hS => ?_)
        rw [stX2_0_0] at hP hD
        cases hF
        exact hQ _ _ _ _ _ _ (fun _ => 0) dX2_dropEmptyOnes_77 hP hD hS (Nat.le_of_ble_eq_true rfl) (Nat.le_of_ble_eq_true rfl)
      · replace hF := if_f hF c_1
        refine lv_iload_n hx hb dX2_dropEmptyOnes_12 rfl (lv_at hl 2 rfl) ?_
        refine lv_bipush (v := 90) hx hb dX2_dropEmptyOnes_13 (by decide) ?_
        refine lv_icmp_ge (tgt := 72) hx hb dX2_dropEmptyOnes_15 (by decide) (fun c_2 => ?_) (fun c_2 => ?_)
        · replace hF := if_t hF c_2
          refine lv_aload_n hx hb dX2_dropEmptyOnes_72 rfl (lv_at hl 0 rfl) ?_
          refine lv_iload_n hx hb dX2_dropEmptyOnes_73 rfl (lv_at hl 1 rfl) ?_
          refine va_put (D := D) (v := .int x1_4) (ty := .int) (C := RX2) (T := TX2) (N := 5) hx hb hts hiX2 tyX2 tyX2_ok nmX2 hown hK hP hD hS 0 gtX2_0 rfl 0 (by decide) hf9 (fun _ h9 => h9) rfl (by decide +kernel) rfl rfl (Nat.le_of_ble_eq_true rfl) dX2_dropEmptyOnes_74 (fun H locs hP hD hS => ?_)
          rw [stX2_0_0] at hP hD
          cases hF
          exact hQ _ _ _ _ _ _ (fun _ => 0) dX2_dropEmptyOnes_77 hP hD hS (Nat.le_of_ble_eq_true rfl) (Nat.le_of_ble_eq_true rfl)
        · replace hF := if_f hF c_2
          refine lv_aload_n hx hb dX2_dropEmptyOnes_18 rfl (lv_at hl 0 rfl) ?_
          refine va_get (D := D) (C := RX2) (T := TX2) (N := 5) hx hb hts hiX2 hown hK hP 0 gtX2_0 rfl 4 (by decide) hf25 (fun _ h9 => h9) rfl dX2_dropEmptyOnes_19 ?_
          refine lv_iload_n hx hb dX2_dropEmptyOnes_22 rfl (lv_at hl 2 rfl) ?_
          replace hF := ckI_some hF
          obtain ⟨hi_3, hF⟩ := hF
          refine va_iald hx hb hK hP 3 0 gtX2_3 rfl hi_3 dX2_dropEmptyOnes_23 ?_
          refine lv_if_le (tgt := 66) hx hb dX2_dropEmptyOnes_24 (by decide) (fun c_4 => ?_) (fun c_4 => ?_)
          · replace hF := if_t hF c_4
            refine lv_iinc (v := x2_4 + 1) (lv' := [(2, .int (x2_4 + 1)), (0, .ref (h 0)), (1, .int x1_4)]) hx hb dX2_dropEmptyOnes_66 hl (k := 2) rfl rfl (by decide) rfl (fun ls hl => ?_)
            refine lv_goto (tgt := 4) hx hb dX2_dropEmptyOnes_69 (by decide) ?_
            exact ih  pmark_4 pgrade_4 psheets_4 x1_4 (x2_4 + 1)  hF _ _ _ hP hD hS (lv_sub hl [1, 2, 0] rfl)
          · replace hF := if_f hF c_4
            refine lv_aload_n hx hb dX2_dropEmptyOnes_27 rfl (lv_at hl 0 rfl) ?_
            refine va_get (D := D) (C := RX2) (T := TX2) (N := 5) hx hb hts hiX2 hown hK hP 0 gtX2_0 rfl 2 (by decide) hf18 (fun _ h9 => h9) rfl dX2_dropEmptyOnes_28 ?_
            refine lv_iload_n hx hb dX2_dropEmptyOnes_31 rfl (lv_at hl 1 rfl) ?_
            refine lv_aload_n hx hb dX2_dropEmptyOnes_32 rfl (lv_at hl 0 rfl) ?_
            refine va_get (D := D) (C := RX2) (T := TX2) (N := 5) hx hb hts hiX2 hown hK hP 0 gtX2_0 rfl 2 (by decide) hf18 (fun _ h9 => h9) rfl dX2_dropEmptyOnes_33 ?_
            refine lv_iload_n hx hb dX2_dropEmptyOnes_36 rfl (lv_at hl 2 rfl) ?_
            replace hF := ckI_some hF
            obtain ⟨hi_5, hF⟩ := hF
            refine va_iald hx hb hK hP 1 0 gtX2_1 rfl hi_5 dX2_dropEmptyOnes_37 ?_
            replace hF := ckI_some hF
            obtain ⟨hi_6, hF⟩ := hF
            refine va_iast hx hb hK hP hD hS 1 0 gtX2_1 rfl hi_6 dX2_dropEmptyOnes_38 (fun H locs hP hD hS => ?_)
            rw [stX2_1] at hP hD
            refine lv_aload_n hx hb dX2_dropEmptyOnes_39 rfl (lv_at hl 0 rfl) ?_
            refine va_get (D := D) (C := RX2) (T := TX2) (N := 5) hx hb hts hiX2 hown hK hP 0 gtX2_0 rfl 3 (by decide) hf22 (fun _ h9 => h9) rfl dX2_dropEmptyOnes_40 ?_
            refine lv_iload_n hx hb dX2_dropEmptyOnes_43 rfl (lv_at hl 1 rfl) ?_
            refine lv_aload_n hx hb dX2_dropEmptyOnes_44 rfl (lv_at hl 0 rfl) ?_
            refine va_get (D := D) (C := RX2) (T := TX2) (N := 5) hx hb hts hiX2 hown hK hP 0 gtX2_0 rfl 3 (by decide) hf22 (fun _ h9 => h9) rfl dX2_dropEmptyOnes_45 ?_
            refine lv_iload_n hx hb dX2_dropEmptyOnes_48 rfl (lv_at hl 2 rfl) ?_
            replace hF := ckI_some hF
            obtain ⟨hi_7, hF⟩ := hF
            refine va_iald hx hb hK hP 2 0 gtX2_2 rfl hi_7 dX2_dropEmptyOnes_49 ?_
            replace hF := ckI_some hF
            obtain ⟨hi_8, hF⟩ := hF
            refine va_iast hx hb hK hP hD hS 2 0 gtX2_2 rfl hi_8 dX2_dropEmptyOnes_50 (fun H locs hP hD hS => ?_)
            rw [stX2_2] at hP hD
            refine lv_aload_n hx hb dX2_dropEmptyOnes_51 rfl (lv_at hl 0 rfl) ?_
            refine va_get (D := D) (C := RX2) (T := TX2) (N := 5) hx hb hts hiX2 hown hK hP 0 gtX2_0 rfl 4 (by decide) hf25 (fun _ h9 => h9) rfl dX2_dropEmptyOnes_52 ?_
            refine lv_iload_n hx hb dX2_dropEmptyOnes_55 rfl (lv_at hl 1 rfl) ?_
            refine lv_aload_n hx hb dX2_dropEmptyOnes_56 rfl (lv_at hl 0 rfl) ?_
            refine va_get (D := D) (C := RX2) (T := TX2) (N := 5) hx hb hts hiX2 hown hK hP 0 gtX2_0 rfl 4 (by decide) hf25 (fun _ h9 => h9) rfl dX2_dropEmptyOnes_57 ?_
            refine lv_iload_n hx hb dX2_dropEmptyOnes_60 rfl (lv_at hl 2 rfl) ?_
            replace hF := ckI_some hF
            obtain ⟨hi_9, hF⟩ := hF
            refine va_iald hx hb hK hP 3 0 gtX2_3 rfl hi_9 dX2_dropEmptyOnes_61 ?_
            replace hF := ckI_some hF
            obtain ⟨hi_10, hF⟩ := hF
            refine va_iast hx hb hK hP hD hS 3 0 gtX2_3 rfl hi_10 dX2_dropEmptyOnes_62 (fun H locs hP hD hS => ?_)
            rw [stX2_3] at hP hD
            refine lv_iinc (v := x1_4 + 1) (lv' := [(1, .int (x1_4 + 1)), (0, .ref (h 0)), (2, .int x2_4)]) hx hb dX2_dropEmptyOnes_63 hl (k := 1) rfl rfl (by decide) rfl (fun ls hl => ?_)
            refine lv_iinc (v := x2_4 + 1) (lv' := [(2, .int (x2_4 + 1)), (1, .int (x1_4 + 1)), (0, .ref (h 0))]) hx hb dX2_dropEmptyOnes_66 hl (k := 2) rfl rfl (by decide) rfl (fun ls hl => ?_)
            refine lv_goto (tgt := 4) hx hb dX2_dropEmptyOnes_69 (by decide) ?_
            exact ih  (upd pmark_4 x1_4.toNatClampNeg (pmark_4 x2_4.toNatClampNeg)) (upd pgrade_4 x1_4.toNatClampNeg (pgrade_4 x2_4.toNatClampNeg)) (upd psheets_4 x1_4.toNatClampNeg (psheets_4 x2_4.toNatClampNeg)) (x1_4 + 1) (x2_4 + 1)  hF _ _ _ hP hD hS (lv_sub hl [2, 1, 0] rfl)
  unfold fX2_dropEmptyOnes at hF
  refine lv_iconst (v := 0) hx hb dX2_dropEmptyOnes_0 (by decide) ?_
  refine lv_istore_n (lv' := [(1, .int 0), (0, .ref (h 0))]) hx hb dX2_dropEmptyOnes_1 rfl hl (by decide) rfl (fun ls hl => ?_)
  refine lv_iconst (v := 0) hx hb dX2_dropEmptyOnes_2 (by decide) ?_
  refine lv_istore_n (lv' := [(2, .int 0), (1, .int 0), (0, .ref (h 0))]) hx hb dX2_dropEmptyOnes_3 rfl hl (by decide) rfl (fun ls hl => ?_)
  exact L4 300 pmark pgrade psheets 0 0  hF _ _ _ hP hD hS (lv_sub hl [2, 1, 0] rfl)

def fX1_add (nM : Int32) (mark : FN) (size : FN) (worn : FN) (a1 : Int32) (a2 : Int32) : Option (Int32 × Int32 × FN × FN × FN) := if nM < 5 then ckI nM 5 (ckI nM 5 (ckI nM 5 (some ((nM + 1) - 1, nM + 1, upd mark nM.toNatClampNeg a1, upd size nM.toNatClampNeg a2, upd worn nM.toNatClampNeg 0)))) else some ((-1), nM, mark, size, worn)
abbrev rX1_add : Room := { frames := 0, cells := 0, slots := 0, locals := 0 }
set_option maxHeartbeats 4000000 in
set_option maxRecDepth 100000 in
theorem kX1_add (l : Launch) (D : va_G) (cy : Nat → ClassId) (sa : SAT) (h : Nat → Nat) (nM : Int32) (mark : FN) (size : FN) (worn : FN) (a1 : Int32) (a2 : Int32) (z : Int32 × Int32 × FN × FN × FN) (hF : fX1_add nM mark size worn a1 a2 = some z) : KI l D (tyW cy) sa yX1_add wsX1_add rX1_add [.ref (h 0), .int a1, .int a2] (wX1 cy h nM mark size worn) z.1 (fun _ => wX1 cy h z.2.1 z.2.2.1 z.2.2.2.1 z.2.2.2.2) 0 0 := by
  refine KI.of (cc := cX1_add) (maxL := 3) (by decide +kernel) rfl (Nat.le_of_ble_eq_true rfl) ?_
  intro p e s m args below meth c A ls Q hE hQ
  obtain ⟨hx, hb, hml, hown, hts, hA, hP, hK, hD, hG, hl, hnm⟩ := hE
  replace hown : s.vm.findClass RX1 = some m.cls := hown
  have hiX1 : ∀ w ∈ u_ws RX1 TX1 4, w ∈ wsX1_add := by decide +kernel
  have hf9 : (Cond.fieldLink RX1 9 "RagVats$Moulds" "number" "I").before args s = true := hts _ (by decide +kernel)
  have hf15 : (Cond.fieldLink RX1 15 "RagVats$Moulds" "mark" "[I").before args s = true := hts _ (by decide +kernel)
  have hf19 : (Cond.fieldLink RX1 19 "RagVats$Moulds" "size" "[I").before args s = true := hts _ (by decide +kernel)
  have hf22 : (Cond.fieldLink RX1 22 "RagVats$Moulds" "worn" "[I").before args s = true := hts _ (by decide +kernel)
  replace hl : lv_has ls 3 [(0, .ref (h 0)), (1, .int a1), (2, .int a2)] := hl
  have hS : va_S A s.heap s.heap [] := va_S.rf
  unfold fX1_add at hF
  refine lv_aload_n hx hb dX1_add_0 rfl (lv_at hl 0 rfl) ?_
  refine va_get (D := D) (C := RX1) (T := TX1) (N := 4) hx hb hts hiX1 hown hK hP 0 gtX1_0 rfl 0 (by decide) hf9 (fun _ h9 => h9) rfl dX1_add_1 ?_
  refine lv_iconst (v := 5) hx hb dX1_add_4 (by decide) ?_
  refine lv_icmp_lt (tgt := 10) hx hb dX1_add_5 (by decide) (fun c_1 => ?_) (fun c_1 => ?_)
  · replace hF := if_t hF c_1
    refine lv_aload_n hx hb dX1_add_10 rfl (lv_at hl 0 rfl) ?_
    refine va_get (D := D) (C := RX1) (T := TX1) (N := 4) hx hb hts hiX1 hown hK hP 0 gtX1_0 rfl 1 (by decide) hf15 (fun _ h9 => h9) rfl dX1_add_11 ?_
    refine lv_aload_n hx hb dX1_add_14 rfl (lv_at hl 0 rfl) ?_
    refine va_get (D := D) (C := RX1) (T := TX1) (N := 4) hx hb hts hiX1 hown hK hP 0 gtX1_0 rfl 0 (by decide) hf9 (fun _ h9 => h9) rfl dX1_add_15 ?_
    refine lv_iload_n hx hb dX1_add_18 rfl (lv_at hl 1 rfl) ?_
    replace hF := ckI_some hF
    obtain ⟨hi_2, hF⟩ := hF
    refine va_iast hx hb hK hP hD hS 1 0 gtX1_1 rfl hi_2 dX1_add_19 (fun H locs hP hD hS => ?_)
    rw [stX1_1] at hP hD
    refine lv_aload_n hx hb dX1_add_20 rfl (lv_at hl 0 rfl) ?_
    refine va_get (D := D) (C := RX1) (T := TX1) (N := 4) hx hb hts hiX1 hown hK hP 0 gtX1_0 rfl 2 (by decide) hf19 (fun _ h9 => h9) rfl dX1_add_21 ?_
    refine lv_aload_n hx hb dX1_add_24 rfl (lv_at hl 0 rfl) ?_
    refine va_get (D := D) (C := RX1) (T := TX1) (N := 4) hx hb hts hiX1 hown hK hP 0 gtX1_0 rfl 0 (by decide) hf9 (fun _ h9 => h9) rfl dX1_add_25 ?_
    refine lv_iload_n hx hb dX1_add_28 rfl (lv_at hl 2 rfl) ?_
    replace hF := ckI_some hF
    obtain ⟨hi_3, hF⟩ := hF
    refine va_iast hx hb hK hP hD hS 2 0 gtX1_2 rfl hi_3 dX1_add_29 (fun H locs hP hD hS => ?_)
    rw [stX1_2] at hP hD
    refine lv_aload_n hx hb dX1_add_30 rfl (lv_at hl 0 rfl) ?_
    refine va_get (D := D) (C := RX1) (T := TX1) (N := 4) hx hb hts hiX1 hown hK hP 0 gtX1_0 rfl 3 (by decide) hf22 (fun _ h9 => h9) rfl dX1_add_31 ?_
    refine lv_aload_n hx hb dX1_add_34 rfl (lv_at hl 0 rfl) ?_
    refine va_get (D := D) (C := RX1) (T := TX1) (N := 4) hx hb hts hiX1 hown hK hP 0 gtX1_0 rfl 0 (by decide) hf9 (fun _ h9 => h9) rfl dX1_add_35 ?_
    refine lv_iconst (v := 0) hx hb dX1_add_38 (by decide) ?_
    replace hF := ckI_some hF
    obtain ⟨hi_4, hF⟩ := hF
    refine va_iast hx hb hK hP hD hS 3 0 gtX1_3 rfl hi_4 dX1_add_39 (fun H locs hP hD hS => ?_)
    rw [stX1_3] at hP hD
    refine lv_aload_n hx hb dX1_add_40 rfl (lv_at hl 0 rfl) ?_
    refine lv_dup hx hb dX1_add_41 rfl ?_
    refine va_get (D := D) (C := RX1) (T := TX1) (N := 4) hx hb hts hiX1 hown hK hP 0 gtX1_0 rfl 0 (by decide) hf9 (fun _ h9 => h9) rfl dX1_add_42 ?_
    refine lv_iconst (v := 1) hx hb dX1_add_45 (by decide) ?_
    refine lv_iadd hx hb dX1_add_46 ?_
    refine va_put (D := D) (v := .int (nM + 1)) (ty := .int) (C := RX1) (T := TX1) (N := 4) hx hb hts hiX1 tyX1 tyX1_ok nmX1 hown hK hP hD hS 0 gtX1_0 rfl 0 (by decide) hf9 (fun _ h9 => h9) rfl (by decide +kernel) rfl rfl (Nat.le_of_ble_eq_true rfl) dX1_add_47 (fun H locs hP hD hS => ?_)
    rw [stX1_0_0] at hP hD
    refine lv_aload_n hx hb dX1_add_50 rfl (lv_at hl 0 rfl) ?_
    refine va_get (D := D) (C := RX1) (T := TX1) (N := 4) hx hb hts hiX1 hown hK hP 0 gtX1_0 rfl 0 (by decide) hf9 (fun _ h9 => h9) rfl dX1_add_51 ?_
    refine lv_iconst (v := 1) hx hb dX1_add_54 (by decide) ?_
    refine lv_isub hx hb dX1_add_55 ?_
    cases hF
    exact hQ _ _ _ _ _ _ (fun _ => 0) dX1_add_56 hP hD hS (Nat.le_of_ble_eq_true rfl) (Nat.le_of_ble_eq_true rfl)
  · replace hF := if_f hF c_1
    refine lv_iconst (v := -1) hx hb dX1_add_8 (by decide) ?_
    cases hF
    exact hQ _ _ _ _ _ _ (fun _ => 0) dX1_add_9 hP hD hS (Nat.le_of_ble_eq_true rfl) (Nat.le_of_ble_eq_true rfl)

def fX1_makeNew (nM : Int32) (worn : FN) (a1 : Int32) : Option (FN) := (fX1_has nM a1).bind fun z1 => if z1 = 0 then some worn else ckI a1 5 (some (upd worn a1.toNatClampNeg 0))
abbrev rX1_makeNew : Room := { frames := 1, cells := 0, slots := 0, locals := 21 }
set_option maxHeartbeats 4000000 in
set_option maxRecDepth 100000 in
theorem kX1_makeNew (l : Launch) (D : va_G) (cy : Nat → ClassId) (sa : SAT) (h : Nat → Nat) (nM : Int32) (mark : FN) (size : FN) (worn : FN) (a1 : Int32) (z : FN) (hF : fX1_makeNew nM worn a1 = some z) : KV l D (tyW cy) sa yX1_makeNew wsX1_makeNew rX1_makeNew [.ref (h 0), .int a1] (wX1 cy h nM mark size worn) (fun _ => wX1 cy h nM mark size z) 0 0 := by
  refine KV.of (cc := cX1_makeNew) (maxL := 2) (by decide +kernel) rfl (Nat.le_of_ble_eq_true rfl) ?_
  intro p e s m args below meth c A ls Q hE hQ
  obtain ⟨hx, hb, hml, hown, hts, hA, hP, hK, hD, hG, hl, hnm⟩ := hE
  replace hown : s.vm.findClass RX1 = some m.cls := hown
  have hiX1 : ∀ w ∈ u_ws RX1 TX1 4, w ∈ wsX1_makeNew := by decide +kernel
  have hf22 : (Cond.fieldLink RX1 22 "RagVats$Moulds" "worn" "[I").before args s = true := hts _ (by decide +kernel)
  replace hl : lv_has ls 2 [(0, .ref (h 0)), (1, .int a1)] := hl
  have hS : va_S A s.heap s.heap [] := va_S.rf
  unfold fX1_makeNew at hF
  refine lv_aload_n hx hb dX1_makeNew_0 rfl (lv_at hl 0 rfl) ?_
  refine lv_iload_n hx hb dX1_makeNew_1 rfl (lv_at hl 1 rfl) ?_
  replace hF := bnd_some hF
  obtain ⟨z1, hz_1, hF⟩ := hF
  refine krI (kV (As := [.int a1]) ⟨hx, hb, hml, hown, hts⟩ (kX1_has l D cy sa h nM mark size worn a1 z1 hz_1 _) (cwV 1 hts gX1_makeNew_X1_has rfl rfl rfl (by decide +kernel) ⟨Nat.le_of_ble_eq_true rfl, Nat.le_of_ble_eq_true rfl⟩) hK hP hD hS hA hG [0, 1, 2, 3] hcX1_X1_0 ndX1_0 gtX1_0 rfl rfl rfl hl.1 [] rfl (Nat.le_of_ble_eq_true rfl) dX1_makeNew_2 ⟨(Nat.le_of_ble_eq_true rfl), (Nat.le_of_ble_eq_true rfl)⟩) hP hD hS hA [0, 1, 2, 3] hcX1_X1_0 (fun H locs hP hS => ?_)
  refine lv_if_eq (tgt := 15) hx hb dX1_makeNew_5 (by decide) (fun c_2 => ?_) (fun c_2 => ?_)
  · replace hF := if_t hF c_2
    cases hF
    exact hQ _ _ _ _ _ _ (fun _ => 0) dX1_makeNew_15 hP hD hS (Nat.le_of_ble_eq_true rfl) (Nat.le_of_ble_eq_true rfl)
  · replace hF := if_f hF c_2
    refine lv_aload_n hx hb dX1_makeNew_8 rfl (lv_at hl 0 rfl) ?_
    refine va_get (D := D) (C := RX1) (T := TX1) (N := 4) hx hb hts hiX1 hown hK hP 0 gtX1_0 rfl 3 (by decide) hf22 (fun _ h9 => h9) rfl dX1_makeNew_9 ?_
    refine lv_iload_n hx hb dX1_makeNew_12 rfl (lv_at hl 1 rfl) ?_
    refine lv_iconst (v := 0) hx hb dX1_makeNew_13 (by decide) ?_
    replace hF := ckI_some hF
    obtain ⟨hi_3, hF⟩ := hF
    refine va_iast hx hb hK hP hD hS 3 0 gtX1_3 rfl hi_3 dX1_makeNew_14 (fun H locs hP hD hS => ?_)
    rw [stX1_3] at hP hD
    cases hF
    exact hQ _ _ _ _ _ _ (fun _ => 0) dX1_makeNew_15 hP hD hS (Nat.le_of_ble_eq_true rfl) (Nat.le_of_ble_eq_true rfl)

def fX2_tell (nQ : Int32) (pmark : FN) (pgrade : FN) (psheets : FN) (a1 : Int32) (a2 : Int32) : Option (Int32) := if a2 = 0 then (fX2_markOf nQ pmark a1).bind fun z2 => some z2 else if a2 = 1 then (fX2_gradeOf nQ pgrade a1).bind fun z4 => some z4 else (fX2_sheetsOf nQ psheets a1).bind fun z5 => some z5
abbrev rX2_tell : Room := { frames := 2, cells := 0, slots := 0, locals := 42 }
set_option maxHeartbeats 4000000 in
set_option maxRecDepth 100000 in
theorem kX2_tell (l : Launch) (D : va_G) (cy : Nat → ClassId) (sa : SAT) (h : Nat → Nat) (nQ : Int32) (allS : Int32) (pmark : FN) (pgrade : FN) (psheets : FN) (a1 : Int32) (a2 : Int32) (z : Int32) (hF : fX2_tell nQ pmark pgrade psheets a1 a2 = some z) : KI l D (tyW cy) sa yX2_tell wsX2_tell rX2_tell [.ref (h 0), .int a1, .int a2] (wX2 cy h nQ allS pmark pgrade psheets) z (fun _ => wX2 cy h nQ allS pmark pgrade psheets) 0 0 := by
  refine KI.of (cc := cX2_tell) (maxL := 3) (by decide +kernel) rfl (Nat.le_of_ble_eq_true rfl) ?_
  intro p e s m args below meth c A ls Q hE hQ
  obtain ⟨hx, hb, hml, hown, hts, hA, hP, hK, hD, hG, hl, hnm⟩ := hE
  replace hown : s.vm.findClass RX2 = some m.cls := hown
  replace hl : lv_has ls 3 [(0, .ref (h 0)), (1, .int a1), (2, .int a2)] := hl
  have hS : va_S A s.heap s.heap [] := va_S.rf
  unfold fX2_tell at hF
  refine lv_iload_n hx hb dX2_tell_0 rfl (lv_at hl 2 rfl) ?_
  by_cases c_1 : a2 = 0
  · replace hF := if_t hF c_1
    refine lv_lookup (off := 27) (tgt := 28) hx hb dX2_tell_1 (by decide) (by rw [c_1] <;> rfl) (by decide) ?_
    refine lv_aload_n hx hb dX2_tell_28 rfl (lv_at hl 0 rfl) ?_
    refine lv_iload_n hx hb dX2_tell_29 rfl (lv_at hl 1 rfl) ?_
    replace hF := bnd_some hF
    obtain ⟨z2, hz_2, hF⟩ := hF
    refine krI (kV (As := [.int a1]) ⟨hx, hb, hml, hown, hts⟩ (kX2_markOf l D cy sa h nQ allS pmark pgrade psheets a1 z2 hz_2 _) (cwV 1 hts gX2_tell_X2_markOf rfl rfl rfl (by decide +kernel) ⟨Nat.le_of_ble_eq_true rfl, Nat.le_of_ble_eq_true rfl⟩) hK hP hD hS hA hG [0, 1, 2, 3] hcX2_X2_0 ndX2_0 gtX2_0 rfl rfl rfl hl.1 [] rfl (Nat.le_of_ble_eq_true rfl) dX2_tell_30 ⟨(Nat.le_of_ble_eq_true rfl), (Nat.le_of_ble_eq_true rfl)⟩) hP hD hS hA [0, 1, 2, 3] hcX2_X2_0 (fun H locs hP hS => ?_)
    cases hF
    exact hQ _ _ _ _ _ _ (fun _ => 0) dX2_tell_33 hP hD hS (Nat.le_of_ble_eq_true rfl) (Nat.le_of_ble_eq_true rfl)
  · replace hF := if_f hF c_1
    by_cases c_3 : a2 = 1
    · replace hF := if_t hF c_3
      refine lv_lookup (off := 33) (tgt := 34) hx hb dX2_tell_1 (by decide) (by rw [c_3] <;> rfl) (by decide) ?_
      refine lv_aload_n hx hb dX2_tell_34 rfl (lv_at hl 0 rfl) ?_
      refine lv_iload_n hx hb dX2_tell_35 rfl (lv_at hl 1 rfl) ?_
      replace hF := bnd_some hF
      obtain ⟨z4, hz_4, hF⟩ := hF
      refine krI (kV (As := [.int a1]) ⟨hx, hb, hml, hown, hts⟩ (kX2_gradeOf l D cy sa h nQ allS pmark pgrade psheets a1 z4 hz_4 _) (cwV 1 hts gX2_tell_X2_gradeOf rfl rfl rfl (by decide +kernel) ⟨Nat.le_of_ble_eq_true rfl, Nat.le_of_ble_eq_true rfl⟩) hK hP hD hS hA hG [0, 1, 2, 3] hcX2_X2_0 ndX2_0 gtX2_0 rfl rfl rfl hl.1 [] rfl (Nat.le_of_ble_eq_true rfl) dX2_tell_36 ⟨(Nat.le_of_ble_eq_true rfl), (Nat.le_of_ble_eq_true rfl)⟩) hP hD hS hA [0, 1, 2, 3] hcX2_X2_0 (fun H locs hP hS => ?_)
      cases hF
      exact hQ _ _ _ _ _ _ (fun _ => 0) dX2_tell_39 hP hD hS (Nat.le_of_ble_eq_true rfl) (Nat.le_of_ble_eq_true rfl)
    · replace hF := if_f hF c_3
      refine lv_lookup (off := 39) (tgt := 40) hx hb dX2_tell_1 (by decide) (by show Op.lookupswitch.offset [(0, 27), (1, 33)] 39 _ = 39; rw [lv_osw (a := 0) c_1 rfl, lv_osw (a := 1) c_3 rfl] <;> rfl) (by decide) ?_
      refine lv_aload_n hx hb dX2_tell_40 rfl (lv_at hl 0 rfl) ?_
      refine lv_iload_n hx hb dX2_tell_41 rfl (lv_at hl 1 rfl) ?_
      replace hF := bnd_some hF
      obtain ⟨z5, hz_5, hF⟩ := hF
      refine krI (kV (As := [.int a1]) ⟨hx, hb, hml, hown, hts⟩ (kX2_sheetsOf l D cy sa h nQ allS pmark pgrade psheets a1 z5 hz_5 _) (cwV 1 hts gX2_tell_X2_sheetsOf rfl rfl rfl (by decide +kernel) ⟨Nat.le_of_ble_eq_true rfl, Nat.le_of_ble_eq_true rfl⟩) hK hP hD hS hA hG [0, 1, 2, 3] hcX2_X2_0 ndX2_0 gtX2_0 rfl rfl rfl hl.1 [] rfl (Nat.le_of_ble_eq_true rfl) dX2_tell_42 ⟨(Nat.le_of_ble_eq_true rfl), (Nat.le_of_ble_eq_true rfl)⟩) hP hD hS hA [0, 1, 2, 3] hcX2_X2_0 (fun H locs hP hS => ?_)
      cases hF
      exact hQ _ _ _ _ _ _ (fun _ => 0) dX2_tell_45 hP hD hS (Nat.le_of_ble_eq_true rfl) (Nat.le_of_ble_eq_true rfl)

def fX3_add (nT : Int32) (skill : FN) (vat : FN) (pair : FN) (a1 : Int32) : Option (Int32 × Int32 × FN × FN × FN) := if nT < 3 then ckI nT 3 (ckI nT 3 (ckI nT 3 (some ((nT + 1) - 1, nT + 1, upd skill nT.toNatClampNeg a1, upd vat nT.toNatClampNeg (-1), upd pair nT.toNatClampNeg (-1))))) else some ((-1), nT, skill, vat, pair)
abbrev rX3_add : Room := { frames := 0, cells := 0, slots := 0, locals := 0 }
set_option maxHeartbeats 4000000 in
set_option maxRecDepth 100000 in
theorem kX3_add (l : Launch) (D : va_G) (cy : Nat → ClassId) (sa : SAT) (h : Nat → Nat) (nT : Int32) (skill : FN) (vat : FN) (pair : FN) (a1 : Int32) (z : Int32 × Int32 × FN × FN × FN) (hF : fX3_add nT skill vat pair a1 = some z) : KI l D (tyW cy) sa yX3_add wsX3_add rX3_add [.ref (h 0), .int a1] (wX3 cy h nT skill vat pair) z.1 (fun _ => wX3 cy h z.2.1 z.2.2.1 z.2.2.2.1 z.2.2.2.2) 0 0 := by
  refine KI.of (cc := cX3_add) (maxL := 2) (by decide +kernel) rfl (Nat.le_of_ble_eq_true rfl) ?_
  intro p e s m args below meth c A ls Q hE hQ
  obtain ⟨hx, hb, hml, hown, hts, hA, hP, hK, hD, hG, hl, hnm⟩ := hE
  replace hown : s.vm.findClass RX3 = some m.cls := hown
  have hiX3 : ∀ w ∈ u_ws RX3 TX3 4, w ∈ wsX3_add := by decide +kernel
  have hf9 : (Cond.fieldLink RX3 9 "RagVats$Teams" "number" "I").before args s = true := hts _ (by decide +kernel)
  have hf15 : (Cond.fieldLink RX3 15 "RagVats$Teams" "skill" "[I").before args s = true := hts _ (by decide +kernel)
  have hf19 : (Cond.fieldLink RX3 19 "RagVats$Teams" "vat" "[I").before args s = true := hts _ (by decide +kernel)
  have hf22 : (Cond.fieldLink RX3 22 "RagVats$Teams" "pair" "[I").before args s = true := hts _ (by decide +kernel)
  replace hl : lv_has ls 2 [(0, .ref (h 0)), (1, .int a1)] := hl
  have hS : va_S A s.heap s.heap [] := va_S.rf
  unfold fX3_add at hF
  refine lv_aload_n hx hb dX3_add_0 rfl (lv_at hl 0 rfl) ?_
  refine va_get (D := D) (C := RX3) (T := TX3) (N := 4) hx hb hts hiX3 hown hK hP 0 gtX3_0 rfl 0 (by decide) hf9 (fun _ h9 => h9) rfl dX3_add_1 ?_
  refine lv_iconst (v := 3) hx hb dX3_add_4 (by decide) ?_
  refine lv_icmp_lt (tgt := 10) hx hb dX3_add_5 (by decide) (fun c_1 => ?_) (fun c_1 => ?_)
  · replace hF := if_t hF c_1
    refine lv_aload_n hx hb dX3_add_10 rfl (lv_at hl 0 rfl) ?_
    refine va_get (D := D) (C := RX3) (T := TX3) (N := 4) hx hb hts hiX3 hown hK hP 0 gtX3_0 rfl 1 (by decide) hf15 (fun _ h9 => h9) rfl dX3_add_11 ?_
    refine lv_aload_n hx hb dX3_add_14 rfl (lv_at hl 0 rfl) ?_
    refine va_get (D := D) (C := RX3) (T := TX3) (N := 4) hx hb hts hiX3 hown hK hP 0 gtX3_0 rfl 0 (by decide) hf9 (fun _ h9 => h9) rfl dX3_add_15 ?_
    refine lv_iload_n hx hb dX3_add_18 rfl (lv_at hl 1 rfl) ?_
    replace hF := ckI_some hF
    obtain ⟨hi_2, hF⟩ := hF
    refine va_iast hx hb hK hP hD hS 1 0 gtX3_1 rfl hi_2 dX3_add_19 (fun H locs hP hD hS => ?_)
    rw [stX3_1] at hP hD
    refine lv_aload_n hx hb dX3_add_20 rfl (lv_at hl 0 rfl) ?_
    refine va_get (D := D) (C := RX3) (T := TX3) (N := 4) hx hb hts hiX3 hown hK hP 0 gtX3_0 rfl 2 (by decide) hf19 (fun _ h9 => h9) rfl dX3_add_21 ?_
    refine lv_aload_n hx hb dX3_add_24 rfl (lv_at hl 0 rfl) ?_
    refine va_get (D := D) (C := RX3) (T := TX3) (N := 4) hx hb hts hiX3 hown hK hP 0 gtX3_0 rfl 0 (by decide) hf9 (fun _ h9 => h9) rfl dX3_add_25 ?_
    refine lv_iconst (v := -1) hx hb dX3_add_28 (by decide) ?_
    replace hF := ckI_some hF
    obtain ⟨hi_3, hF⟩ := hF
    refine va_iast hx hb hK hP hD hS 2 0 gtX3_2 rfl hi_3 dX3_add_29 (fun H locs hP hD hS => ?_)
    rw [stX3_2] at hP hD
    refine lv_aload_n hx hb dX3_add_30 rfl (lv_at hl 0 rfl) ?_
    refine va_get (D := D) (C := RX3) (T := TX3) (N := 4) hx hb hts hiX3 hown hK hP 0 gtX3_0 rfl 3 (by decide) hf22 (fun _ h9 => h9) rfl dX3_add_31 ?_
    refine lv_aload_n hx hb dX3_add_34 rfl (lv_at hl 0 rfl) ?_
    refine va_get (D := D) (C := RX3) (T := TX3) (N := 4) hx hb hts hiX3 hown hK hP 0 gtX3_0 rfl 0 (by decide) hf9 (fun _ h9 => h9) rfl dX3_add_35 ?_
    refine lv_iconst (v := -1) hx hb dX3_add_38 (by decide) ?_
    replace hF := ckI_some hF
    obtain ⟨hi_4, hF⟩ := hF
    refine va_iast hx hb hK hP hD hS 3 0 gtX3_3 rfl hi_4 dX3_add_39 (fun H locs hP hD hS => ?_)
    rw [stX3_3] at hP hD
    refine lv_aload_n hx hb dX3_add_40 rfl (lv_at hl 0 rfl) ?_
    refine lv_dup hx hb dX3_add_41 rfl ?_
    refine va_get (D := D) (C := RX3) (T := TX3) (N := 4) hx hb hts hiX3 hown hK hP 0 gtX3_0 rfl 0 (by decide) hf9 (fun _ h9 => h9) rfl dX3_add_42 ?_
    refine lv_iconst (v := 1) hx hb dX3_add_45 (by decide) ?_
    refine lv_iadd hx hb dX3_add_46 ?_
    refine va_put (D := D) (v := .int (nT + 1)) (ty := .int) (C := RX3) (T := TX3) (N := 4) hx hb hts hiX3 tyX3 tyX3_ok nmX3 hown hK hP hD hS 0 gtX3_0 rfl 0 (by decide) hf9 (fun _ h9 => h9) rfl (by decide +kernel) rfl rfl (Nat.le_of_ble_eq_true rfl) dX3_add_47 (fun H locs hP hD hS => ?_)
    rw [stX3_0_0] at hP hD
    refine lv_aload_n hx hb dX3_add_50 rfl (lv_at hl 0 rfl) ?_
    refine va_get (D := D) (C := RX3) (T := TX3) (N := 4) hx hb hts hiX3 hown hK hP 0 gtX3_0 rfl 0 (by decide) hf9 (fun _ h9 => h9) rfl dX3_add_51 ?_
    refine lv_iconst (v := 1) hx hb dX3_add_54 (by decide) ?_
    refine lv_isub hx hb dX3_add_55 ?_
    cases hF
    exact hQ _ _ _ _ _ _ (fun _ => 0) dX3_add_56 hP hD hS (Nat.le_of_ble_eq_true rfl) (Nat.le_of_ble_eq_true rfl)
  · replace hF := if_f hF c_1
    refine lv_iconst (v := -1) hx hb dX3_add_8 (by decide) ?_
    cases hF
    exact hQ _ _ _ _ _ _ (fun _ => 0) dX3_add_9 hP hD hS (Nat.le_of_ble_eq_true rfl) (Nat.le_of_ble_eq_true rfl)

def fX3_send (nT : Int32) (vat : FN) (pair : FN) (a1 : Int32) (a2 : Int32) (a3 : Int32) : Option (FN × FN) := (fX3_has nT a1).bind fun z1 => if z1 = 0 then some (vat, pair) else ckI a1 3 (ckI a1 3 (some (upd vat a1.toNatClampNeg a2, upd pair a1.toNatClampNeg a3)))
abbrev rX3_send : Room := { frames := 1, cells := 0, slots := 0, locals := 21 }
set_option maxHeartbeats 4000000 in
set_option maxRecDepth 100000 in
theorem kX3_send (l : Launch) (D : va_G) (cy : Nat → ClassId) (sa : SAT) (h : Nat → Nat) (nT : Int32) (skill : FN) (vat : FN) (pair : FN) (a1 : Int32) (a2 : Int32) (a3 : Int32) (z : FN × FN) (hF : fX3_send nT vat pair a1 a2 a3 = some z) : KV l D (tyW cy) sa yX3_send wsX3_send rX3_send [.ref (h 0), .int a1, .int a2, .int a3] (wX3 cy h nT skill vat pair) (fun _ => wX3 cy h nT skill z.1 z.2) 0 0 := by
  refine KV.of (cc := cX3_send) (maxL := 4) (by decide +kernel) rfl (Nat.le_of_ble_eq_true rfl) ?_
  intro p e s m args below meth c A ls Q hE hQ
  obtain ⟨hx, hb, hml, hown, hts, hA, hP, hK, hD, hG, hl, hnm⟩ := hE
  replace hown : s.vm.findClass RX3 = some m.cls := hown
  have hiX3 : ∀ w ∈ u_ws RX3 TX3 4, w ∈ wsX3_send := by decide +kernel
  have hf19 : (Cond.fieldLink RX3 19 "RagVats$Teams" "vat" "[I").before args s = true := hts _ (by decide +kernel)
  have hf22 : (Cond.fieldLink RX3 22 "RagVats$Teams" "pair" "[I").before args s = true := hts _ (by decide +kernel)
  replace hl : lv_has ls 4 [(0, .ref (h 0)), (1, .int a1), (2, .int a2), (3, .int a3)] := hl
  have hS : va_S A s.heap s.heap [] := va_S.rf
  unfold fX3_send at hF
  refine lv_aload_n hx hb dX3_send_0 rfl (lv_at hl 0 rfl) ?_
  refine lv_iload_n hx hb dX3_send_1 rfl (lv_at hl 1 rfl) ?_
  replace hF := bnd_some hF
  obtain ⟨z1, hz_1, hF⟩ := hF
  refine krI (kV (As := [.int a1]) ⟨hx, hb, hml, hown, hts⟩ (kX3_has l D cy sa h nT skill vat pair a1 z1 hz_1 _) (cwV 1 hts gX3_send_X3_has rfl rfl rfl (by decide +kernel) ⟨Nat.le_of_ble_eq_true rfl, Nat.le_of_ble_eq_true rfl⟩) hK hP hD hS hA hG [0, 1, 2, 3] hcX3_X3_0 ndX3_0 gtX3_0 rfl rfl rfl hl.1 [] rfl (Nat.le_of_ble_eq_true rfl) dX3_send_2 ⟨(Nat.le_of_ble_eq_true rfl), (Nat.le_of_ble_eq_true rfl)⟩) hP hD hS hA [0, 1, 2, 3] hcX3_X3_0 (fun H locs hP hS => ?_)
  refine lv_if_eq (tgt := 22) hx hb dX3_send_5 (by decide) (fun c_2 => ?_) (fun c_2 => ?_)
  · replace hF := if_t hF c_2
    cases hF
    exact hQ _ _ _ _ _ _ (fun _ => 0) dX3_send_22 hP hD hS (Nat.le_of_ble_eq_true rfl) (Nat.le_of_ble_eq_true rfl)
  · replace hF := if_f hF c_2
    refine lv_aload_n hx hb dX3_send_8 rfl (lv_at hl 0 rfl) ?_
    refine va_get (D := D) (C := RX3) (T := TX3) (N := 4) hx hb hts hiX3 hown hK hP 0 gtX3_0 rfl 2 (by decide) hf19 (fun _ h9 => h9) rfl dX3_send_9 ?_
    refine lv_iload_n hx hb dX3_send_12 rfl (lv_at hl 1 rfl) ?_
    refine lv_iload_n hx hb dX3_send_13 rfl (lv_at hl 2 rfl) ?_
    replace hF := ckI_some hF
    obtain ⟨hi_3, hF⟩ := hF
    refine va_iast hx hb hK hP hD hS 2 0 gtX3_2 rfl hi_3 dX3_send_14 (fun H locs hP hD hS => ?_)
    rw [stX3_2] at hP hD
    refine lv_aload_n hx hb dX3_send_15 rfl (lv_at hl 0 rfl) ?_
    refine va_get (D := D) (C := RX3) (T := TX3) (N := 4) hx hb hts hiX3 hown hK hP 0 gtX3_0 rfl 3 (by decide) hf22 (fun _ h9 => h9) rfl dX3_send_16 ?_
    refine lv_iload_n hx hb dX3_send_19 rfl (lv_at hl 1 rfl) ?_
    refine lv_iload_n hx hb dX3_send_20 rfl (lv_at hl 3 rfl) ?_
    replace hF := ckI_some hF
    obtain ⟨hi_4, hF⟩ := hF
    refine va_iast hx hb hK hP hD hS 3 0 gtX3_3 rfl hi_4 dX3_send_21 (fun H locs hP hD hS => ?_)
    rw [stX3_3] at hP hD
    cases hF
    exact hQ _ _ _ _ _ _ (fun _ => 0) dX3_send_22 hP hD hS (Nat.le_of_ble_eq_true rfl) (Nat.le_of_ble_eq_true rfl)
