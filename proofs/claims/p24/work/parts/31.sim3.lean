def zs_h0 : zs_H := (0, fun _ => .inl (0, fun _ => 0))
def zs_G0 : FN := fun k => if k = 1 then 40 else if k = 2 then 30 else 0
def fX6_init : Option ((Nat → Nat) × zs_H) := (zs_nwi zs_h0 7 7).bind fun p1 => (zs_st p1 zs_h0.1 0 4).bind fun p2 => (zs_st p2 zs_h0.1 1 4).bind fun p3 => (zs_st p3 zs_h0.1 2 4).bind fun p4 => (zs_st p4 zs_h0.1 3 4).bind fun p5 => (zs_st p5 zs_h0.1 4 4).bind fun p6 => (zs_st p6 zs_h0.1 5 4).bind fun p7 => (zs_st p7 zs_h0.1 6 4).bind fun p8 => (zs_nwi p8 3 3).bind fun p9 => (zs_st p9 p8.1 0 60).bind fun p10 => (zs_st p10 p8.1 1 60).bind fun p11 => (zs_st p11 p8.1 2 60).bind fun p12 => (zs_nwr p12 4 4).bind fun p13 => (zs_nwi p13 3 3).bind fun p14 => (zs_st p14 p13.1 0 0).bind fun p15 => (zs_st p15 p13.1 1 0).bind fun p16 => (zs_st p16 p13.1 2 (-1)).bind fun p17 => (zs_str p17 p12.1 0 p13.1).bind fun p18 => (zs_nwi p18 3 3).bind fun p19 => (zs_st p19 p18.1 0 0).bind fun p20 => (zs_st p20 p18.1 1 0).bind fun p21 => (zs_st p21 p18.1 2 (-1)).bind fun p22 => (zs_str p22 p12.1 1 p18.1).bind fun p23 => (zs_nwi p23 3 3).bind fun p24 => (zs_st p24 p23.1 0 0).bind fun p25 => (zs_st p25 p23.1 1 0).bind fun p26 => (zs_st p26 p23.1 2 (-1)).bind fun p27 => (zs_str p27 p12.1 2 p23.1).bind fun p28 => (zs_nwi p28 3 3).bind fun p29 => (zs_st p29 p28.1 0 0).bind fun p30 => (zs_st p30 p28.1 1 0).bind fun p31 => (zs_st p31 p28.1 2 (-1)).bind fun p32 => (zs_str p32 p12.1 3 p28.1).bind fun p33 => (zs_nwr p33 0 0).bind fun p34 => (zs_nwr p34 0 0).bind fun p35 => (zs_nwr p35 0 0).bind fun p36 => (some (zs_nwm p36 10 3)).bind fun p37 => some (va_up (va_up (va_up (va_up (va_up (va_up (fun _ => zs_h0.1) 6 p8.1) 7 p12.1) 8 p33.1) 9 p34.1) 10 p35.1) 11 p36.1, p37)
abbrev rX6_init : Room := { frames := 1, cells := 21, slots := 66, locals := 30 }
set_option maxHeartbeats 40000000 in
set_option maxRecDepth 100000 in
theorem kX6_init (l : Launch) (D : va_G) (cy : Nat → ClassId) (sa : SAT) (hs : Nat) (z : (Nat → Nat) × zs_H) (hF : fX6_init = some z) : zg_V l D (tyW cy) sa yX6_init wsX6_init rX6_init [.ref hs] [(hs, .inr (6, [.int 0, .int 0, .int 0, .int 0, .int 0, .null, .null, .null, .null, .null, .null, .null]))] (fun (_ : Nat → Nat) => zs_wf z.2 ∧ zs_fs z.1 z.2) (fun u => zs_W [] cy hs u zs_G0 z.1 z.2) 21 66 := by
  refine zg_V.of (cc := cX6_init) (maxL := 1) (by decide +kernel) rfl (Nat.le_of_ble_eq_true rfl) ?_
  intro pg e s m args below meth c A ls Q hE hQ
  obtain ⟨hx, hb, hml, hown, hts, hA, hP, hK, hD, hG, hl, hnm⟩ := hE
  replace hown : s.vm.findClass RX6 = some m.cls := hown
  have hiX6 : ∀ w ∈ u_ws RX6 TX6 12, w ∈ wsX6_init := by decide +kernel
  have hf7 : (Cond.fieldLink RX6 7 "RagVatsLaw$Sim" "coins" "I").before args s = true := hts _ (by decide +kernel)
  have hf13 : (Cond.fieldLink RX6 13 "RagVatsLaw$Sim" "felts" "I").before args s = true := hts _ (by decide +kernel)
  have hf16 : (Cond.fieldLink RX6 16 "RagVatsLaw$Sim" "water" "[I").before args s = true := hts _ (by decide +kernel)
  have hf20 : (Cond.fieldLink RX6 20 "RagVatsLaw$Sim" "rags" "[I").before args s = true := hts _ (by decide +kernel)
  have hf24 : (Cond.fieldLink RX6 24 "RagVatsLaw$Sim" "vats" "[[I").before args s = true := hts _ (by decide +kernel)
  have hf28 : (Cond.fieldLink RX6 28 "RagVatsLaw$Sim" "pairs" "[[I").before args s = true := hts _ (by decide +kernel)
  have hf31 : (Cond.fieldLink RX6 31 "RagVatsLaw$Sim" "teams" "[[I").before args s = true := hts _ (by decide +kernel)
  have hf34 : (Cond.fieldLink RX6 34 "RagVatsLaw$Sim" "posts" "[[I").before args s = true := hts _ (by decide +kernel)
  have hf38 : (Cond.fieldLink RX6 38 "RagVatsLaw$Sim" "loft" "[[I").before args s = true := hts _ (by decide +kernel)
  replace hl : lv_has ls 1 [(0, .ref hs)] := hl
  have hS : va_S A s.heap s.heap [] := va_S.rf
  replace hP : va_P D vwCl (([(hs, .inr (6, [.int 0, .int 0, .int 0, .int 0, .int 0, .null, .null, .null, .null, .null, .null, .null]))] : va_W) ++ zs_rows cy (fun _ => 0) zs_h0) s.heap := hP
  replace hD : va_D A (([(hs, .inr (6, [.int 0, .int 0, .int 0, .int 0, .int 0, .null, .null, .null, .null, .null, .null, .null]))] : va_W) ++ zs_rows cy (fun _ => 0) zs_h0) := hD
  have hw0 : zs_wf zs_h0 := fun i hi => absurd hi (Nat.not_lt_zero i)
  unfold fX6_init at hF
  refine lv_aload_n hx hb dX6_init_0 rfl (lv_at hl 0 rfl) ?_
  refine W.objInit hx hb hown (hts (.methodLink RX6 1 objectInit) (by decide +kernel)) (hts (.instanceMethod objectInit) (by decide +kernel)) (hts _ (List.mem_of_getElem? (i := 3) (by decide +kernel))) rfl (by rw [hml]; exact hl.1) rfl dX6_init_1 (Nat.le_of_ble_eq_true rfl) (Nat.le_of_ble_eq_true rfl) ?_
  refine W.eq (g2 := F0 m 4 ls []) rfl ?_
  refine lv_aload_n hx hb dX6_init_4 rfl (lv_at hl 0 rfl) ?_
  refine lv_bipush (v := 40) hx hb dX6_init_5 (by decide) ?_
  refine va_put (D := D) (v := .int 40) (ty := .int) (C := RX6) (T := TX6) (N := 12) hx hb hts hiX6 tyX6 tyX6_ok nmX6 hown hK hP hD hS 0 rfl rfl 1 (by decide) hf7 (fun _ h9 => h9) rfl (by decide +kernel) rfl rfl (Nat.le_of_ble_eq_true rfl) dX6_init_7 (fun H locs hP hD hS => ?_)
  replace hP : va_P D vwCl (([(hs, .inr (6, [.int 0, .int 40, .int 0, .int 0, .int 0, .null, .null, .null, .null, .null, .null, .null]))] : va_W) ++ zs_rows cy (fun _ => 0) zs_h0) H := hP
  replace hD : va_D A (([(hs, .inr (6, [.int 0, .int 40, .int 0, .int 0, .int 0, .null, .null, .null, .null, .null, .null, .null]))] : va_W) ++ zs_rows cy (fun _ => 0) zs_h0) := hD
  refine lv_aload_n hx hb dX6_init_10 rfl (lv_at hl 0 rfl) ?_
  refine lv_bipush (v := 30) hx hb dX6_init_11 (by decide) ?_
  refine va_put (D := D) (v := .int 30) (ty := .int) (C := RX6) (T := TX6) (N := 12) hx hb hts hiX6 tyX6 tyX6_ok nmX6 hown hK hP hD hS 0 rfl rfl 2 (by decide) hf13 (fun _ h9 => h9) rfl (by decide +kernel) rfl rfl (Nat.le_of_ble_eq_true rfl) dX6_init_13 (fun H locs hP hD hS => ?_)
  replace hP : va_P D vwCl (([(hs, .inr (6, [.int 0, .int 40, .int 30, .int 0, .int 0, .null, .null, .null, .null, .null, .null, .null]))] : va_W) ++ zs_rows cy (fun _ => 0) zs_h0) H := hP
  replace hD : va_D A (([(hs, .inr (6, [.int 0, .int 40, .int 30, .int 0, .int 0, .null, .null, .null, .null, .null, .null, .null]))] : va_W) ++ zs_rows cy (fun _ => 0) zs_h0) := hD
  refine lv_aload_n hx hb dX6_init_16 rfl (lv_at hl 0 rfl) ?_
  refine lv_bipush (v := 7) hx hb dX6_init_17 (by decide) ?_
  replace hF := bnd_some hF
  obtain ⟨p1, hz_1, hF⟩ := hF
  refine sx_nwi hx hb (hts (.arrayClass .int) (by decide +kernel)) hK hw0 hP hD hS hA hz_1 (Nat.le_of_ble_eq_true rfl) (Nat.le_of_ble_eq_true rfl) (Nat.le_of_ble_eq_true rfl) dX6_init_19 (fun ad1 H ha1 hP hD hS => ?_)
  obtain ⟨hw1, hn1⟩ := zs_nwi_wf hw0 hz_1
  have lf1 : (zs_h0).1 ≤ p1.1 := by rw [hn1]; exact Nat.le_succ _
  have fn1 : (zs_h0).1 < p1.1 := by rw [hn1]; exact Nat.lt_succ_self _
  replace hP : va_P D vwCl (([(hs, .inr (6, [.int 0, .int 40, .int 30, .int 0, .int 0, .null, .null, .null, .null, .null, .null, .null]))] : va_W) ++ zs_rows cy ad1 p1) H := hP
  replace hD : va_D A (([(hs, .inr (6, [.int 0, .int 40, .int 30, .int 0, .int 0, .null, .null, .null, .null, .null, .null, .null]))] : va_W) ++ zs_rows cy ad1 p1) := hD
  refine lv_dup hx hb dX6_init_21 rfl ?_
  refine lv_iconst (v := 0) hx hb dX6_init_22 (by decide) ?_
  refine lv_iconst (v := 4) hx hb dX6_init_23 (by decide) ?_
  replace hF := bnd_some hF
  obtain ⟨p2, hz_2, hF⟩ := hF
  refine sx_st hx hb hK hP hD hS hz_2 dX6_init_24 (fun H locs hP hD hS => ?_)
  obtain ⟨hw2, hn2⟩ := zs_st_wf hw1 hz_2
  have lf2 : (p1).1 ≤ p2.1 := Nat.le_of_eq hn2.symm
  have fr2_0 : zs_h0.1 < (p2).1 := Nat.lt_of_lt_of_le fn1 lf2
  replace hP : va_P D vwCl (([(hs, .inr (6, [.int 0, .int 40, .int 30, .int 0, .int 0, .null, .null, .null, .null, .null, .null, .null]))] : va_W) ++ zs_rows cy ad1 p2) H := hP
  replace hD : va_D A (([(hs, .inr (6, [.int 0, .int 40, .int 30, .int 0, .int 0, .null, .null, .null, .null, .null, .null, .null]))] : va_W) ++ zs_rows cy ad1 p2) := hD
  refine lv_dup hx hb dX6_init_25 rfl ?_
  refine lv_iconst (v := 1) hx hb dX6_init_26 (by decide) ?_
  refine lv_iconst (v := 4) hx hb dX6_init_27 (by decide) ?_
  replace hF := bnd_some hF
  obtain ⟨p3, hz_3, hF⟩ := hF
  refine sx_st hx hb hK hP hD hS hz_3 dX6_init_28 (fun H locs hP hD hS => ?_)
  obtain ⟨hw3, hn3⟩ := zs_st_wf hw2 hz_3
  have lf3 : (p2).1 ≤ p3.1 := Nat.le_of_eq hn3.symm
  have fr3_0 : zs_h0.1 < (p3).1 := Nat.lt_of_lt_of_le fr2_0 lf3
  replace hP : va_P D vwCl (([(hs, .inr (6, [.int 0, .int 40, .int 30, .int 0, .int 0, .null, .null, .null, .null, .null, .null, .null]))] : va_W) ++ zs_rows cy ad1 p3) H := hP
  replace hD : va_D A (([(hs, .inr (6, [.int 0, .int 40, .int 30, .int 0, .int 0, .null, .null, .null, .null, .null, .null, .null]))] : va_W) ++ zs_rows cy ad1 p3) := hD
  refine lv_dup hx hb dX6_init_29 rfl ?_
  refine lv_iconst (v := 2) hx hb dX6_init_30 (by decide) ?_
  refine lv_iconst (v := 4) hx hb dX6_init_31 (by decide) ?_
  replace hF := bnd_some hF
  obtain ⟨p4, hz_4, hF⟩ := hF
  refine sx_st hx hb hK hP hD hS hz_4 dX6_init_32 (fun H locs hP hD hS => ?_)
  obtain ⟨hw4, hn4⟩ := zs_st_wf hw3 hz_4
  have lf4 : (p3).1 ≤ p4.1 := Nat.le_of_eq hn4.symm
  have fr4_0 : zs_h0.1 < (p4).1 := Nat.lt_of_lt_of_le fr3_0 lf4
  replace hP : va_P D vwCl (([(hs, .inr (6, [.int 0, .int 40, .int 30, .int 0, .int 0, .null, .null, .null, .null, .null, .null, .null]))] : va_W) ++ zs_rows cy ad1 p4) H := hP
  replace hD : va_D A (([(hs, .inr (6, [.int 0, .int 40, .int 30, .int 0, .int 0, .null, .null, .null, .null, .null, .null, .null]))] : va_W) ++ zs_rows cy ad1 p4) := hD
  refine lv_dup hx hb dX6_init_33 rfl ?_
  refine lv_iconst (v := 3) hx hb dX6_init_34 (by decide) ?_
  refine lv_iconst (v := 4) hx hb dX6_init_35 (by decide) ?_
  replace hF := bnd_some hF
  obtain ⟨p5, hz_5, hF⟩ := hF
  refine sx_st hx hb hK hP hD hS hz_5 dX6_init_36 (fun H locs hP hD hS => ?_)
  obtain ⟨hw5, hn5⟩ := zs_st_wf hw4 hz_5
  have lf5 : (p4).1 ≤ p5.1 := Nat.le_of_eq hn5.symm
  have fr5_0 : zs_h0.1 < (p5).1 := Nat.lt_of_lt_of_le fr4_0 lf5
  replace hP : va_P D vwCl (([(hs, .inr (6, [.int 0, .int 40, .int 30, .int 0, .int 0, .null, .null, .null, .null, .null, .null, .null]))] : va_W) ++ zs_rows cy ad1 p5) H := hP
  replace hD : va_D A (([(hs, .inr (6, [.int 0, .int 40, .int 30, .int 0, .int 0, .null, .null, .null, .null, .null, .null, .null]))] : va_W) ++ zs_rows cy ad1 p5) := hD
  refine lv_dup hx hb dX6_init_37 rfl ?_
  refine lv_iconst (v := 4) hx hb dX6_init_38 (by decide) ?_
  refine lv_iconst (v := 4) hx hb dX6_init_39 (by decide) ?_
  replace hF := bnd_some hF
  obtain ⟨p6, hz_6, hF⟩ := hF
  refine sx_st hx hb hK hP hD hS hz_6 dX6_init_40 (fun H locs hP hD hS => ?_)
  obtain ⟨hw6, hn6⟩ := zs_st_wf hw5 hz_6
  have lf6 : (p5).1 ≤ p6.1 := Nat.le_of_eq hn6.symm
  have fr6_0 : zs_h0.1 < (p6).1 := Nat.lt_of_lt_of_le fr5_0 lf6
  replace hP : va_P D vwCl (([(hs, .inr (6, [.int 0, .int 40, .int 30, .int 0, .int 0, .null, .null, .null, .null, .null, .null, .null]))] : va_W) ++ zs_rows cy ad1 p6) H := hP
  replace hD : va_D A (([(hs, .inr (6, [.int 0, .int 40, .int 30, .int 0, .int 0, .null, .null, .null, .null, .null, .null, .null]))] : va_W) ++ zs_rows cy ad1 p6) := hD
  refine lv_dup hx hb dX6_init_41 rfl ?_
  refine lv_iconst (v := 5) hx hb dX6_init_42 (by decide) ?_
  refine lv_iconst (v := 4) hx hb dX6_init_43 (by decide) ?_
  replace hF := bnd_some hF
  obtain ⟨p7, hz_7, hF⟩ := hF
  refine sx_st hx hb hK hP hD hS hz_7 dX6_init_44 (fun H locs hP hD hS => ?_)
  obtain ⟨hw7, hn7⟩ := zs_st_wf hw6 hz_7
  have lf7 : (p6).1 ≤ p7.1 := Nat.le_of_eq hn7.symm
  have fr7_0 : zs_h0.1 < (p7).1 := Nat.lt_of_lt_of_le fr6_0 lf7
  replace hP : va_P D vwCl (([(hs, .inr (6, [.int 0, .int 40, .int 30, .int 0, .int 0, .null, .null, .null, .null, .null, .null, .null]))] : va_W) ++ zs_rows cy ad1 p7) H := hP
  replace hD : va_D A (([(hs, .inr (6, [.int 0, .int 40, .int 30, .int 0, .int 0, .null, .null, .null, .null, .null, .null, .null]))] : va_W) ++ zs_rows cy ad1 p7) := hD
  refine lv_dup hx hb dX6_init_45 rfl ?_
  refine lv_bipush (v := 6) hx hb dX6_init_46 (by decide) ?_
  refine lv_iconst (v := 4) hx hb dX6_init_48 (by decide) ?_
  replace hF := bnd_some hF
  obtain ⟨p8, hz_8, hF⟩ := hF
  refine sx_st hx hb hK hP hD hS hz_8 dX6_init_49 (fun H locs hP hD hS => ?_)
  obtain ⟨hw8, hn8⟩ := zs_st_wf hw7 hz_8
  have lf8 : (p7).1 ≤ p8.1 := Nat.le_of_eq hn8.symm
  have fr8_0 : zs_h0.1 < (p8).1 := Nat.lt_of_lt_of_le fr7_0 lf8
  replace hP : va_P D vwCl (([(hs, .inr (6, [.int 0, .int 40, .int 30, .int 0, .int 0, .null, .null, .null, .null, .null, .null, .null]))] : va_W) ++ zs_rows cy ad1 p8) H := hP
  replace hD : va_D A (([(hs, .inr (6, [.int 0, .int 40, .int 30, .int 0, .int 0, .null, .null, .null, .null, .null, .null, .null]))] : va_W) ++ zs_rows cy ad1 p8) := hD
  refine va_put (D := D) (v := .ref (ad1 zs_h0.1)) (ty := .array .int) (C := RX6) (T := TX6) (N := 12) hx hb hts hiX6 tyX6 tyX6_ok nmX6 hown hK hP hD hS 0 rfl rfl 5 (by decide) hf16 (fun _ h9 => h9) rfl (by decide +kernel) rfl rfl (Nat.le_of_ble_eq_true rfl) dX6_init_50 (fun H locs hP hD hS => ?_)
  replace hP : va_P D vwCl (([(hs, .inr (6, [.int 0, .int 40, .int 30, .int 0, .int 0, .ref (ad1 zs_h0.1), .null, .null, .null, .null, .null, .null]))] : va_W) ++ zs_rows cy ad1 p8) H := hP
  replace hD : va_D A (([(hs, .inr (6, [.int 0, .int 40, .int 30, .int 0, .int 0, .ref (ad1 zs_h0.1), .null, .null, .null, .null, .null, .null]))] : va_W) ++ zs_rows cy ad1 p8) := hD
  refine lv_aload_n hx hb dX6_init_53 rfl (lv_at hl 0 rfl) ?_
  refine lv_iconst (v := 3) hx hb dX6_init_54 (by decide) ?_
  replace hF := bnd_some hF
  obtain ⟨p9, hz_9, hF⟩ := hF
  refine sx_nwi hx hb (hts (.arrayClass .int) (by decide +kernel)) hK hw8 hP hD hS hA hz_9 (Nat.le_of_ble_eq_true rfl) (Nat.le_of_ble_eq_true rfl) (Nat.le_of_ble_eq_true rfl) dX6_init_55 (fun ad9 H ha9 hP hD hS => ?_)
  obtain ⟨hw9, hn9⟩ := zs_nwi_wf hw8 hz_9
  have lf9 : (p8).1 ≤ p9.1 := by rw [hn9]; exact Nat.le_succ _
  have fn9 : (p8).1 < p9.1 := by rw [hn9]; exact Nat.lt_succ_self _
  rw [← ha9 zs_h0.1 fr8_0] at hP hD
  have fr9_0 : zs_h0.1 < (p9).1 := Nat.lt_of_lt_of_le fr8_0 lf9
  replace hP : va_P D vwCl (([(hs, .inr (6, [.int 0, .int 40, .int 30, .int 0, .int 0, .ref (ad9 zs_h0.1), .null, .null, .null, .null, .null, .null]))] : va_W) ++ zs_rows cy ad9 p9) H := hP
  replace hD : va_D A (([(hs, .inr (6, [.int 0, .int 40, .int 30, .int 0, .int 0, .ref (ad9 zs_h0.1), .null, .null, .null, .null, .null, .null]))] : va_W) ++ zs_rows cy ad9 p9) := hD
  refine lv_dup hx hb dX6_init_57 rfl ?_
  refine lv_iconst (v := 0) hx hb dX6_init_58 (by decide) ?_
  refine lv_bipush (v := 60) hx hb dX6_init_59 (by decide) ?_
  replace hF := bnd_some hF
  obtain ⟨p10, hz_10, hF⟩ := hF
  refine sx_st hx hb hK hP hD hS hz_10 dX6_init_61 (fun H locs hP hD hS => ?_)
  obtain ⟨hw10, hn10⟩ := zs_st_wf hw9 hz_10
  have lf10 : (p9).1 ≤ p10.1 := Nat.le_of_eq hn10.symm
  have fr10_0 : zs_h0.1 < (p10).1 := Nat.lt_of_lt_of_le fr9_0 lf10
  have fr10_1 : p8.1 < (p10).1 := Nat.lt_of_lt_of_le fn9 lf10
  replace hP : va_P D vwCl (([(hs, .inr (6, [.int 0, .int 40, .int 30, .int 0, .int 0, .ref (ad9 zs_h0.1), .null, .null, .null, .null, .null, .null]))] : va_W) ++ zs_rows cy ad9 p10) H := hP
  replace hD : va_D A (([(hs, .inr (6, [.int 0, .int 40, .int 30, .int 0, .int 0, .ref (ad9 zs_h0.1), .null, .null, .null, .null, .null, .null]))] : va_W) ++ zs_rows cy ad9 p10) := hD
  refine lv_dup hx hb dX6_init_62 rfl ?_
  refine lv_iconst (v := 1) hx hb dX6_init_63 (by decide) ?_
  refine lv_bipush (v := 60) hx hb dX6_init_64 (by decide) ?_
  replace hF := bnd_some hF
  obtain ⟨p11, hz_11, hF⟩ := hF
  refine sx_st hx hb hK hP hD hS hz_11 dX6_init_66 (fun H locs hP hD hS => ?_)
  obtain ⟨hw11, hn11⟩ := zs_st_wf hw10 hz_11
  have lf11 : (p10).1 ≤ p11.1 := Nat.le_of_eq hn11.symm
  have fr11_0 : zs_h0.1 < (p11).1 := Nat.lt_of_lt_of_le fr10_0 lf11
  have fr11_1 : p8.1 < (p11).1 := Nat.lt_of_lt_of_le fr10_1 lf11
  replace hP : va_P D vwCl (([(hs, .inr (6, [.int 0, .int 40, .int 30, .int 0, .int 0, .ref (ad9 zs_h0.1), .null, .null, .null, .null, .null, .null]))] : va_W) ++ zs_rows cy ad9 p11) H := hP
  replace hD : va_D A (([(hs, .inr (6, [.int 0, .int 40, .int 30, .int 0, .int 0, .ref (ad9 zs_h0.1), .null, .null, .null, .null, .null, .null]))] : va_W) ++ zs_rows cy ad9 p11) := hD
  refine lv_dup hx hb dX6_init_67 rfl ?_
  refine lv_iconst (v := 2) hx hb dX6_init_68 (by decide) ?_
  refine lv_bipush (v := 60) hx hb dX6_init_69 (by decide) ?_
  replace hF := bnd_some hF
  obtain ⟨p12, hz_12, hF⟩ := hF
  refine sx_st hx hb hK hP hD hS hz_12 dX6_init_71 (fun H locs hP hD hS => ?_)
  obtain ⟨hw12, hn12⟩ := zs_st_wf hw11 hz_12
  have lf12 : (p11).1 ≤ p12.1 := Nat.le_of_eq hn12.symm
  have fr12_0 : zs_h0.1 < (p12).1 := Nat.lt_of_lt_of_le fr11_0 lf12
  have fr12_1 : p8.1 < (p12).1 := Nat.lt_of_lt_of_le fr11_1 lf12
  replace hP : va_P D vwCl (([(hs, .inr (6, [.int 0, .int 40, .int 30, .int 0, .int 0, .ref (ad9 zs_h0.1), .null, .null, .null, .null, .null, .null]))] : va_W) ++ zs_rows cy ad9 p12) H := hP
  replace hD : va_D A (([(hs, .inr (6, [.int 0, .int 40, .int 30, .int 0, .int 0, .ref (ad9 zs_h0.1), .null, .null, .null, .null, .null, .null]))] : va_W) ++ zs_rows cy ad9 p12) := hD
  refine va_put (D := D) (v := .ref (ad9 p8.1)) (ty := .array .int) (C := RX6) (T := TX6) (N := 12) hx hb hts hiX6 tyX6 tyX6_ok nmX6 hown hK hP hD hS 0 rfl rfl 6 (by decide) hf20 (fun _ h9 => h9) rfl (by decide +kernel) rfl rfl (Nat.le_of_ble_eq_true rfl) dX6_init_72 (fun H locs hP hD hS => ?_)
  replace hP : va_P D vwCl (([(hs, .inr (6, [.int 0, .int 40, .int 30, .int 0, .int 0, .ref (ad9 zs_h0.1), .ref (ad9 p8.1), .null, .null, .null, .null, .null]))] : va_W) ++ zs_rows cy ad9 p12) H := hP
  replace hD : va_D A (([(hs, .inr (6, [.int 0, .int 40, .int 30, .int 0, .int 0, .ref (ad9 zs_h0.1), .ref (ad9 p8.1), .null, .null, .null, .null, .null]))] : va_W) ++ zs_rows cy ad9 p12) := hD
  refine lv_aload_n hx hb dX6_init_75 rfl (lv_at hl 0 rfl) ?_
  refine lv_iconst (v := 4) hx hb dX6_init_76 (by decide) ?_
  replace hF := bnd_some hF
  obtain ⟨p13, hz_13, hF⟩ := hF
  refine sx_nwr hx hb hown (hts (.classLink RX6 23 "[I") (by decide +kernel)) hG.1.2.2.2 hK hw12 hP hD hS hA hz_13 (Nat.le_of_ble_eq_true rfl) (Nat.le_of_ble_eq_true rfl) (Nat.le_of_ble_eq_true rfl) dX6_init_77 (fun ad13 H ha13 hP hD hS => ?_)
  obtain ⟨hw13, hn13⟩ := zs_nwr_wf hw12 hz_13
  have lf13 : (p12).1 ≤ p13.1 := by rw [hn13]; exact Nat.le_succ _
  have fn13 : (p12).1 < p13.1 := by rw [hn13]; exact Nat.lt_succ_self _
  rw [← ha13 zs_h0.1 fr12_0] at hP hD
  rw [← ha13 p8.1 fr12_1] at hP hD
  have fr13_0 : zs_h0.1 < (p13).1 := Nat.lt_of_lt_of_le fr12_0 lf13
  have fr13_1 : p8.1 < (p13).1 := Nat.lt_of_lt_of_le fr12_1 lf13
  replace hP : va_P D vwCl (([(hs, .inr (6, [.int 0, .int 40, .int 30, .int 0, .int 0, .ref (ad13 zs_h0.1), .ref (ad13 p8.1), .null, .null, .null, .null, .null]))] : va_W) ++ zs_rows cy ad13 p13) H := hP
  replace hD : va_D A (([(hs, .inr (6, [.int 0, .int 40, .int 30, .int 0, .int 0, .ref (ad13 zs_h0.1), .ref (ad13 p8.1), .null, .null, .null, .null, .null]))] : va_W) ++ zs_rows cy ad13 p13) := hD
  refine lv_dup hx hb dX6_init_80 rfl ?_
  refine lv_iconst (v := 0) hx hb dX6_init_81 (by decide) ?_
  refine lv_iconst (v := 3) hx hb dX6_init_82 (by decide) ?_
  replace hF := bnd_some hF
  obtain ⟨p14, hz_14, hF⟩ := hF
  refine sx_nwi hx hb (hts (.arrayClass .int) (by decide +kernel)) hK hw13 hP hD hS hA hz_14 (Nat.le_of_ble_eq_true rfl) (Nat.le_of_ble_eq_true rfl) (Nat.le_of_ble_eq_true rfl) dX6_init_83 (fun ad14 H ha14 hP hD hS => ?_)
  obtain ⟨hw14, hn14⟩ := zs_nwi_wf hw13 hz_14
  have lf14 : (p13).1 ≤ p14.1 := by rw [hn14]; exact Nat.le_succ _
  have fn14 : (p13).1 < p14.1 := by rw [hn14]; exact Nat.lt_succ_self _
  rw [← ha14 zs_h0.1 fr13_0] at hP hD
  rw [← ha14 p8.1 fr13_1] at hP hD
  rw [← ha14 p12.1 fn13]
  have fr14_0 : zs_h0.1 < (p14).1 := Nat.lt_of_lt_of_le fr13_0 lf14
  have fr14_1 : p8.1 < (p14).1 := Nat.lt_of_lt_of_le fr13_1 lf14
  have fr14_2 : p12.1 < (p14).1 := Nat.lt_of_lt_of_le fn13 lf14
  replace hP : va_P D vwCl (([(hs, .inr (6, [.int 0, .int 40, .int 30, .int 0, .int 0, .ref (ad14 zs_h0.1), .ref (ad14 p8.1), .null, .null, .null, .null, .null]))] : va_W) ++ zs_rows cy ad14 p14) H := hP
  replace hD : va_D A (([(hs, .inr (6, [.int 0, .int 40, .int 30, .int 0, .int 0, .ref (ad14 zs_h0.1), .ref (ad14 p8.1), .null, .null, .null, .null, .null]))] : va_W) ++ zs_rows cy ad14 p14) := hD
  refine lv_dup hx hb dX6_init_85 rfl ?_
  refine lv_iconst (v := 0) hx hb dX6_init_86 (by decide) ?_
  refine lv_iconst (v := 0) hx hb dX6_init_87 (by decide) ?_
  replace hF := bnd_some hF
  obtain ⟨p15, hz_15, hF⟩ := hF
  refine sx_st hx hb hK hP hD hS hz_15 dX6_init_88 (fun H locs hP hD hS => ?_)
  obtain ⟨hw15, hn15⟩ := zs_st_wf hw14 hz_15
  have lf15 : (p14).1 ≤ p15.1 := Nat.le_of_eq hn15.symm
  have fr15_0 : zs_h0.1 < (p15).1 := Nat.lt_of_lt_of_le fr14_0 lf15
  have fr15_1 : p8.1 < (p15).1 := Nat.lt_of_lt_of_le fr14_1 lf15
  have fr15_2 : p12.1 < (p15).1 := Nat.lt_of_lt_of_le fr14_2 lf15
  have fr15_3 : p13.1 < (p15).1 := Nat.lt_of_lt_of_le fn14 lf15
  replace hP : va_P D vwCl (([(hs, .inr (6, [.int 0, .int 40, .int 30, .int 0, .int 0, .ref (ad14 zs_h0.1), .ref (ad14 p8.1), .null, .null, .null, .null, .null]))] : va_W) ++ zs_rows cy ad14 p15) H := hP
  replace hD : va_D A (([(hs, .inr (6, [.int 0, .int 40, .int 30, .int 0, .int 0, .ref (ad14 zs_h0.1), .ref (ad14 p8.1), .null, .null, .null, .null, .null]))] : va_W) ++ zs_rows cy ad14 p15) := hD
  refine lv_dup hx hb dX6_init_89 rfl ?_
  refine lv_iconst (v := 1) hx hb dX6_init_90 (by decide) ?_
  refine lv_iconst (v := 0) hx hb dX6_init_91 (by decide) ?_
  replace hF := bnd_some hF
  obtain ⟨p16, hz_16, hF⟩ := hF
  refine sx_st hx hb hK hP hD hS hz_16 dX6_init_92 (fun H locs hP hD hS => ?_)
  obtain ⟨hw16, hn16⟩ := zs_st_wf hw15 hz_16
  have lf16 : (p15).1 ≤ p16.1 := Nat.le_of_eq hn16.symm
  have fr16_0 : zs_h0.1 < (p16).1 := Nat.lt_of_lt_of_le fr15_0 lf16
  have fr16_1 : p8.1 < (p16).1 := Nat.lt_of_lt_of_le fr15_1 lf16
  have fr16_2 : p12.1 < (p16).1 := Nat.lt_of_lt_of_le fr15_2 lf16
  have fr16_3 : p13.1 < (p16).1 := Nat.lt_of_lt_of_le fr15_3 lf16
  replace hP : va_P D vwCl (([(hs, .inr (6, [.int 0, .int 40, .int 30, .int 0, .int 0, .ref (ad14 zs_h0.1), .ref (ad14 p8.1), .null, .null, .null, .null, .null]))] : va_W) ++ zs_rows cy ad14 p16) H := hP
  replace hD : va_D A (([(hs, .inr (6, [.int 0, .int 40, .int 30, .int 0, .int 0, .ref (ad14 zs_h0.1), .ref (ad14 p8.1), .null, .null, .null, .null, .null]))] : va_W) ++ zs_rows cy ad14 p16) := hD
  refine lv_dup hx hb dX6_init_93 rfl ?_
  refine lv_iconst (v := 2) hx hb dX6_init_94 (by decide) ?_
  refine lv_iconst (v := -1) hx hb dX6_init_95 (by decide) ?_
  replace hF := bnd_some hF
  obtain ⟨p17, hz_17, hF⟩ := hF
  refine sx_st hx hb hK hP hD hS hz_17 dX6_init_96 (fun H locs hP hD hS => ?_)
  obtain ⟨hw17, hn17⟩ := zs_st_wf hw16 hz_17
  have lf17 : (p16).1 ≤ p17.1 := Nat.le_of_eq hn17.symm
  have fr17_0 : zs_h0.1 < (p17).1 := Nat.lt_of_lt_of_le fr16_0 lf17
  have fr17_1 : p8.1 < (p17).1 := Nat.lt_of_lt_of_le fr16_1 lf17
  have fr17_2 : p12.1 < (p17).1 := Nat.lt_of_lt_of_le fr16_2 lf17
  have fr17_3 : p13.1 < (p17).1 := Nat.lt_of_lt_of_le fr16_3 lf17
  replace hP : va_P D vwCl (([(hs, .inr (6, [.int 0, .int 40, .int 30, .int 0, .int 0, .ref (ad14 zs_h0.1), .ref (ad14 p8.1), .null, .null, .null, .null, .null]))] : va_W) ++ zs_rows cy ad14 p17) H := hP
  replace hD : va_D A (([(hs, .inr (6, [.int 0, .int 40, .int 30, .int 0, .int 0, .ref (ad14 zs_h0.1), .ref (ad14 p8.1), .null, .null, .null, .null, .null]))] : va_W) ++ zs_rows cy ad14 p17) := hD
  replace hF := bnd_some hF
  obtain ⟨p18, hz_18, hF⟩ := hF
  refine sx_str hx hb hK hG.1.2.2.2 hP hD hS hz_18 dX6_init_97 (fun H locs hP hD hS => ?_)
  obtain ⟨hw18, hn18⟩ := zs_str_wf hw17 hz_18
  have lf18 : (p17).1 ≤ p18.1 := Nat.le_of_eq hn18.symm
  have fr18_0 : zs_h0.1 < (p18).1 := Nat.lt_of_lt_of_le fr17_0 lf18
  have fr18_1 : p8.1 < (p18).1 := Nat.lt_of_lt_of_le fr17_1 lf18
  have fr18_2 : p12.1 < (p18).1 := Nat.lt_of_lt_of_le fr17_2 lf18
  replace hP : va_P D vwCl (([(hs, .inr (6, [.int 0, .int 40, .int 30, .int 0, .int 0, .ref (ad14 zs_h0.1), .ref (ad14 p8.1), .null, .null, .null, .null, .null]))] : va_W) ++ zs_rows cy ad14 p18) H := hP
  replace hD : va_D A (([(hs, .inr (6, [.int 0, .int 40, .int 30, .int 0, .int 0, .ref (ad14 zs_h0.1), .ref (ad14 p8.1), .null, .null, .null, .null, .null]))] : va_W) ++ zs_rows cy ad14 p18) := hD
  refine lv_dup hx hb dX6_init_98 rfl ?_
  refine lv_iconst (v := 1) hx hb dX6_init_99 (by decide) ?_
  refine lv_iconst (v := 3) hx hb dX6_init_100 (by decide) ?_
  replace hF := bnd_some hF
  obtain ⟨p19, hz_19, hF⟩ := hF
  refine sx_nwi hx hb (hts (.arrayClass .int) (by decide +kernel)) hK hw18 hP hD hS hA hz_19 (Nat.le_of_ble_eq_true rfl) (Nat.le_of_ble_eq_true rfl) (Nat.le_of_ble_eq_true rfl) dX6_init_101 (fun ad19 H ha19 hP hD hS => ?_)
  obtain ⟨hw19, hn19⟩ := zs_nwi_wf hw18 hz_19
  have lf19 : (p18).1 ≤ p19.1 := by rw [hn19]; exact Nat.le_succ _
  have fn19 : (p18).1 < p19.1 := by rw [hn19]; exact Nat.lt_succ_self _
  rw [← ha19 zs_h0.1 fr18_0] at hP hD
  rw [← ha19 p8.1 fr18_1] at hP hD
  rw [← ha19 p12.1 fr18_2]
  have fr19_0 : zs_h0.1 < (p19).1 := Nat.lt_of_lt_of_le fr18_0 lf19
  have fr19_1 : p8.1 < (p19).1 := Nat.lt_of_lt_of_le fr18_1 lf19
  have fr19_2 : p12.1 < (p19).1 := Nat.lt_of_lt_of_le fr18_2 lf19
  replace hP : va_P D vwCl (([(hs, .inr (6, [.int 0, .int 40, .int 30, .int 0, .int 0, .ref (ad19 zs_h0.1), .ref (ad19 p8.1), .null, .null, .null, .null, .null]))] : va_W) ++ zs_rows cy ad19 p19) H := hP
  replace hD : va_D A (([(hs, .inr (6, [.int 0, .int 40, .int 30, .int 0, .int 0, .ref (ad19 zs_h0.1), .ref (ad19 p8.1), .null, .null, .null, .null, .null]))] : va_W) ++ zs_rows cy ad19 p19) := hD
  refine lv_dup hx hb dX6_init_103 rfl ?_
  refine lv_iconst (v := 0) hx hb dX6_init_104 (by decide) ?_
  refine lv_iconst (v := 0) hx hb dX6_init_105 (by decide) ?_
  replace hF := bnd_some hF
  obtain ⟨p20, hz_20, hF⟩ := hF
  refine sx_st hx hb hK hP hD hS hz_20 dX6_init_106 (fun H locs hP hD hS => ?_)
  obtain ⟨hw20, hn20⟩ := zs_st_wf hw19 hz_20
  have lf20 : (p19).1 ≤ p20.1 := Nat.le_of_eq hn20.symm
  have fr20_0 : zs_h0.1 < (p20).1 := Nat.lt_of_lt_of_le fr19_0 lf20
  have fr20_1 : p8.1 < (p20).1 := Nat.lt_of_lt_of_le fr19_1 lf20
  have fr20_2 : p12.1 < (p20).1 := Nat.lt_of_lt_of_le fr19_2 lf20
  have fr20_3 : p18.1 < (p20).1 := Nat.lt_of_lt_of_le fn19 lf20
  replace hP : va_P D vwCl (([(hs, .inr (6, [.int 0, .int 40, .int 30, .int 0, .int 0, .ref (ad19 zs_h0.1), .ref (ad19 p8.1), .null, .null, .null, .null, .null]))] : va_W) ++ zs_rows cy ad19 p20) H := hP
  replace hD : va_D A (([(hs, .inr (6, [.int 0, .int 40, .int 30, .int 0, .int 0, .ref (ad19 zs_h0.1), .ref (ad19 p8.1), .null, .null, .null, .null, .null]))] : va_W) ++ zs_rows cy ad19 p20) := hD
  refine lv_dup hx hb dX6_init_107 rfl ?_
  refine lv_iconst (v := 1) hx hb dX6_init_108 (by decide) ?_
  refine lv_iconst (v := 0) hx hb dX6_init_109 (by decide) ?_
  replace hF := bnd_some hF
  obtain ⟨p21, hz_21, hF⟩ := hF
  refine sx_st hx hb hK hP hD hS hz_21 dX6_init_110 (fun H locs hP hD hS => ?_)
  obtain ⟨hw21, hn21⟩ := zs_st_wf hw20 hz_21
  have lf21 : (p20).1 ≤ p21.1 := Nat.le_of_eq hn21.symm
  have fr21_0 : zs_h0.1 < (p21).1 := Nat.lt_of_lt_of_le fr20_0 lf21
  have fr21_1 : p8.1 < (p21).1 := Nat.lt_of_lt_of_le fr20_1 lf21
  have fr21_2 : p12.1 < (p21).1 := Nat.lt_of_lt_of_le fr20_2 lf21
  have fr21_3 : p18.1 < (p21).1 := Nat.lt_of_lt_of_le fr20_3 lf21
  replace hP : va_P D vwCl (([(hs, .inr (6, [.int 0, .int 40, .int 30, .int 0, .int 0, .ref (ad19 zs_h0.1), .ref (ad19 p8.1), .null, .null, .null, .null, .null]))] : va_W) ++ zs_rows cy ad19 p21) H := hP
  replace hD : va_D A (([(hs, .inr (6, [.int 0, .int 40, .int 30, .int 0, .int 0, .ref (ad19 zs_h0.1), .ref (ad19 p8.1), .null, .null, .null, .null, .null]))] : va_W) ++ zs_rows cy ad19 p21) := hD
  refine lv_dup hx hb dX6_init_111 rfl ?_
  refine lv_iconst (v := 2) hx hb dX6_init_112 (by decide) ?_
  refine lv_iconst (v := -1) hx hb dX6_init_113 (by decide) ?_
  replace hF := bnd_some hF
  obtain ⟨p22, hz_22, hF⟩ := hF
  refine sx_st hx hb hK hP hD hS hz_22 dX6_init_114 (fun H locs hP hD hS => ?_)
  obtain ⟨hw22, hn22⟩ := zs_st_wf hw21 hz_22
  have lf22 : (p21).1 ≤ p22.1 := Nat.le_of_eq hn22.symm
  have fr22_0 : zs_h0.1 < (p22).1 := Nat.lt_of_lt_of_le fr21_0 lf22
  have fr22_1 : p8.1 < (p22).1 := Nat.lt_of_lt_of_le fr21_1 lf22
  have fr22_2 : p12.1 < (p22).1 := Nat.lt_of_lt_of_le fr21_2 lf22
  have fr22_3 : p18.1 < (p22).1 := Nat.lt_of_lt_of_le fr21_3 lf22
  replace hP : va_P D vwCl (([(hs, .inr (6, [.int 0, .int 40, .int 30, .int 0, .int 0, .ref (ad19 zs_h0.1), .ref (ad19 p8.1), .null, .null, .null, .null, .null]))] : va_W) ++ zs_rows cy ad19 p22) H := hP
  replace hD : va_D A (([(hs, .inr (6, [.int 0, .int 40, .int 30, .int 0, .int 0, .ref (ad19 zs_h0.1), .ref (ad19 p8.1), .null, .null, .null, .null, .null]))] : va_W) ++ zs_rows cy ad19 p22) := hD
  replace hF := bnd_some hF
  obtain ⟨p23, hz_23, hF⟩ := hF
  refine sx_str hx hb hK hG.1.2.2.2 hP hD hS hz_23 dX6_init_115 (fun H locs hP hD hS => ?_)
  obtain ⟨hw23, hn23⟩ := zs_str_wf hw22 hz_23
  have lf23 : (p22).1 ≤ p23.1 := Nat.le_of_eq hn23.symm
  have fr23_0 : zs_h0.1 < (p23).1 := Nat.lt_of_lt_of_le fr22_0 lf23
  have fr23_1 : p8.1 < (p23).1 := Nat.lt_of_lt_of_le fr22_1 lf23
  have fr23_2 : p12.1 < (p23).1 := Nat.lt_of_lt_of_le fr22_2 lf23
  replace hP : va_P D vwCl (([(hs, .inr (6, [.int 0, .int 40, .int 30, .int 0, .int 0, .ref (ad19 zs_h0.1), .ref (ad19 p8.1), .null, .null, .null, .null, .null]))] : va_W) ++ zs_rows cy ad19 p23) H := hP
  replace hD : va_D A (([(hs, .inr (6, [.int 0, .int 40, .int 30, .int 0, .int 0, .ref (ad19 zs_h0.1), .ref (ad19 p8.1), .null, .null, .null, .null, .null]))] : va_W) ++ zs_rows cy ad19 p23) := hD
  refine lv_dup hx hb dX6_init_116 rfl ?_
  refine lv_iconst (v := 2) hx hb dX6_init_117 (by decide) ?_
  refine lv_iconst (v := 3) hx hb dX6_init_118 (by decide) ?_
  replace hF := bnd_some hF
  obtain ⟨p24, hz_24, hF⟩ := hF
  refine sx_nwi hx hb (hts (.arrayClass .int) (by decide +kernel)) hK hw23 hP hD hS hA hz_24 (Nat.le_of_ble_eq_true rfl) (Nat.le_of_ble_eq_true rfl) (Nat.le_of_ble_eq_true rfl) dX6_init_119 (fun ad24 H ha24 hP hD hS => ?_)
  obtain ⟨hw24, hn24⟩ := zs_nwi_wf hw23 hz_24
  have lf24 : (p23).1 ≤ p24.1 := by rw [hn24]; exact Nat.le_succ _
  have fn24 : (p23).1 < p24.1 := by rw [hn24]; exact Nat.lt_succ_self _
  rw [← ha24 zs_h0.1 fr23_0] at hP hD
  rw [← ha24 p8.1 fr23_1] at hP hD
  rw [← ha24 p12.1 fr23_2]
  have fr24_0 : zs_h0.1 < (p24).1 := Nat.lt_of_lt_of_le fr23_0 lf24
  have fr24_1 : p8.1 < (p24).1 := Nat.lt_of_lt_of_le fr23_1 lf24
  have fr24_2 : p12.1 < (p24).1 := Nat.lt_of_lt_of_le fr23_2 lf24
  replace hP : va_P D vwCl (([(hs, .inr (6, [.int 0, .int 40, .int 30, .int 0, .int 0, .ref (ad24 zs_h0.1), .ref (ad24 p8.1), .null, .null, .null, .null, .null]))] : va_W) ++ zs_rows cy ad24 p24) H := hP
  replace hD : va_D A (([(hs, .inr (6, [.int 0, .int 40, .int 30, .int 0, .int 0, .ref (ad24 zs_h0.1), .ref (ad24 p8.1), .null, .null, .null, .null, .null]))] : va_W) ++ zs_rows cy ad24 p24) := hD
  refine lv_dup hx hb dX6_init_121 rfl ?_
  refine lv_iconst (v := 0) hx hb dX6_init_122 (by decide) ?_
  refine lv_iconst (v := 0) hx hb dX6_init_123 (by decide) ?_
  replace hF := bnd_some hF
  obtain ⟨p25, hz_25, hF⟩ := hF
  refine sx_st hx hb hK hP hD hS hz_25 dX6_init_124 (fun H locs hP hD hS => ?_)
  obtain ⟨hw25, hn25⟩ := zs_st_wf hw24 hz_25
  have lf25 : (p24).1 ≤ p25.1 := Nat.le_of_eq hn25.symm
  have fr25_0 : zs_h0.1 < (p25).1 := Nat.lt_of_lt_of_le fr24_0 lf25
  have fr25_1 : p8.1 < (p25).1 := Nat.lt_of_lt_of_le fr24_1 lf25
  have fr25_2 : p12.1 < (p25).1 := Nat.lt_of_lt_of_le fr24_2 lf25
  have fr25_3 : p23.1 < (p25).1 := Nat.lt_of_lt_of_le fn24 lf25
  replace hP : va_P D vwCl (([(hs, .inr (6, [.int 0, .int 40, .int 30, .int 0, .int 0, .ref (ad24 zs_h0.1), .ref (ad24 p8.1), .null, .null, .null, .null, .null]))] : va_W) ++ zs_rows cy ad24 p25) H := hP
  replace hD : va_D A (([(hs, .inr (6, [.int 0, .int 40, .int 30, .int 0, .int 0, .ref (ad24 zs_h0.1), .ref (ad24 p8.1), .null, .null, .null, .null, .null]))] : va_W) ++ zs_rows cy ad24 p25) := hD
  refine lv_dup hx hb dX6_init_125 rfl ?_
  refine lv_iconst (v := 1) hx hb dX6_init_126 (by decide) ?_
  refine lv_iconst (v := 0) hx hb dX6_init_127 (by decide) ?_
  replace hF := bnd_some hF
  obtain ⟨p26, hz_26, hF⟩ := hF
  refine sx_st hx hb hK hP hD hS hz_26 dX6_init_128 (fun H locs hP hD hS => ?_)
  obtain ⟨hw26, hn26⟩ := zs_st_wf hw25 hz_26
  have lf26 : (p25).1 ≤ p26.1 := Nat.le_of_eq hn26.symm
  have fr26_0 : zs_h0.1 < (p26).1 := Nat.lt_of_lt_of_le fr25_0 lf26
  have fr26_1 : p8.1 < (p26).1 := Nat.lt_of_lt_of_le fr25_1 lf26
  have fr26_2 : p12.1 < (p26).1 := Nat.lt_of_lt_of_le fr25_2 lf26
  have fr26_3 : p23.1 < (p26).1 := Nat.lt_of_lt_of_le fr25_3 lf26
  replace hP : va_P D vwCl (([(hs, .inr (6, [.int 0, .int 40, .int 30, .int 0, .int 0, .ref (ad24 zs_h0.1), .ref (ad24 p8.1), .null, .null, .null, .null, .null]))] : va_W) ++ zs_rows cy ad24 p26) H := hP
  replace hD : va_D A (([(hs, .inr (6, [.int 0, .int 40, .int 30, .int 0, .int 0, .ref (ad24 zs_h0.1), .ref (ad24 p8.1), .null, .null, .null, .null, .null]))] : va_W) ++ zs_rows cy ad24 p26) := hD
  refine lv_dup hx hb dX6_init_129 rfl ?_
  refine lv_iconst (v := 2) hx hb dX6_init_130 (by decide) ?_
  refine lv_iconst (v := -1) hx hb dX6_init_131 (by decide) ?_
  replace hF := bnd_some hF
  obtain ⟨p27, hz_27, hF⟩ := hF
  refine sx_st hx hb hK hP hD hS hz_27 dX6_init_132 (fun H locs hP hD hS => ?_)
  obtain ⟨hw27, hn27⟩ := zs_st_wf hw26 hz_27
  have lf27 : (p26).1 ≤ p27.1 := Nat.le_of_eq hn27.symm
  have fr27_0 : zs_h0.1 < (p27).1 := Nat.lt_of_lt_of_le fr26_0 lf27
  have fr27_1 : p8.1 < (p27).1 := Nat.lt_of_lt_of_le fr26_1 lf27
  have fr27_2 : p12.1 < (p27).1 := Nat.lt_of_lt_of_le fr26_2 lf27
  have fr27_3 : p23.1 < (p27).1 := Nat.lt_of_lt_of_le fr26_3 lf27
  replace hP : va_P D vwCl (([(hs, .inr (6, [.int 0, .int 40, .int 30, .int 0, .int 0, .ref (ad24 zs_h0.1), .ref (ad24 p8.1), .null, .null, .null, .null, .null]))] : va_W) ++ zs_rows cy ad24 p27) H := hP
  replace hD : va_D A (([(hs, .inr (6, [.int 0, .int 40, .int 30, .int 0, .int 0, .ref (ad24 zs_h0.1), .ref (ad24 p8.1), .null, .null, .null, .null, .null]))] : va_W) ++ zs_rows cy ad24 p27) := hD
  replace hF := bnd_some hF
  obtain ⟨p28, hz_28, hF⟩ := hF
  refine sx_str hx hb hK hG.1.2.2.2 hP hD hS hz_28 dX6_init_133 (fun H locs hP hD hS => ?_)
  obtain ⟨hw28, hn28⟩ := zs_str_wf hw27 hz_28
  have lf28 : (p27).1 ≤ p28.1 := Nat.le_of_eq hn28.symm
  have fr28_0 : zs_h0.1 < (p28).1 := Nat.lt_of_lt_of_le fr27_0 lf28
  have fr28_1 : p8.1 < (p28).1 := Nat.lt_of_lt_of_le fr27_1 lf28
  have fr28_2 : p12.1 < (p28).1 := Nat.lt_of_lt_of_le fr27_2 lf28
  replace hP : va_P D vwCl (([(hs, .inr (6, [.int 0, .int 40, .int 30, .int 0, .int 0, .ref (ad24 zs_h0.1), .ref (ad24 p8.1), .null, .null, .null, .null, .null]))] : va_W) ++ zs_rows cy ad24 p28) H := hP
  replace hD : va_D A (([(hs, .inr (6, [.int 0, .int 40, .int 30, .int 0, .int 0, .ref (ad24 zs_h0.1), .ref (ad24 p8.1), .null, .null, .null, .null, .null]))] : va_W) ++ zs_rows cy ad24 p28) := hD
  refine lv_dup hx hb dX6_init_134 rfl ?_
  refine lv_iconst (v := 3) hx hb dX6_init_135 (by decide) ?_
  refine lv_iconst (v := 3) hx hb dX6_init_136 (by decide) ?_
  replace hF := bnd_some hF
  obtain ⟨p29, hz_29, hF⟩ := hF
  refine sx_nwi hx hb (hts (.arrayClass .int) (by decide +kernel)) hK hw28 hP hD hS hA hz_29 (Nat.le_of_ble_eq_true rfl) (Nat.le_of_ble_eq_true rfl) (Nat.le_of_ble_eq_true rfl) dX6_init_137 (fun ad29 H ha29 hP hD hS => ?_)
  obtain ⟨hw29, hn29⟩ := zs_nwi_wf hw28 hz_29
  have lf29 : (p28).1 ≤ p29.1 := by rw [hn29]; exact Nat.le_succ _
  have fn29 : (p28).1 < p29.1 := by rw [hn29]; exact Nat.lt_succ_self _
  rw [← ha29 zs_h0.1 fr28_0] at hP hD
  rw [← ha29 p8.1 fr28_1] at hP hD
  rw [← ha29 p12.1 fr28_2]
  have fr29_0 : zs_h0.1 < (p29).1 := Nat.lt_of_lt_of_le fr28_0 lf29
  have fr29_1 : p8.1 < (p29).1 := Nat.lt_of_lt_of_le fr28_1 lf29
  have fr29_2 : p12.1 < (p29).1 := Nat.lt_of_lt_of_le fr28_2 lf29
  replace hP : va_P D vwCl (([(hs, .inr (6, [.int 0, .int 40, .int 30, .int 0, .int 0, .ref (ad29 zs_h0.1), .ref (ad29 p8.1), .null, .null, .null, .null, .null]))] : va_W) ++ zs_rows cy ad29 p29) H := hP
  replace hD : va_D A (([(hs, .inr (6, [.int 0, .int 40, .int 30, .int 0, .int 0, .ref (ad29 zs_h0.1), .ref (ad29 p8.1), .null, .null, .null, .null, .null]))] : va_W) ++ zs_rows cy ad29 p29) := hD
  refine lv_dup hx hb dX6_init_139 rfl ?_
  refine lv_iconst (v := 0) hx hb dX6_init_140 (by decide) ?_
  refine lv_iconst (v := 0) hx hb dX6_init_141 (by decide) ?_
  replace hF := bnd_some hF
  obtain ⟨p30, hz_30, hF⟩ := hF
  refine sx_st hx hb hK hP hD hS hz_30 dX6_init_142 (fun H locs hP hD hS => ?_)
  obtain ⟨hw30, hn30⟩ := zs_st_wf hw29 hz_30
  have lf30 : (p29).1 ≤ p30.1 := Nat.le_of_eq hn30.symm
  have fr30_0 : zs_h0.1 < (p30).1 := Nat.lt_of_lt_of_le fr29_0 lf30
  have fr30_1 : p8.1 < (p30).1 := Nat.lt_of_lt_of_le fr29_1 lf30
  have fr30_2 : p12.1 < (p30).1 := Nat.lt_of_lt_of_le fr29_2 lf30
  have fr30_3 : p28.1 < (p30).1 := Nat.lt_of_lt_of_le fn29 lf30
  replace hP : va_P D vwCl (([(hs, .inr (6, [.int 0, .int 40, .int 30, .int 0, .int 0, .ref (ad29 zs_h0.1), .ref (ad29 p8.1), .null, .null, .null, .null, .null]))] : va_W) ++ zs_rows cy ad29 p30) H := hP
  replace hD : va_D A (([(hs, .inr (6, [.int 0, .int 40, .int 30, .int 0, .int 0, .ref (ad29 zs_h0.1), .ref (ad29 p8.1), .null, .null, .null, .null, .null]))] : va_W) ++ zs_rows cy ad29 p30) := hD
  refine lv_dup hx hb dX6_init_143 rfl ?_
  refine lv_iconst (v := 1) hx hb dX6_init_144 (by decide) ?_
  refine lv_iconst (v := 0) hx hb dX6_init_145 (by decide) ?_
  replace hF := bnd_some hF
  obtain ⟨p31, hz_31, hF⟩ := hF
  refine sx_st hx hb hK hP hD hS hz_31 dX6_init_146 (fun H locs hP hD hS => ?_)
  obtain ⟨hw31, hn31⟩ := zs_st_wf hw30 hz_31
  have lf31 : (p30).1 ≤ p31.1 := Nat.le_of_eq hn31.symm
  have fr31_0 : zs_h0.1 < (p31).1 := Nat.lt_of_lt_of_le fr30_0 lf31
  have fr31_1 : p8.1 < (p31).1 := Nat.lt_of_lt_of_le fr30_1 lf31
  have fr31_2 : p12.1 < (p31).1 := Nat.lt_of_lt_of_le fr30_2 lf31
  have fr31_3 : p28.1 < (p31).1 := Nat.lt_of_lt_of_le fr30_3 lf31
  replace hP : va_P D vwCl (([(hs, .inr (6, [.int 0, .int 40, .int 30, .int 0, .int 0, .ref (ad29 zs_h0.1), .ref (ad29 p8.1), .null, .null, .null, .null, .null]))] : va_W) ++ zs_rows cy ad29 p31) H := hP
  replace hD : va_D A (([(hs, .inr (6, [.int 0, .int 40, .int 30, .int 0, .int 0, .ref (ad29 zs_h0.1), .ref (ad29 p8.1), .null, .null, .null, .null, .null]))] : va_W) ++ zs_rows cy ad29 p31) := hD
  refine lv_dup hx hb dX6_init_147 rfl ?_
  refine lv_iconst (v := 2) hx hb dX6_init_148 (by decide) ?_
  refine lv_iconst (v := -1) hx hb dX6_init_149 (by decide) ?_
  replace hF := bnd_some hF
  obtain ⟨p32, hz_32, hF⟩ := hF
  refine sx_st hx hb hK hP hD hS hz_32 dX6_init_150 (fun H locs hP hD hS => ?_)
  obtain ⟨hw32, hn32⟩ := zs_st_wf hw31 hz_32
  have lf32 : (p31).1 ≤ p32.1 := Nat.le_of_eq hn32.symm
  have fr32_0 : zs_h0.1 < (p32).1 := Nat.lt_of_lt_of_le fr31_0 lf32
  have fr32_1 : p8.1 < (p32).1 := Nat.lt_of_lt_of_le fr31_1 lf32
  have fr32_2 : p12.1 < (p32).1 := Nat.lt_of_lt_of_le fr31_2 lf32
  have fr32_3 : p28.1 < (p32).1 := Nat.lt_of_lt_of_le fr31_3 lf32
  replace hP : va_P D vwCl (([(hs, .inr (6, [.int 0, .int 40, .int 30, .int 0, .int 0, .ref (ad29 zs_h0.1), .ref (ad29 p8.1), .null, .null, .null, .null, .null]))] : va_W) ++ zs_rows cy ad29 p32) H := hP
  replace hD : va_D A (([(hs, .inr (6, [.int 0, .int 40, .int 30, .int 0, .int 0, .ref (ad29 zs_h0.1), .ref (ad29 p8.1), .null, .null, .null, .null, .null]))] : va_W) ++ zs_rows cy ad29 p32) := hD
  replace hF := bnd_some hF
  obtain ⟨p33, hz_33, hF⟩ := hF
  refine sx_str hx hb hK hG.1.2.2.2 hP hD hS hz_33 dX6_init_151 (fun H locs hP hD hS => ?_)
  obtain ⟨hw33, hn33⟩ := zs_str_wf hw32 hz_33
  have lf33 : (p32).1 ≤ p33.1 := Nat.le_of_eq hn33.symm
  have fr33_0 : zs_h0.1 < (p33).1 := Nat.lt_of_lt_of_le fr32_0 lf33
  have fr33_1 : p8.1 < (p33).1 := Nat.lt_of_lt_of_le fr32_1 lf33
  have fr33_2 : p12.1 < (p33).1 := Nat.lt_of_lt_of_le fr32_2 lf33
  replace hP : va_P D vwCl (([(hs, .inr (6, [.int 0, .int 40, .int 30, .int 0, .int 0, .ref (ad29 zs_h0.1), .ref (ad29 p8.1), .null, .null, .null, .null, .null]))] : va_W) ++ zs_rows cy ad29 p33) H := hP
  replace hD : va_D A (([(hs, .inr (6, [.int 0, .int 40, .int 30, .int 0, .int 0, .ref (ad29 zs_h0.1), .ref (ad29 p8.1), .null, .null, .null, .null, .null]))] : va_W) ++ zs_rows cy ad29 p33) := hD
  refine va_put (D := D) (v := .ref (ad29 p12.1)) (ty := .array (.array .int)) (C := RX6) (T := TX6) (N := 12) hx hb hts hiX6 tyX6 tyX6_ok nmX6 hown hK hP hD hS 0 rfl rfl 7 (by decide) hf24 (fun _ h9 => h9) rfl (by decide +kernel) rfl rfl (Nat.le_of_ble_eq_true rfl) dX6_init_152 (fun H locs hP hD hS => ?_)
  replace hP : va_P D vwCl (([(hs, .inr (6, [.int 0, .int 40, .int 30, .int 0, .int 0, .ref (ad29 zs_h0.1), .ref (ad29 p8.1), .ref (ad29 p12.1), .null, .null, .null, .null]))] : va_W) ++ zs_rows cy ad29 p33) H := hP
  replace hD : va_D A (([(hs, .inr (6, [.int 0, .int 40, .int 30, .int 0, .int 0, .ref (ad29 zs_h0.1), .ref (ad29 p8.1), .ref (ad29 p12.1), .null, .null, .null, .null]))] : va_W) ++ zs_rows cy ad29 p33) := hD
  refine lv_aload_n hx hb dX6_init_155 rfl (lv_at hl 0 rfl) ?_
  refine lv_iconst (v := 0) hx hb dX6_init_156 (by decide) ?_
  replace hF := bnd_some hF
  obtain ⟨p34, hz_34, hF⟩ := hF
  refine sx_nwr hx hb hown (hts (.classLink RX6 23 "[I") (by decide +kernel)) hG.1.2.2.2 hK hw33 hP hD hS hA hz_34 (Nat.le_of_ble_eq_true rfl) (Nat.le_of_ble_eq_true rfl) (Nat.le_of_ble_eq_true rfl) dX6_init_157 (fun ad34 H ha34 hP hD hS => ?_)
  obtain ⟨hw34, hn34⟩ := zs_nwr_wf hw33 hz_34
  have lf34 : (p33).1 ≤ p34.1 := by rw [hn34]; exact Nat.le_succ _
  have fn34 : (p33).1 < p34.1 := by rw [hn34]; exact Nat.lt_succ_self _
  rw [← ha34 zs_h0.1 fr33_0] at hP hD
  rw [← ha34 p8.1 fr33_1] at hP hD
  rw [← ha34 p12.1 fr33_2] at hP hD
  have fr34_0 : zs_h0.1 < (p34).1 := Nat.lt_of_lt_of_le fr33_0 lf34
  have fr34_1 : p8.1 < (p34).1 := Nat.lt_of_lt_of_le fr33_1 lf34
  have fr34_2 : p12.1 < (p34).1 := Nat.lt_of_lt_of_le fr33_2 lf34
  replace hP : va_P D vwCl (([(hs, .inr (6, [.int 0, .int 40, .int 30, .int 0, .int 0, .ref (ad34 zs_h0.1), .ref (ad34 p8.1), .ref (ad34 p12.1), .null, .null, .null, .null]))] : va_W) ++ zs_rows cy ad34 p34) H := hP
  replace hD : va_D A (([(hs, .inr (6, [.int 0, .int 40, .int 30, .int 0, .int 0, .ref (ad34 zs_h0.1), .ref (ad34 p8.1), .ref (ad34 p12.1), .null, .null, .null, .null]))] : va_W) ++ zs_rows cy ad34 p34) := hD
  refine va_put (D := D) (v := .ref (ad34 p33.1)) (ty := .array (.array .int)) (C := RX6) (T := TX6) (N := 12) hx hb hts hiX6 tyX6 tyX6_ok nmX6 hown hK hP hD hS 0 rfl rfl 8 (by decide) hf28 (fun _ h9 => h9) rfl (by decide +kernel) rfl rfl (Nat.le_of_ble_eq_true rfl) dX6_init_160 (fun H locs hP hD hS => ?_)
  replace hP : va_P D vwCl (([(hs, .inr (6, [.int 0, .int 40, .int 30, .int 0, .int 0, .ref (ad34 zs_h0.1), .ref (ad34 p8.1), .ref (ad34 p12.1), .ref (ad34 p33.1), .null, .null, .null]))] : va_W) ++ zs_rows cy ad34 p34) H := hP
  replace hD : va_D A (([(hs, .inr (6, [.int 0, .int 40, .int 30, .int 0, .int 0, .ref (ad34 zs_h0.1), .ref (ad34 p8.1), .ref (ad34 p12.1), .ref (ad34 p33.1), .null, .null, .null]))] : va_W) ++ zs_rows cy ad34 p34) := hD
  refine lv_aload_n hx hb dX6_init_163 rfl (lv_at hl 0 rfl) ?_
  refine lv_iconst (v := 0) hx hb dX6_init_164 (by decide) ?_
  replace hF := bnd_some hF
  obtain ⟨p35, hz_35, hF⟩ := hF
  refine sx_nwr hx hb hown (hts (.classLink RX6 23 "[I") (by decide +kernel)) hG.1.2.2.2 hK hw34 hP hD hS hA hz_35 (Nat.le_of_ble_eq_true rfl) (Nat.le_of_ble_eq_true rfl) (Nat.le_of_ble_eq_true rfl) dX6_init_165 (fun ad35 H ha35 hP hD hS => ?_)
  obtain ⟨hw35, hn35⟩ := zs_nwr_wf hw34 hz_35
  have lf35 : (p34).1 ≤ p35.1 := by rw [hn35]; exact Nat.le_succ _
  have fn35 : (p34).1 < p35.1 := by rw [hn35]; exact Nat.lt_succ_self _
  rw [← ha35 zs_h0.1 fr34_0] at hP hD
  rw [← ha35 p8.1 fr34_1] at hP hD
  rw [← ha35 p12.1 fr34_2] at hP hD
  rw [← ha35 p33.1 fn34] at hP hD
  have fr35_0 : zs_h0.1 < (p35).1 := Nat.lt_of_lt_of_le fr34_0 lf35
  have fr35_1 : p8.1 < (p35).1 := Nat.lt_of_lt_of_le fr34_1 lf35
  have fr35_2 : p12.1 < (p35).1 := Nat.lt_of_lt_of_le fr34_2 lf35
  have fr35_3 : p33.1 < (p35).1 := Nat.lt_of_lt_of_le fn34 lf35
  replace hP : va_P D vwCl (([(hs, .inr (6, [.int 0, .int 40, .int 30, .int 0, .int 0, .ref (ad35 zs_h0.1), .ref (ad35 p8.1), .ref (ad35 p12.1), .ref (ad35 p33.1), .null, .null, .null]))] : va_W) ++ zs_rows cy ad35 p35) H := hP
  replace hD : va_D A (([(hs, .inr (6, [.int 0, .int 40, .int 30, .int 0, .int 0, .ref (ad35 zs_h0.1), .ref (ad35 p8.1), .ref (ad35 p12.1), .ref (ad35 p33.1), .null, .null, .null]))] : va_W) ++ zs_rows cy ad35 p35) := hD
  refine va_put (D := D) (v := .ref (ad35 p34.1)) (ty := .array (.array .int)) (C := RX6) (T := TX6) (N := 12) hx hb hts hiX6 tyX6 tyX6_ok nmX6 hown hK hP hD hS 0 rfl rfl 9 (by decide) hf31 (fun _ h9 => h9) rfl (by decide +kernel) rfl rfl (Nat.le_of_ble_eq_true rfl) dX6_init_168 (fun H locs hP hD hS => ?_)
  replace hP : va_P D vwCl (([(hs, .inr (6, [.int 0, .int 40, .int 30, .int 0, .int 0, .ref (ad35 zs_h0.1), .ref (ad35 p8.1), .ref (ad35 p12.1), .ref (ad35 p33.1), .ref (ad35 p34.1), .null, .null]))] : va_W) ++ zs_rows cy ad35 p35) H := hP
  replace hD : va_D A (([(hs, .inr (6, [.int 0, .int 40, .int 30, .int 0, .int 0, .ref (ad35 zs_h0.1), .ref (ad35 p8.1), .ref (ad35 p12.1), .ref (ad35 p33.1), .ref (ad35 p34.1), .null, .null]))] : va_W) ++ zs_rows cy ad35 p35) := hD
  refine lv_aload_n hx hb dX6_init_171 rfl (lv_at hl 0 rfl) ?_
  refine lv_iconst (v := 0) hx hb dX6_init_172 (by decide) ?_
  replace hF := bnd_some hF
  obtain ⟨p36, hz_36, hF⟩ := hF
  refine sx_nwr hx hb hown (hts (.classLink RX6 23 "[I") (by decide +kernel)) hG.1.2.2.2 hK hw35 hP hD hS hA hz_36 (Nat.le_of_ble_eq_true rfl) (Nat.le_of_ble_eq_true rfl) (Nat.le_of_ble_eq_true rfl) dX6_init_173 (fun ad36 H ha36 hP hD hS => ?_)
  obtain ⟨hw36, hn36⟩ := zs_nwr_wf hw35 hz_36
  have lf36 : (p35).1 ≤ p36.1 := by rw [hn36]; exact Nat.le_succ _
  have fn36 : (p35).1 < p36.1 := by rw [hn36]; exact Nat.lt_succ_self _
  rw [← ha36 zs_h0.1 fr35_0] at hP hD
  rw [← ha36 p8.1 fr35_1] at hP hD
  rw [← ha36 p12.1 fr35_2] at hP hD
  rw [← ha36 p33.1 fr35_3] at hP hD
  rw [← ha36 p34.1 fn35] at hP hD
  have fr36_0 : zs_h0.1 < (p36).1 := Nat.lt_of_lt_of_le fr35_0 lf36
  have fr36_1 : p8.1 < (p36).1 := Nat.lt_of_lt_of_le fr35_1 lf36
  have fr36_2 : p12.1 < (p36).1 := Nat.lt_of_lt_of_le fr35_2 lf36
  have fr36_3 : p33.1 < (p36).1 := Nat.lt_of_lt_of_le fr35_3 lf36
  have fr36_4 : p34.1 < (p36).1 := Nat.lt_of_lt_of_le fn35 lf36
  replace hP : va_P D vwCl (([(hs, .inr (6, [.int 0, .int 40, .int 30, .int 0, .int 0, .ref (ad36 zs_h0.1), .ref (ad36 p8.1), .ref (ad36 p12.1), .ref (ad36 p33.1), .ref (ad36 p34.1), .null, .null]))] : va_W) ++ zs_rows cy ad36 p36) H := hP
  replace hD : va_D A (([(hs, .inr (6, [.int 0, .int 40, .int 30, .int 0, .int 0, .ref (ad36 zs_h0.1), .ref (ad36 p8.1), .ref (ad36 p12.1), .ref (ad36 p33.1), .ref (ad36 p34.1), .null, .null]))] : va_W) ++ zs_rows cy ad36 p36) := hD
  refine va_put (D := D) (v := .ref (ad36 p35.1)) (ty := .array (.array .int)) (C := RX6) (T := TX6) (N := 12) hx hb hts hiX6 tyX6 tyX6_ok nmX6 hown hK hP hD hS 0 rfl rfl 10 (by decide) hf34 (fun _ h9 => h9) rfl (by decide +kernel) rfl rfl (Nat.le_of_ble_eq_true rfl) dX6_init_176 (fun H locs hP hD hS => ?_)
  replace hP : va_P D vwCl (([(hs, .inr (6, [.int 0, .int 40, .int 30, .int 0, .int 0, .ref (ad36 zs_h0.1), .ref (ad36 p8.1), .ref (ad36 p12.1), .ref (ad36 p33.1), .ref (ad36 p34.1), .ref (ad36 p35.1), .null]))] : va_W) ++ zs_rows cy ad36 p36) H := hP
  replace hD : va_D A (([(hs, .inr (6, [.int 0, .int 40, .int 30, .int 0, .int 0, .ref (ad36 zs_h0.1), .ref (ad36 p8.1), .ref (ad36 p12.1), .ref (ad36 p33.1), .ref (ad36 p34.1), .ref (ad36 p35.1), .null]))] : va_W) ++ zs_rows cy ad36 p36) := hD
  refine lv_aload_n hx hb dX6_init_179 rfl (lv_at hl 0 rfl) ?_
  refine lv_bipush (v := 10) hx hb dX6_init_180 (by decide) ?_
  refine lv_iconst (v := 3) hx hb dX6_init_182 (by decide) ?_
  replace hF := bnd_some hF
  obtain ⟨p37, hz_37, hF⟩ := hF
  replace hz_37 := Option.some.inj hz_37
  refine sx_nwm (a := 10) (b := 3) hx hb hown (hts (.classLink RX6 37 "[[I") (by decide +kernel)) hG.1.2.2.2 (hts (.arrayClass .int) (by decide +kernel)) hK hw36 hP hD hS hA (by decide) (by decide) rfl rfl (Nat.le_of_ble_eq_true rfl) (Nat.le_of_ble_eq_true rfl) (Nat.le_of_ble_eq_true rfl) (Nat.le_of_ble_eq_true rfl) dX6_init_183 (fun ad37 H ha37 hP hD hS => ?_)
  rw [hz_37] at hP hD
  have hwm37 := zs_nwm_wf hw36 10 3
  have hnm37 : (zs_nwm p36 10 3).1 = (p36).1 + 1 + 10 := rfl
  rw [hz_37] at hwm37 hnm37
  have hw37 := hwm37
  have lf37 : (p36).1 ≤ p37.1 := by rw [hnm37]; omega
  have fn37 : (p36).1 < p37.1 := by rw [hnm37]; omega
  rw [← ha37 zs_h0.1 fr36_0] at hP hD
  rw [← ha37 p8.1 fr36_1] at hP hD
  rw [← ha37 p12.1 fr36_2] at hP hD
  rw [← ha37 p33.1 fr36_3] at hP hD
  rw [← ha37 p34.1 fr36_4] at hP hD
  rw [← ha37 p35.1 fn36] at hP hD
  have fr37_0 : zs_h0.1 < (p37).1 := Nat.lt_of_lt_of_le fr36_0 lf37
  have fr37_1 : p8.1 < (p37).1 := Nat.lt_of_lt_of_le fr36_1 lf37
  have fr37_2 : p12.1 < (p37).1 := Nat.lt_of_lt_of_le fr36_2 lf37
  have fr37_3 : p33.1 < (p37).1 := Nat.lt_of_lt_of_le fr36_3 lf37
  have fr37_4 : p34.1 < (p37).1 := Nat.lt_of_lt_of_le fr36_4 lf37
  have fr37_5 : p35.1 < (p37).1 := Nat.lt_of_lt_of_le fn36 lf37
  replace hP : va_P D vwCl (([(hs, .inr (6, [.int 0, .int 40, .int 30, .int 0, .int 0, .ref (ad37 zs_h0.1), .ref (ad37 p8.1), .ref (ad37 p12.1), .ref (ad37 p33.1), .ref (ad37 p34.1), .ref (ad37 p35.1), .null]))] : va_W) ++ zs_rows cy ad37 p37) H := hP
  replace hD : va_D A (([(hs, .inr (6, [.int 0, .int 40, .int 30, .int 0, .int 0, .ref (ad37 zs_h0.1), .ref (ad37 p8.1), .ref (ad37 p12.1), .ref (ad37 p33.1), .ref (ad37 p34.1), .ref (ad37 p35.1), .null]))] : va_W) ++ zs_rows cy ad37 p37) := hD
  refine va_put (D := D) (v := .ref (ad37 p36.1)) (ty := .array (.array .int)) (C := RX6) (T := TX6) (N := 12) hx hb hts hiX6 tyX6 tyX6_ok nmX6 hown hK hP hD hS 0 rfl rfl 11 (by decide) hf38 (fun _ h9 => h9) rfl (by decide +kernel) rfl rfl (Nat.le_of_ble_eq_true rfl) dX6_init_187 (fun H locs hP hD hS => ?_)
  replace hP : va_P D vwCl (([(hs, .inr (6, [.int 0, .int 40, .int 30, .int 0, .int 0, .ref (ad37 zs_h0.1), .ref (ad37 p8.1), .ref (ad37 p12.1), .ref (ad37 p33.1), .ref (ad37 p34.1), .ref (ad37 p35.1), .ref (ad37 p36.1)]))] : va_W) ++ zs_rows cy ad37 p37) H := hP
  replace hD : va_D A (([(hs, .inr (6, [.int 0, .int 40, .int 30, .int 0, .int 0, .ref (ad37 zs_h0.1), .ref (ad37 p8.1), .ref (ad37 p12.1), .ref (ad37 p33.1), .ref (ad37 p34.1), .ref (ad37 p35.1), .ref (ad37 p36.1)]))] : va_W) ++ zs_rows cy ad37 p37) := hD
  cases hF
  exact hQ _ _ _ _ _ _ ad37 dX6_init_190 ⟨hw37, (zs_fs_up (k := 11) (zs_fs_up (k := 10) (zs_fs_up (k := 9) (zs_fs_up (k := 8) (zs_fs_up (k := 7) (zs_fs_up (k := 6) (fun _ => fr37_0 : zs_fs (fun _ => zs_h0.1) p37) fr37_1) fr37_2) fr37_3) fr37_4) fr37_5) fn37)⟩ hP hD hS (Nat.le_of_ble_eq_true rfl) (Nat.le_of_ble_eq_true rfl)
def fLX6_isSame_9 (X_9 : XT) (F_9 : Nat → Nat) (p_9 : zs_H) (x2_9 : Int32) : Nat → Int32 → Option (Unit)
  | 0, _ => none
  | k + 1, x3_9 => if 3 ≤ x3_9 then some () else (zx_about X_9 x2_9 x3_9).bind fun z5 => (zs_ldr p_9 (F_9 7) x2_9).bind fun x6 => (zs_ld p_9 x6 x3_9).bind fun x7 => if z5 = x7 then fLX6_isSame_9 X_9 F_9 p_9 x2_9 k (x3_9 + 1) else none
def fLX6_isSame_2 (X_2 : XT) (F_2 : Nat → Nat) (p_2 : zs_H) : Nat → Int32 → Option (Unit)
  | 0, _ => none
  | k + 1, x2_2 => if 4 ≤ x2_2 then some () else (fLX6_isSame_9 X_2 F_2 p_2 x2_2 300 0).bind fun (o3 : Unit) => fLX6_isSame_2 X_2 F_2 p_2 k (x2_2 + 1)
def fLX6_isSame_64 (F_64 : Nat → Nat) (p_64 : zs_H) (x3_64 : Int32) : Nat → Int32 → Int32 → Option (Int32)
  | 0, _, _ => none
  | k + 1, x4_64, x5_64 => (zs_len p_64 (F_64 9)).bind fun x13 => if x13 ≤ x5_64 then some x4_64 else (zs_ldr p_64 (F_64 9) x5_64).bind fun x15 => (zs_ld p_64 x15 2).bind fun x16 => (if x16 = x3_64 then some x5_64 else some x4_64 : Option (Int32)).bind fun (t17 : Int32) => fLX6_isSame_64 F_64 p_64 x3_64 k t17 (x5_64 + 1)
def fLX6_isSame_100 (X_100 : XT) (F_100 : Nat → Nat) (p_100 : zs_H) (x3_100 : Int32) : Nat → Int32 → Option (Unit)
  | 0, _ => none
  | k + 1, x5_100 => if 3 ≤ x5_100 then some () else (zx_mould X_100 x3_100 x5_100).bind fun z20 => (zs_ldr p_100 (F_100 8) x3_100).bind fun x21 => (zs_ld p_100 x21 x5_100).bind fun x22 => if z20 = x22 then fLX6_isSame_100 X_100 F_100 p_100 x3_100 k (x5_100 + 1) else none
def fLX6_isSame_49 (X_49 : XT) (F_49 : Nat → Nat) (p_49 : zs_H) : Nat → Int32 → Int32 → Option (Int32)
  | 0, _, _ => none
  | k + 1, x2_49, x3_49 => (zs_len p_49 (F_49 8)).bind fun x10 => if x10 ≤ x3_49 then some x2_49 else (fLX6_isSame_64 F_49 p_49 x3_49 300 (-1) 0).bind fun (o12 : Int32) => (fLX6_isSame_100 X_49 F_49 p_49 x3_49 300 0).bind fun (o18 : Unit) => (zx_mould X_49 x3_49 3).bind fun z24 => if z24 = o12 then (zs_ldr p_49 (F_49 8) x3_49).bind fun x26 => (zs_ld p_49 x26 2).bind fun x27 => fLX6_isSame_49 X_49 F_49 p_49 k (x2_49 + x27) (x3_49 + 1) else none
def fLX6_isSame_177 (X_177 : XT) (F_177 : Nat → Nat) (p_177 : zs_H) (x3_177 : Int32) : Nat → Int32 → Option (Unit)
  | 0, _ => none
  | k + 1, x4_177 => if 3 ≤ x4_177 then some () else (zx_told X_177 x3_177 x4_177).bind fun z33 => (zs_ldr p_177 (F_177 9) x3_177).bind fun x34 => (zs_ld p_177 x34 x4_177).bind fun x35 => if z33 = x35 then fLX6_isSame_177 X_177 F_177 p_177 x3_177 k (x4_177 + 1) else none
def fLX6_isSame_165 (X_165 : XT) (G_165 : FN) (F_165 : Nat → Nat) (p_165 : zs_H) : Nat → Int32 → Option (Unit)
  | 0, _ => none
  | k + 1, x3_165 => (zs_len p_165 (F_165 9)).bind fun x29 => if x29 ≤ x3_165 then some () else (fLX6_isSame_177 X_165 F_165 p_165 x3_165 300 0).bind fun (o31 : Unit) => (zx_told X_165 x3_165 3).bind fun z37 => (zs_ldr p_165 (F_165 9) x3_165).bind fun x38 => (fX6_makes G_165 F_165 p_165 x38).bind fun z39 => if z37 = z39 then fLX6_isSame_165 X_165 G_165 F_165 p_165 k (x3_165 + 1) else none
def fLX6_isSame_251 (X_251 : XT) (F_251 : Nat → Nat) (p_251 : zs_H) (x3_251 : Int32) : Nat → Int32 → Option (Unit)
  | 0, _ => none
  | k + 1, x4_251 => if 3 ≤ x4_251 then some () else (zx_post X_251 x3_251 x4_251).bind fun z46 => (zs_ldr p_251 (F_251 10) x3_251).bind fun x47 => (zs_ld p_251 x47 x4_251).bind fun x48 => if z46 = x48 then fLX6_isSame_251 X_251 F_251 p_251 x3_251 k (x4_251 + 1) else none
def fLX6_isSame_239 (X_239 : XT) (F_239 : Nat → Nat) (p_239 : zs_H) : Nat → Int32 → Option (Unit)
  | 0, _ => none
  | k + 1, x3_239 => (zs_len p_239 (F_239 10)).bind fun x42 => if x42 ≤ x3_239 then some () else (fLX6_isSame_251 X_239 F_239 p_239 x3_239 300 0).bind fun (o44 : Unit) => fLX6_isSame_239 X_239 F_239 p_239 k (x3_239 + 1)
def fLX6_isSame_301 (X_301 : XT) (F_301 : Nat → Nat) (p_301 : zs_H) (x3_301 : Int32) : Nat → Int32 → Option (Unit)
  | 0, _ => none
  | k + 1, x4_301 => if 3 ≤ x4_301 then some () else (zx_loft X_301 x3_301 x4_301).bind fun z54 => (zs_ldr p_301 (F_301 11) x3_301).bind fun x55 => (zs_ld p_301 x55 x4_301).bind fun x56 => if z54 = x56 then fLX6_isSame_301 X_301 F_301 p_301 x3_301 k (x4_301 + 1) else none
def fLX6_isSame_292 (X_292 : XT) (F_292 : Nat → Nat) (p_292 : zs_H) : Nat → Int32 → Option (Unit)
  | 0, _ => none
  | k + 1, x3_292 => if 10 ≤ x3_292 then some () else (fLX6_isSame_301 X_292 F_292 p_292 x3_292 300 0).bind fun (o52 : Unit) => fLX6_isSame_292 X_292 F_292 p_292 k (x3_292 + 1)
def fLX6_isSame_342 (X_342 : XT) (G_342 : FN) (F_342 : Nat → Nat) : Nat → zs_H → Int32 → Option (zs_H)
  | 0, _, _ => none
  | k + 1, p_342, x3_342 => if 12 ≤ x3_342 then some p_342 else (zx_count X_342 x3_342).bind fun z60 => (fX6_told G_342 F_342 p_342 x3_342).bind fun z61 => if z60 = z61.1 then fLX6_isSame_342 X_342 G_342 F_342 k z61.2 (x3_342 + 1) else none
def fX6_isSame (X : XT) (G : FN) (F : Nat → Nat) (p : zs_H) : Option (zs_H) := (fLX6_isSame_2 X F p 300 0).bind fun (o1 : Unit) => (fLX6_isSame_49 X F p 300 0 0).bind fun (o9 : Int32) => (fLX6_isSame_165 X G F p 300 0).bind fun (o28 : Unit) => (fLX6_isSame_239 X F p 300 0).bind fun (o41 : Unit) => (fLX6_isSame_292 X F p 300 0).bind fun (o50 : Unit) => (fLX6_isSame_342 X G F 13 p 0).bind fun (o58 : zs_H) => (zx_mean X).bind fun z63 => (zs_len o58 (F 8)).bind fun x64 => (if x64 = 0 then some FP.dconst0 else (zs_len o58 (F 8)).bind fun x66 => ckN (FP.i2d o9) (FP.i2d x66) (some (FP.ddiv (FP.i2d o9) (FP.i2d x66))) : Option (UInt64)).bind fun (t65 : UInt64) => if (Op.cmpValue (FP.dcmp z63 t65) .l) = 0 then some o58 else none
abbrev rX6_isSame : Room := { frames := 5, cells := 13, slots := 156, locals := 111 }
set_option maxHeartbeats 40000000 in
set_option maxRecDepth 100000 in
theorem kX6_isSame (l : Launch) (D : va_G) (cy : Nat → ClassId) (sa : SAT) (h : Nat → Nat) (hs : Nat) (ad : Nat → Nat) (X : XT) (G : FN) (F : Nat → Nat) (p : zs_H) (hw : zs_wf p) (hf : zs_fs F p) (z : zs_H) (hF : fX6_isSame X G F p = some z) : zg_I l D (tyW cy) sa yX6_isSame wsX6_isSame rX6_isSame [.ref hs, .ref (h 0)] (zs_W (zx_W cy h X) cy hs ad G F p) (fun r u => r = 1 ∧ zs_ok p F z ad u) (fun u => zs_W (zx_W cy h X) cy hs u G F z) 13 156 := by
  refine zg_I.ofZ (cc := cX6_isSame) (maxL := 6) (by decide +kernel) rfl (Nat.le_of_ble_eq_true rfl) ?_
  intro pg e s m args below meth c A ls Q hE hQ
  obtain ⟨hx, hb, hml, hown, hts, hA, hP, hK, hD, hG, hl, hnm⟩ := hE
  replace hown : s.vm.findClass RX6 = some m.cls := hown
  have hiX6 : ∀ w ∈ u_ws RX6 TX6 12, w ∈ wsX6_isSame := by decide +kernel
  have hf24 : (Cond.fieldLink RX6 24 "RagVatsLaw$Sim" "vats" "[[I").before args s = true := hts _ (by decide +kernel)
  have hf28 : (Cond.fieldLink RX6 28 "RagVatsLaw$Sim" "pairs" "[[I").before args s = true := hts _ (by decide +kernel)
  have hf31 : (Cond.fieldLink RX6 31 "RagVatsLaw$Sim" "teams" "[[I").before args s = true := hts _ (by decide +kernel)
  have hf34 : (Cond.fieldLink RX6 34 "RagVatsLaw$Sim" "posts" "[[I").before args s = true := hts _ (by decide +kernel)
  have hf38 : (Cond.fieldLink RX6 38 "RagVatsLaw$Sim" "loft" "[[I").before args s = true := hts _ (by decide +kernel)
  replace hl : lv_has ls 6 [(0, .ref hs), (1, .ref (h 0))] := hl
  have hS : va_S A s.heap s.heap [] := va_S.rf
  have L9 : ∀ (k : Nat) (X_9 : XT) (G_9 : FN) (F_9 : Nat → Nat) (p_9 : zs_H) (x2_9 : Int32) (x3_9 : Int32) (o : Unit), fLX6_isSame_9 X_9 F_9 p_9 x2_9 k x3_9 = some o → ∀ (ad_9 : Nat → Nat) (cu_9 su_9 T_ TS_ : Nat), cu_9 + 0 * k ≤ T_ → su_9 + 0 * k ≤ TS_ → T_ ≤ 13 → TS_ ≤ 156 → ∀ (H : Heap) (locs : List Loc) (ls : Array Slot), zs_wf p_9 → zs_fs F_9 p_9 → p.1 ≤ (p_9).1 → (∀ i, i < p.1 → ad_9 i = ad i) → va_P D vwCl (zs_W (zx_W cy h X_9) cy hs ad_9 G_9 F_9 p_9) H → va_D A (zs_W (zx_W cy h X_9) cy hs ad_9 G_9 F_9 p_9) → va_S A s.heap H locs → lv_has ls 6 [(0, .ref hs), (1, .ref (h 0)), (2, .int x2_9), (3, .int x3_9)] → (∀ (H : Heap) (locs : List Loc) (ls : Array Slot), zs_wf p_9 → zs_fs F_9 p_9 → p.1 ≤ (p_9).1 → (∀ i, i < p.1 → ad_9 i = ad i) → va_P D vwCl (zs_W (zx_W cy h X_9) cy hs ad_9 G_9 F_9 p_9) H → va_D A (zs_W (zx_W cy h X_9) cy hs ad_9 G_9 F_9 p_9) → va_S A s.heap H locs → lv_has ls 6 [(0, .ref hs), (1, .ref (h 0)), (2, .int x2_9)] → W pg l e rX6_isSame s m args below meth c H locs T_ TS_ Q (F0 m 39 ls [])) → W pg l e rX6_isSame s m args below meth c H locs cu_9 su_9 Q (F0 m 9 ls []) := by
      intro k
      induction k with
      | zero =>
          intro X_9 G_9 F_9 p_9 x2_9 x3_9 o hF
          rw [fLX6_isSame_9] at hF
          cases hF
      | succ k ih =>
          intro X_9 G_9 F_9 p_9 x2_9 x3_9 o hF ad_9 cu_9 su_9 T_ TS_ hcu_ hsu_ hT_ hTS_ H locs ls hw_9 hf_9 le_9 ha_9 hP hD hS hl kk0
          rw [fLX6_isSame_9] at hF
          refine lv_iload_n hx hb dX6_isSame_9 rfl (lv_at hl 3 rfl) ?_
          refine lv_iconst (v := 3) hx hb dX6_isSame_10 (by decide) ?_
          refine lv_icmp_ge (tgt := 39) hx hb dX6_isSame_11 (by decide) (fun c_4 => ?_) (fun c_4 => ?_)
          ·   replace hF := if_t hF c_4
              cases hF
              refine W.widen (k := T_) (n := TS_) (by omega) (by omega) ?_
              exact kk0 _ _ _ hw_9 hf_9 le_9 ha_9 hP hD hS (lv_sub hl [0, 1, 2] rfl)
          ·   replace hF := if_f hF c_4
              refine lv_aload_n hx hb dX6_isSame_14 rfl (lv_at hl 1 rfl) ?_
              refine lv_iload_n hx hb dX6_isSame_15 rfl (lv_at hl 2 rfl) ?_
              refine lv_iload_n hx hb dX6_isSame_16 rfl (lv_at hl 3 rfl) ?_
              replace hF := bnd_some hF
              obtain ⟨z5, hz_5, hF⟩ := hF
              refine zw_xI (P2 := zx_W cy h X_9) (kV (As := [.int x2_9, .int x3_9]) ⟨hx, hb, hml, hown, hts⟩ (kzx_about l D cy sa h X_9 x2_9 x3_9 z5 hz_5 _) (cwV 2 hts gX6_isSame_X5_about rfl rfl rfl (by decide +kernel) ⟨Nat.le_of_ble_eq_true rfl, Nat.le_of_ble_eq_true rfl⟩) hK hP hD hS hA hG (List.range (zx_W cy h X_9).length) zw_map1 (zp_nd1 _) zx_at rfl rfl rfl hl.1 [] rfl (Nat.le_of_ble_eq_true rfl) dX6_isSame_17 ⟨(by show _ ≤ (13 : Nat); omega), (by show _ ≤ (156 : Nat); omega)⟩) hP hD hS hA zx_m (fun H locs hP hD hS => ?_)
              refine lv_aload_n hx hb dX6_isSame_20 rfl (lv_at hl 0 rfl) ?_
              refine va_get (D := D) (C := RX6) (T := TX6) (N := 12) hx hb hts hiX6 hown hK hP _ zs_at rfl 7 (by decide) hf24 (fun _ h9 => h9) rfl dX6_isSame_21 ?_
              refine lv_iload_n hx hb dX6_isSame_24 rfl (lv_at hl 2 rfl) ?_
              replace hF := bnd_some hF
              obtain ⟨x6, hz_6, hF⟩ := hF
              refine sx_ldr hx hb hK hP hz_6 dX6_isSame_25 ?_
              have fx6 : x6 < (p_9).1 := zs_ldr_lt hw_9 hz_6
              refine lv_iload_n hx hb dX6_isSame_26 rfl (lv_at hl 3 rfl) ?_
              replace hF := bnd_some hF
              obtain ⟨x7, hz_7, hF⟩ := hF
              refine sx_ld hx hb hK hP hz_7 dX6_isSame_27 ?_
              refine lv_icmp_eq (tgt := 33) hx hb dX6_isSame_28 (by decide) (fun c_8 => ?_) (fun c_8 => ?_)
              ·   replace hF := if_t hF c_8
                  refine lv_iinc (v := x3_9 + 1) (lv' := [(3, .int (x3_9 + 1)), (0, .ref hs), (1, .ref (h 0)), (2, .int x2_9)]) hx hb dX6_isSame_33 hl (k := 3) rfl rfl (by decide) rfl (fun ls hl => ?_)
                  refine lv_goto (tgt := 9) hx hb dX6_isSame_36 (by decide) ?_
                  exact ih X_9 G_9 F_9 p_9 x2_9 (x3_9 + 1) o hF ad_9 (cu_9) (su_9) T_ TS_ (by omega) (by omega) hT_ hTS_ _ _ _ hw_9 hf_9 le_9 ha_9 hP hD hS (lv_sub hl [1, 2, 3, 0] rfl) kk0
              ·   replace hF := if_f hF c_8
                  cases hF
  have L2 : ∀ (k : Nat) (X_2 : XT) (G_2 : FN) (F_2 : Nat → Nat) (p_2 : zs_H) (x2_2 : Int32) (o : Unit), fLX6_isSame_2 X_2 F_2 p_2 k x2_2 = some o → ∀ (ad_2 : Nat → Nat) (cu_2 su_2 T_ TS_ : Nat), cu_2 + 0 * k ≤ T_ → su_2 + 0 * k ≤ TS_ → T_ ≤ 13 → TS_ ≤ 156 → ∀ (H : Heap) (locs : List Loc) (ls : Array Slot), zs_wf p_2 → zs_fs F_2 p_2 → p.1 ≤ (p_2).1 → (∀ i, i < p.1 → ad_2 i = ad i) → va_P D vwCl (zs_W (zx_W cy h X_2) cy hs ad_2 G_2 F_2 p_2) H → va_D A (zs_W (zx_W cy h X_2) cy hs ad_2 G_2 F_2 p_2) → va_S A s.heap H locs → lv_has ls 6 [(0, .ref hs), (1, .ref (h 0)), (2, .int x2_2)] → (∀ (H : Heap) (locs : List Loc) (ls : Array Slot), zs_wf p_2 → zs_fs F_2 p_2 → p.1 ≤ (p_2).1 → (∀ i, i < p.1 → ad_2 i = ad i) → va_P D vwCl (zs_W (zx_W cy h X_2) cy hs ad_2 G_2 F_2 p_2) H → va_D A (zs_W (zx_W cy h X_2) cy hs ad_2 G_2 F_2 p_2) → va_S A s.heap H locs → lv_has ls 6 [(0, .ref hs), (1, .ref (h 0))] → W pg l e rX6_isSame s m args below meth c H locs T_ TS_ Q (F0 m 45 ls [])) → W pg l e rX6_isSame s m args below meth c H locs cu_2 su_2 Q (F0 m 2 ls []) := by
      intro k
      induction k with
      | zero =>
          intro X_2 G_2 F_2 p_2 x2_2 o hF
          rw [fLX6_isSame_2] at hF
          cases hF
      | succ k ih =>
          intro X_2 G_2 F_2 p_2 x2_2 o hF ad_2 cu_2 su_2 T_ TS_ hcu_ hsu_ hT_ hTS_ H locs ls hw_2 hf_2 le_2 ha_2 hP hD hS hl kk0
          rw [fLX6_isSame_2] at hF
          refine lv_iload_n hx hb dX6_isSame_2 rfl (lv_at hl 2 rfl) ?_
          refine lv_iconst (v := 4) hx hb dX6_isSame_3 (by decide) ?_
          refine lv_icmp_ge (tgt := 45) hx hb dX6_isSame_4 (by decide) (fun c_2 => ?_) (fun c_2 => ?_)
          ·   replace hF := if_t hF c_2
              cases hF
              refine W.widen (k := T_) (n := TS_) (by omega) (by omega) ?_
              exact kk0 _ _ _ hw_2 hf_2 le_2 ha_2 hP hD hS (lv_sub hl [0, 1] rfl)
          ·   replace hF := if_f hF c_2
              refine lv_iconst (v := 0) hx hb dX6_isSame_7 (by decide) ?_
              refine lv_istore_n (lv' := [(3, .int 0), (0, .ref hs), (1, .ref (h 0)), (2, .int x2_2)]) hx hb dX6_isSame_8 rfl hl (by decide) rfl (fun ls hl => ?_)
              replace hF := bnd_some hF
              obtain ⟨o3, hz_3, hF⟩ := hF
              refine L9 300 X_2 G_2 F_2 p_2 x2_2 0 o3 hz_3 ad_2 (cu_2) (su_2) (cu_2) (su_2) (by omega) (by omega) (by show _ ≤ (13 : Nat); omega) (by show _ ≤ (156 : Nat); omega) _ _ _ hw_2 hf_2 le_2 ha_2 hP hD hS (lv_sub hl [1, 2, 3, 0] rfl) (fun H locs ls hw3_0 hf3_0 le3_0 ha3_0 hP hD hS hl => ?_)
              refine lv_iinc (v := x2_2 + 1) (lv' := [(2, .int (x2_2 + 1)), (0, .ref hs), (1, .ref (h 0))]) hx hb dX6_isSame_39 hl (k := 2) rfl rfl (by decide) rfl (fun ls hl => ?_)
              refine lv_goto (tgt := 2) hx hb dX6_isSame_42 (by decide) ?_
              exact ih X_2 G_2 F_2 p_2 (x2_2 + 1) o hF ad_2 (cu_2) (su_2) T_ TS_ (by omega) (by omega) hT_ hTS_ _ _ _ hw3_0 hf3_0 le3_0 ha3_0 hP hD hS (lv_sub hl [1, 2, 0] rfl) kk0
  have L64 : ∀ (k : Nat) (X_64 : XT) (G_64 : FN) (F_64 : Nat → Nat) (p_64 : zs_H) (x2_64 : Int32) (x3_64 : Int32) (x4_64 : Int32) (x5_64 : Int32) (o : Int32), fLX6_isSame_64 F_64 p_64 x3_64 k x4_64 x5_64 = some o → ∀ (ad_64 : Nat → Nat) (cu_64 su_64 T_ TS_ : Nat), cu_64 + 0 * k ≤ T_ → su_64 + 0 * k ≤ TS_ → T_ ≤ 13 → TS_ ≤ 156 → ∀ (H : Heap) (locs : List Loc) (ls : Array Slot), zs_wf p_64 → zs_fs F_64 p_64 → p.1 ≤ (p_64).1 → (∀ i, i < p.1 → ad_64 i = ad i) → va_P D vwCl (zs_W (zx_W cy h X_64) cy hs ad_64 G_64 F_64 p_64) H → va_D A (zs_W (zx_W cy h X_64) cy hs ad_64 G_64 F_64 p_64) → va_S A s.heap H locs → lv_has ls 6 [(0, .ref hs), (1, .ref (h 0)), (2, .int x2_64), (3, .int x3_64), (4, .int x4_64), (5, .int x5_64)] → (∀ (H : Heap) (locs : List Loc) (ls : Array Slot), zs_wf p_64 → zs_fs F_64 p_64 → p.1 ≤ (p_64).1 → (∀ i, i < p.1 → ad_64 i = ad i) → va_P D vwCl (zs_W (zx_W cy h X_64) cy hs ad_64 G_64 F_64 p_64) H → va_D A (zs_W (zx_W cy h X_64) cy hs ad_64 G_64 F_64 p_64) → va_S A s.heap H locs → lv_has ls 6 [(0, .ref hs), (1, .ref (h 0)), (2, .int x2_64), (3, .int x3_64), (4, .int o)] → W pg l e rX6_isSame s m args below meth c H locs T_ TS_ Q (F0 m 97 ls [])) → W pg l e rX6_isSame s m args below meth c H locs cu_64 su_64 Q (F0 m 64 ls []) := by
      intro k
      induction k with
      | zero =>
          intro X_64 G_64 F_64 p_64 x2_64 x3_64 x4_64 x5_64 o hF
          rw [fLX6_isSame_64] at hF
          cases hF
      | succ k ih =>
          intro X_64 G_64 F_64 p_64 x2_64 x3_64 x4_64 x5_64 o hF ad_64 cu_64 su_64 T_ TS_ hcu_ hsu_ hT_ hTS_ H locs ls hw_64 hf_64 le_64 ha_64 hP hD hS hl kk0
          rw [fLX6_isSame_64] at hF
          refine lv_iload hx hb dX6_isSame_64 (lv_at hl 5 rfl) ?_
          refine lv_aload_n hx hb dX6_isSame_66 rfl (lv_at hl 0 rfl) ?_
          refine va_get (D := D) (C := RX6) (T := TX6) (N := 12) hx hb hts hiX6 hown hK hP _ zs_at rfl 9 (by decide) hf31 (fun _ h9 => h9) rfl dX6_isSame_67 ?_
          replace hF := bnd_some hF
          obtain ⟨x13, hz_13, hF⟩ := hF
          refine sx_len hx hb hK hP hz_13 dX6_isSame_70 ?_
          refine lv_icmp_ge (tgt := 97) hx hb dX6_isSame_71 (by decide) (fun c_14 => ?_) (fun c_14 => ?_)
          ·   replace hF := if_t hF c_14
              cases hF
              refine W.widen (k := T_) (n := TS_) (by omega) (by omega) ?_
              exact kk0 _ _ _ hw_64 hf_64 le_64 ha_64 hP hD hS (lv_sub hl [0, 1, 2, 3, 4] rfl)
          ·   replace hF := if_f hF c_14
              refine lv_aload_n hx hb dX6_isSame_74 rfl (lv_at hl 0 rfl) ?_
              refine va_get (D := D) (C := RX6) (T := TX6) (N := 12) hx hb hts hiX6 hown hK hP _ zs_at rfl 9 (by decide) hf31 (fun _ h9 => h9) rfl dX6_isSame_75 ?_
              refine lv_iload hx hb dX6_isSame_78 (lv_at hl 5 rfl) ?_
              replace hF := bnd_some hF
              obtain ⟨x15, hz_15, hF⟩ := hF
              refine sx_ldr hx hb hK hP hz_15 dX6_isSame_80 ?_
              have fx15 : x15 < (p_64).1 := zs_ldr_lt hw_64 hz_15
              refine lv_iconst (v := 2) hx hb dX6_isSame_81 (by decide) ?_
              replace hF := bnd_some hF
              obtain ⟨x16, hz_16, hF⟩ := hF
              refine sx_ld hx hb hK hP hz_16 dX6_isSame_82 ?_
              refine lv_iload_n hx hb dX6_isSame_83 rfl (lv_at hl 3 rfl) ?_
              replace hF := bnd_some hF
              obtain ⟨t17, hz_17, hF⟩ := hF
              have J17 : ∀ (H : Heap) (locs : List Loc) (ls : Array Slot), va_P D vwCl (zs_W (zx_W cy h X_64) cy hs ad_64 G_64 F_64 p_64) H → va_D A (zs_W (zx_W cy h X_64) cy hs ad_64 G_64 F_64 p_64) → va_S A s.heap H locs → lv_has ls 6 [(0, .ref hs), (1, .ref (h 0)), (2, .int x2_64), (3, .int x3_64), (4, .int t17), (5, .int x5_64)] → W pg l e rX6_isSame s m args below meth c H locs (cu_64) (su_64) Q (F0 m 91 ls []) := by
                  intro H locs ls hP hD hS hl
                  refine lv_iinc (v := x5_64 + 1) (lv' := [(5, .int (x5_64 + 1)), (0, .ref hs), (1, .ref (h 0)), (2, .int x2_64), (3, .int x3_64), (4, .int t17)]) hx hb dX6_isSame_91 hl (k := 5) rfl rfl (by decide) rfl (fun ls hl => ?_)
                  refine lv_goto (tgt := 64) hx hb dX6_isSame_94 (by decide) ?_
                  exact ih X_64 G_64 F_64 p_64 x2_64 x3_64 t17 (x5_64 + 1) o hF ad_64 (cu_64) (su_64) T_ TS_ (by omega) (by omega) hT_ hTS_ _ _ _ hw_64 hf_64 le_64 ha_64 hP hD hS (lv_sub hl [1, 2, 3, 4, 5, 0] rfl) kk0
              replace hF := hz_17
              refine lv_icmp_ne (tgt := 91) hx hb dX6_isSame_84 (by decide) (fun c_17 => ?_) (fun c_17 => ?_)
              ·   replace hF := if_f hF c_17
                  cases hF
                  exact J17 _ _ _ hP hD hS (lv_sub hl [0, 1, 2, 3, 4, 5] rfl)
              ·   replace hF := if_t hF c_17
                  refine lv_iload hx hb dX6_isSame_87 (lv_at hl 5 rfl) ?_
                  refine lv_istore (lv' := [(4, .int x5_64), (0, .ref hs), (1, .ref (h 0)), (2, .int x2_64), (3, .int x3_64), (5, .int x5_64)]) hx hb dX6_isSame_89 hl (by decide) rfl (fun ls hl => ?_)
                  cases hF
                  exact J17 _ _ _ hP hD hS (lv_sub hl [1, 2, 3, 4, 0, 5] rfl)
  have L100 : ∀ (k : Nat) (X_100 : XT) (G_100 : FN) (F_100 : Nat → Nat) (p_100 : zs_H) (x2_100 : Int32) (x3_100 : Int32) (x4_100 : Int32) (x5_100 : Int32) (o : Unit), fLX6_isSame_100 X_100 F_100 p_100 x3_100 k x5_100 = some o → ∀ (ad_100 : Nat → Nat) (cu_100 su_100 T_ TS_ : Nat), cu_100 + 0 * k ≤ T_ → su_100 + 0 * k ≤ TS_ → T_ ≤ 13 → TS_ ≤ 156 → ∀ (H : Heap) (locs : List Loc) (ls : Array Slot), zs_wf p_100 → zs_fs F_100 p_100 → p.1 ≤ (p_100).1 → (∀ i, i < p.1 → ad_100 i = ad i) → va_P D vwCl (zs_W (zx_W cy h X_100) cy hs ad_100 G_100 F_100 p_100) H → va_D A (zs_W (zx_W cy h X_100) cy hs ad_100 G_100 F_100 p_100) → va_S A s.heap H locs → lv_has ls 6 [(0, .ref hs), (1, .ref (h 0)), (2, .int x2_100), (3, .int x3_100), (4, .int x4_100), (5, .int x5_100)] → (∀ (H : Heap) (locs : List Loc) (ls : Array Slot), zs_wf p_100 → zs_fs F_100 p_100 → p.1 ≤ (p_100).1 → (∀ i, i < p.1 → ad_100 i = ad i) → va_P D vwCl (zs_W (zx_W cy h X_100) cy hs ad_100 G_100 F_100 p_100) H → va_D A (zs_W (zx_W cy h X_100) cy hs ad_100 G_100 F_100 p_100) → va_S A s.heap H locs → lv_has ls 6 [(0, .ref hs), (1, .ref (h 0)), (2, .int x2_100), (3, .int x3_100), (4, .int x4_100)] → W pg l e rX6_isSame s m args below meth c H locs T_ TS_ Q (F0 m 133 ls [])) → W pg l e rX6_isSame s m args below meth c H locs cu_100 su_100 Q (F0 m 100 ls []) := by
      intro k
      induction k with
      | zero =>
          intro X_100 G_100 F_100 p_100 x2_100 x3_100 x4_100 x5_100 o hF
          rw [fLX6_isSame_100] at hF
          cases hF
      | succ k ih =>
          intro X_100 G_100 F_100 p_100 x2_100 x3_100 x4_100 x5_100 o hF ad_100 cu_100 su_100 T_ TS_ hcu_ hsu_ hT_ hTS_ H locs ls hw_100 hf_100 le_100 ha_100 hP hD hS hl kk0
          rw [fLX6_isSame_100] at hF
          refine lv_iload hx hb dX6_isSame_100 (lv_at hl 5 rfl) ?_
          refine lv_iconst (v := 3) hx hb dX6_isSame_102 (by decide) ?_
          refine lv_icmp_ge (tgt := 133) hx hb dX6_isSame_103 (by decide) (fun c_19 => ?_) (fun c_19 => ?_)
          ·   replace hF := if_t hF c_19
              cases hF
              refine W.widen (k := T_) (n := TS_) (by omega) (by omega) ?_
              exact kk0 _ _ _ hw_100 hf_100 le_100 ha_100 hP hD hS (lv_sub hl [0, 1, 2, 3, 4] rfl)
          ·   replace hF := if_f hF c_19
              refine lv_aload_n hx hb dX6_isSame_106 rfl (lv_at hl 1 rfl) ?_
              refine lv_iload_n hx hb dX6_isSame_107 rfl (lv_at hl 3 rfl) ?_
              refine lv_iload hx hb dX6_isSame_108 (lv_at hl 5 rfl) ?_
              replace hF := bnd_some hF
              obtain ⟨z20, hz_20, hF⟩ := hF
              refine zw_xI (P2 := zx_W cy h X_100) (kV (As := [.int x3_100, .int x5_100]) ⟨hx, hb, hml, hown, hts⟩ (kzx_mould l D cy sa h X_100 x3_100 x5_100 z20 hz_20 _) (cwV 2 hts gX6_isSame_X5_mould rfl rfl rfl (by decide +kernel) ⟨Nat.le_of_ble_eq_true rfl, Nat.le_of_ble_eq_true rfl⟩) hK hP hD hS hA hG (List.range (zx_W cy h X_100).length) zw_map1 (zp_nd1 _) zx_at rfl rfl rfl hl.1 [] rfl (Nat.le_of_ble_eq_true rfl) dX6_isSame_110 ⟨(by show _ ≤ (13 : Nat); omega), (by show _ ≤ (156 : Nat); omega)⟩) hP hD hS hA zx_m (fun H locs hP hD hS => ?_)
              refine lv_aload_n hx hb dX6_isSame_113 rfl (lv_at hl 0 rfl) ?_
              refine va_get (D := D) (C := RX6) (T := TX6) (N := 12) hx hb hts hiX6 hown hK hP _ zs_at rfl 8 (by decide) hf28 (fun _ h9 => h9) rfl dX6_isSame_114 ?_
              refine lv_iload_n hx hb dX6_isSame_117 rfl (lv_at hl 3 rfl) ?_
              replace hF := bnd_some hF
              obtain ⟨x21, hz_21, hF⟩ := hF
              refine sx_ldr hx hb hK hP hz_21 dX6_isSame_118 ?_
              have fx21 : x21 < (p_100).1 := zs_ldr_lt hw_100 hz_21
              refine lv_iload hx hb dX6_isSame_119 (lv_at hl 5 rfl) ?_
              replace hF := bnd_some hF
              obtain ⟨x22, hz_22, hF⟩ := hF
              refine sx_ld hx hb hK hP hz_22 dX6_isSame_121 ?_
              refine lv_icmp_eq (tgt := 127) hx hb dX6_isSame_122 (by decide) (fun c_23 => ?_) (fun c_23 => ?_)
              ·   replace hF := if_t hF c_23
                  refine lv_iinc (v := x5_100 + 1) (lv' := [(5, .int (x5_100 + 1)), (0, .ref hs), (1, .ref (h 0)), (2, .int x2_100), (3, .int x3_100), (4, .int x4_100)]) hx hb dX6_isSame_127 hl (k := 5) rfl rfl (by decide) rfl (fun ls hl => ?_)
                  refine lv_goto (tgt := 100) hx hb dX6_isSame_130 (by decide) ?_
                  exact ih X_100 G_100 F_100 p_100 x2_100 x3_100 x4_100 (x5_100 + 1) o hF ad_100 (cu_100) (su_100) T_ TS_ (by omega) (by omega) hT_ hTS_ _ _ _ hw_100 hf_100 le_100 ha_100 hP hD hS (lv_sub hl [1, 2, 3, 4, 5, 0] rfl) kk0
              ·   replace hF := if_f hF c_23
                  cases hF
  have L49 : ∀ (k : Nat) (X_49 : XT) (G_49 : FN) (F_49 : Nat → Nat) (p_49 : zs_H) (x2_49 : Int32) (x3_49 : Int32) (o : Int32), fLX6_isSame_49 X_49 F_49 p_49 k x2_49 x3_49 = some o → ∀ (ad_49 : Nat → Nat) (cu_49 su_49 T_ TS_ : Nat), cu_49 + 0 * k ≤ T_ → su_49 + 0 * k ≤ TS_ → T_ ≤ 13 → TS_ ≤ 156 → ∀ (H : Heap) (locs : List Loc) (ls : Array Slot), zs_wf p_49 → zs_fs F_49 p_49 → p.1 ≤ (p_49).1 → (∀ i, i < p.1 → ad_49 i = ad i) → va_P D vwCl (zs_W (zx_W cy h X_49) cy hs ad_49 G_49 F_49 p_49) H → va_D A (zs_W (zx_W cy h X_49) cy hs ad_49 G_49 F_49 p_49) → va_S A s.heap H locs → lv_has ls 6 [(0, .ref hs), (1, .ref (h 0)), (2, .int x2_49), (3, .int x3_49)] → (∀ (H : Heap) (locs : List Loc) (ls : Array Slot), zs_wf p_49 → zs_fs F_49 p_49 → p.1 ≤ (p_49).1 → (∀ i, i < p.1 → ad_49 i = ad i) → va_P D vwCl (zs_W (zx_W cy h X_49) cy hs ad_49 G_49 F_49 p_49) H → va_D A (zs_W (zx_W cy h X_49) cy hs ad_49 G_49 F_49 p_49) → va_S A s.heap H locs → lv_has ls 6 [(0, .ref hs), (1, .ref (h 0)), (2, .int o)] → W pg l e rX6_isSame s m args below meth c H locs T_ TS_ Q (F0 m 163 ls [])) → W pg l e rX6_isSame s m args below meth c H locs cu_49 su_49 Q (F0 m 49 ls []) := by
      intro k
      induction k with
      | zero =>
          intro X_49 G_49 F_49 p_49 x2_49 x3_49 o hF
          rw [fLX6_isSame_49] at hF
          cases hF
      | succ k ih =>
          intro X_49 G_49 F_49 p_49 x2_49 x3_49 o hF ad_49 cu_49 su_49 T_ TS_ hcu_ hsu_ hT_ hTS_ H locs ls hw_49 hf_49 le_49 ha_49 hP hD hS hl kk0
          rw [fLX6_isSame_49] at hF
          refine lv_iload_n hx hb dX6_isSame_49 rfl (lv_at hl 3 rfl) ?_
          refine lv_aload_n hx hb dX6_isSame_50 rfl (lv_at hl 0 rfl) ?_
          refine va_get (D := D) (C := RX6) (T := TX6) (N := 12) hx hb hts hiX6 hown hK hP _ zs_at rfl 8 (by decide) hf28 (fun _ h9 => h9) rfl dX6_isSame_51 ?_
          replace hF := bnd_some hF
          obtain ⟨x10, hz_10, hF⟩ := hF
          refine sx_len hx hb hK hP hz_10 dX6_isSame_54 ?_
          refine lv_icmp_ge (tgt := 163) hx hb dX6_isSame_55 (by decide) (fun c_11 => ?_) (fun c_11 => ?_)
          ·   replace hF := if_t hF c_11
              cases hF
              refine W.widen (k := T_) (n := TS_) (by omega) (by omega) ?_
              exact kk0 _ _ _ hw_49 hf_49 le_49 ha_49 hP hD hS (lv_sub hl [0, 1, 2] rfl)
          ·   replace hF := if_f hF c_11
              refine lv_iconst (v := -1) hx hb dX6_isSame_58 (by decide) ?_
              refine lv_istore (lv' := [(4, .int (-1)), (0, .ref hs), (1, .ref (h 0)), (2, .int x2_49), (3, .int x3_49)]) hx hb dX6_isSame_59 hl (by decide) rfl (fun ls hl => ?_)
              refine lv_iconst (v := 0) hx hb dX6_isSame_61 (by decide) ?_
              refine lv_istore (lv' := [(5, .int 0), (4, .int (-1)), (0, .ref hs), (1, .ref (h 0)), (2, .int x2_49), (3, .int x3_49)]) hx hb dX6_isSame_62 hl (by decide) rfl (fun ls hl => ?_)
              replace hF := bnd_some hF
              obtain ⟨o12, hz_12, hF⟩ := hF
              refine L64 300 X_49 G_49 F_49 p_49 x2_49 x3_49 (-1) 0 o12 hz_12 ad_49 (cu_49) (su_49) (cu_49) (su_49) (by omega) (by omega) (by show _ ≤ (13 : Nat); omega) (by show _ ≤ (156 : Nat); omega) _ _ _ hw_49 hf_49 le_49 ha_49 hP hD hS (lv_sub hl [2, 3, 4, 5, 1, 0] rfl) (fun H locs ls hw12_0 hf12_0 le12_0 ha12_0 hP hD hS hl => ?_)
              refine lv_iconst (v := 0) hx hb dX6_isSame_97 (by decide) ?_
              refine lv_istore (lv' := [(5, .int 0), (0, .ref hs), (1, .ref (h 0)), (2, .int x2_49), (3, .int x3_49), (4, .int o12)]) hx hb dX6_isSame_98 hl (by decide) rfl (fun ls hl => ?_)
              replace hF := bnd_some hF
              obtain ⟨o18, hz_18, hF⟩ := hF
              refine L100 300 X_49 G_49 F_49 p_49 x2_49 x3_49 o12 0 o18 hz_18 ad_49 (cu_49) (su_49) (cu_49) (su_49) (by omega) (by omega) (by show _ ≤ (13 : Nat); omega) (by show _ ≤ (156 : Nat); omega) _ _ _ hw12_0 hf12_0 le12_0 ha12_0 hP hD hS (lv_sub hl [1, 2, 3, 4, 5, 0] rfl) (fun H locs ls hw18_0 hf18_0 le18_0 ha18_0 hP hD hS hl => ?_)
              refine lv_aload_n hx hb dX6_isSame_133 rfl (lv_at hl 1 rfl) ?_
              refine lv_iload_n hx hb dX6_isSame_134 rfl (lv_at hl 3 rfl) ?_
              refine lv_iconst (v := 3) hx hb dX6_isSame_135 (by decide) ?_
              replace hF := bnd_some hF
              obtain ⟨z24, hz_24, hF⟩ := hF
              refine zw_xI (P2 := zx_W cy h X_49) (kV (As := [.int x3_49, .int 3]) ⟨hx, hb, hml, hown, hts⟩ (kzx_mould l D cy sa h X_49 x3_49 3 z24 hz_24 _) (cwV 2 hts gX6_isSame_X5_mould rfl rfl rfl (by decide +kernel) ⟨Nat.le_of_ble_eq_true rfl, Nat.le_of_ble_eq_true rfl⟩) hK hP hD hS hA hG (List.range (zx_W cy h X_49).length) zw_map1 (zp_nd1 _) zx_at rfl rfl rfl hl.1 [] rfl (Nat.le_of_ble_eq_true rfl) dX6_isSame_136 ⟨(by show _ ≤ (13 : Nat); omega), (by show _ ≤ (156 : Nat); omega)⟩) hP hD hS hA zx_m (fun H locs hP hD hS => ?_)
              refine lv_iload hx hb dX6_isSame_139 (lv_at hl 4 rfl) ?_
              refine lv_icmp_eq (tgt := 146) hx hb dX6_isSame_141 (by decide) (fun c_25 => ?_) (fun c_25 => ?_)
              ·   replace hF := if_t hF c_25
                  refine lv_iload_n hx hb dX6_isSame_146 rfl (lv_at hl 2 rfl) ?_
                  refine lv_aload_n hx hb dX6_isSame_147 rfl (lv_at hl 0 rfl) ?_
                  refine va_get (D := D) (C := RX6) (T := TX6) (N := 12) hx hb hts hiX6 hown hK hP _ zs_at rfl 8 (by decide) hf28 (fun _ h9 => h9) rfl dX6_isSame_148 ?_
                  refine lv_iload_n hx hb dX6_isSame_151 rfl (lv_at hl 3 rfl) ?_
                  replace hF := bnd_some hF
                  obtain ⟨x26, hz_26, hF⟩ := hF
                  refine sx_ldr hx hb hK hP hz_26 dX6_isSame_152 ?_
                  have fx26 : x26 < (p_49).1 := zs_ldr_lt hw18_0 hz_26
                  refine lv_iconst (v := 2) hx hb dX6_isSame_153 (by decide) ?_
                  replace hF := bnd_some hF
                  obtain ⟨x27, hz_27, hF⟩ := hF
                  refine sx_ld hx hb hK hP hz_27 dX6_isSame_154 ?_
                  refine lv_iadd hx hb dX6_isSame_155 ?_
                  refine lv_istore_n (lv' := [(2, .int (x2_49 + x27)), (0, .ref hs), (1, .ref (h 0)), (3, .int x3_49), (4, .int o12)]) hx hb dX6_isSame_156 rfl hl (by decide) rfl (fun ls hl => ?_)
                  refine lv_iinc (v := x3_49 + 1) (lv' := [(3, .int (x3_49 + 1)), (2, .int (x2_49 + x27)), (0, .ref hs), (1, .ref (h 0)), (4, .int o12)]) hx hb dX6_isSame_157 hl (k := 3) rfl rfl (by decide) rfl (fun ls hl => ?_)
                  refine lv_goto (tgt := 49) hx hb dX6_isSame_160 (by decide) ?_
                  exact ih X_49 G_49 F_49 p_49 (x2_49 + x27) (x3_49 + 1) o hF ad_49 (cu_49) (su_49) T_ TS_ (by omega) (by omega) hT_ hTS_ _ _ _ hw18_0 hf18_0 le18_0 ha18_0 hP hD hS (lv_sub hl [2, 3, 1, 0] rfl) kk0
              ·   replace hF := if_f hF c_25
                  cases hF
  have L177 : ∀ (k : Nat) (X_177 : XT) (G_177 : FN) (F_177 : Nat → Nat) (p_177 : zs_H) (x2_177 : Int32) (x3_177 : Int32) (x4_177 : Int32) (o : Unit), fLX6_isSame_177 X_177 F_177 p_177 x3_177 k x4_177 = some o → ∀ (ad_177 : Nat → Nat) (cu_177 su_177 T_ TS_ : Nat), cu_177 + 0 * k ≤ T_ → su_177 + 0 * k ≤ TS_ → T_ ≤ 13 → TS_ ≤ 156 → ∀ (H : Heap) (locs : List Loc) (ls : Array Slot), zs_wf p_177 → zs_fs F_177 p_177 → p.1 ≤ (p_177).1 → (∀ i, i < p.1 → ad_177 i = ad i) → va_P D vwCl (zs_W (zx_W cy h X_177) cy hs ad_177 G_177 F_177 p_177) H → va_D A (zs_W (zx_W cy h X_177) cy hs ad_177 G_177 F_177 p_177) → va_S A s.heap H locs → lv_has ls 6 [(0, .ref hs), (1, .ref (h 0)), (2, .int x2_177), (3, .int x3_177), (4, .int x4_177)] → (∀ (H : Heap) (locs : List Loc) (ls : Array Slot), zs_wf p_177 → zs_fs F_177 p_177 → p.1 ≤ (p_177).1 → (∀ i, i < p.1 → ad_177 i = ad i) → va_P D vwCl (zs_W (zx_W cy h X_177) cy hs ad_177 G_177 F_177 p_177) H → va_D A (zs_W (zx_W cy h X_177) cy hs ad_177 G_177 F_177 p_177) → va_S A s.heap H locs → lv_has ls 6 [(0, .ref hs), (1, .ref (h 0)), (2, .int x2_177), (3, .int x3_177)] → W pg l e rX6_isSame s m args below meth c H locs T_ TS_ Q (F0 m 210 ls [])) → W pg l e rX6_isSame s m args below meth c H locs cu_177 su_177 Q (F0 m 177 ls []) := by
      intro k
      induction k with
      | zero =>
          intro X_177 G_177 F_177 p_177 x2_177 x3_177 x4_177 o hF
          rw [fLX6_isSame_177] at hF
          cases hF
      | succ k ih =>
          intro X_177 G_177 F_177 p_177 x2_177 x3_177 x4_177 o hF ad_177 cu_177 su_177 T_ TS_ hcu_ hsu_ hT_ hTS_ H locs ls hw_177 hf_177 le_177 ha_177 hP hD hS hl kk0
          rw [fLX6_isSame_177] at hF
          refine lv_iload hx hb dX6_isSame_177 (lv_at hl 4 rfl) ?_
          refine lv_iconst (v := 3) hx hb dX6_isSame_179 (by decide) ?_
          refine lv_icmp_ge (tgt := 210) hx hb dX6_isSame_180 (by decide) (fun c_32 => ?_) (fun c_32 => ?_)
          ·   replace hF := if_t hF c_32
              cases hF
              refine W.widen (k := T_) (n := TS_) (by omega) (by omega) ?_
              exact kk0 _ _ _ hw_177 hf_177 le_177 ha_177 hP hD hS (lv_sub hl [0, 1, 2, 3] rfl)
          ·   replace hF := if_f hF c_32
              refine lv_aload_n hx hb dX6_isSame_183 rfl (lv_at hl 1 rfl) ?_
              refine lv_iload_n hx hb dX6_isSame_184 rfl (lv_at hl 3 rfl) ?_
              refine lv_iload hx hb dX6_isSame_185 (lv_at hl 4 rfl) ?_
              replace hF := bnd_some hF
              obtain ⟨z33, hz_33, hF⟩ := hF
              refine zw_xI (P2 := zx_W cy h X_177) (kV (As := [.int x3_177, .int x4_177]) ⟨hx, hb, hml, hown, hts⟩ (kzx_told l D cy sa h X_177 x3_177 x4_177 z33 hz_33 _) (cwV 2 hts gX6_isSame_X5_told rfl rfl rfl (by decide +kernel) ⟨Nat.le_of_ble_eq_true rfl, Nat.le_of_ble_eq_true rfl⟩) hK hP hD hS hA hG (List.range (zx_W cy h X_177).length) zw_map1 (zp_nd1 _) zx_at rfl rfl rfl hl.1 [] rfl (Nat.le_of_ble_eq_true rfl) dX6_isSame_187 ⟨(by show _ ≤ (13 : Nat); omega), (by show _ ≤ (156 : Nat); omega)⟩) hP hD hS hA zx_m (fun H locs hP hD hS => ?_)
              refine lv_aload_n hx hb dX6_isSame_190 rfl (lv_at hl 0 rfl) ?_
              refine va_get (D := D) (C := RX6) (T := TX6) (N := 12) hx hb hts hiX6 hown hK hP _ zs_at rfl 9 (by decide) hf31 (fun _ h9 => h9) rfl dX6_isSame_191 ?_
              refine lv_iload_n hx hb dX6_isSame_194 rfl (lv_at hl 3 rfl) ?_
              replace hF := bnd_some hF
              obtain ⟨x34, hz_34, hF⟩ := hF
              refine sx_ldr hx hb hK hP hz_34 dX6_isSame_195 ?_
              have fx34 : x34 < (p_177).1 := zs_ldr_lt hw_177 hz_34
              refine lv_iload hx hb dX6_isSame_196 (lv_at hl 4 rfl) ?_
              replace hF := bnd_some hF
              obtain ⟨x35, hz_35, hF⟩ := hF
              refine sx_ld hx hb hK hP hz_35 dX6_isSame_198 ?_
              refine lv_icmp_eq (tgt := 204) hx hb dX6_isSame_199 (by decide) (fun c_36 => ?_) (fun c_36 => ?_)
              ·   replace hF := if_t hF c_36
                  refine lv_iinc (v := x4_177 + 1) (lv' := [(4, .int (x4_177 + 1)), (0, .ref hs), (1, .ref (h 0)), (2, .int x2_177), (3, .int x3_177)]) hx hb dX6_isSame_204 hl (k := 4) rfl rfl (by decide) rfl (fun ls hl => ?_)
                  refine lv_goto (tgt := 177) hx hb dX6_isSame_207 (by decide) ?_
                  exact ih X_177 G_177 F_177 p_177 x2_177 x3_177 (x4_177 + 1) o hF ad_177 (cu_177) (su_177) T_ TS_ (by omega) (by omega) hT_ hTS_ _ _ _ hw_177 hf_177 le_177 ha_177 hP hD hS (lv_sub hl [1, 2, 3, 4, 0] rfl) kk0
              ·   replace hF := if_f hF c_36
                  cases hF
  have L165 : ∀ (k : Nat) (X_165 : XT) (G_165 : FN) (F_165 : Nat → Nat) (p_165 : zs_H) (x2_165 : Int32) (x3_165 : Int32) (o : Unit), fLX6_isSame_165 X_165 G_165 F_165 p_165 k x3_165 = some o → ∀ (ad_165 : Nat → Nat) (cu_165 su_165 T_ TS_ : Nat), cu_165 + 0 * k ≤ T_ → su_165 + 0 * k ≤ TS_ → T_ ≤ 13 → TS_ ≤ 156 → ∀ (H : Heap) (locs : List Loc) (ls : Array Slot), zs_wf p_165 → zs_fs F_165 p_165 → p.1 ≤ (p_165).1 → (∀ i, i < p.1 → ad_165 i = ad i) → va_P D vwCl (zs_W (zx_W cy h X_165) cy hs ad_165 G_165 F_165 p_165) H → va_D A (zs_W (zx_W cy h X_165) cy hs ad_165 G_165 F_165 p_165) → va_S A s.heap H locs → lv_has ls 6 [(0, .ref hs), (1, .ref (h 0)), (2, .int x2_165), (3, .int x3_165)] → (∀ (H : Heap) (locs : List Loc) (ls : Array Slot), zs_wf p_165 → zs_fs F_165 p_165 → p.1 ≤ (p_165).1 → (∀ i, i < p.1 → ad_165 i = ad i) → va_P D vwCl (zs_W (zx_W cy h X_165) cy hs ad_165 G_165 F_165 p_165) H → va_D A (zs_W (zx_W cy h X_165) cy hs ad_165 G_165 F_165 p_165) → va_S A s.heap H locs → lv_has ls 6 [(0, .ref hs), (1, .ref (h 0)), (2, .int x2_165)] → W pg l e rX6_isSame s m args below meth c H locs T_ TS_ Q (F0 m 237 ls [])) → W pg l e rX6_isSame s m args below meth c H locs cu_165 su_165 Q (F0 m 165 ls []) := by
      intro k
      induction k with
      | zero =>
          intro X_165 G_165 F_165 p_165 x2_165 x3_165 o hF
          rw [fLX6_isSame_165] at hF
          cases hF
      | succ k ih =>
          intro X_165 G_165 F_165 p_165 x2_165 x3_165 o hF ad_165 cu_165 su_165 T_ TS_ hcu_ hsu_ hT_ hTS_ H locs ls hw_165 hf_165 le_165 ha_165 hP hD hS hl kk0
          rw [fLX6_isSame_165] at hF
          refine lv_iload_n hx hb dX6_isSame_165 rfl (lv_at hl 3 rfl) ?_
          refine lv_aload_n hx hb dX6_isSame_166 rfl (lv_at hl 0 rfl) ?_
          refine va_get (D := D) (C := RX6) (T := TX6) (N := 12) hx hb hts hiX6 hown hK hP _ zs_at rfl 9 (by decide) hf31 (fun _ h9 => h9) rfl dX6_isSame_167 ?_
          replace hF := bnd_some hF
          obtain ⟨x29, hz_29, hF⟩ := hF
          refine sx_len hx hb hK hP hz_29 dX6_isSame_170 ?_
          refine lv_icmp_ge (tgt := 237) hx hb dX6_isSame_171 (by decide) (fun c_30 => ?_) (fun c_30 => ?_)
          ·   replace hF := if_t hF c_30
              cases hF
              refine W.widen (k := T_) (n := TS_) (by omega) (by omega) ?_
              exact kk0 _ _ _ hw_165 hf_165 le_165 ha_165 hP hD hS (lv_sub hl [0, 1, 2] rfl)
          ·   replace hF := if_f hF c_30
              refine lv_iconst (v := 0) hx hb dX6_isSame_174 (by decide) ?_
              refine lv_istore (lv' := [(4, .int 0), (0, .ref hs), (1, .ref (h 0)), (2, .int x2_165), (3, .int x3_165)]) hx hb dX6_isSame_175 hl (by decide) rfl (fun ls hl => ?_)
              replace hF := bnd_some hF
              obtain ⟨o31, hz_31, hF⟩ := hF
              refine L177 300 X_165 G_165 F_165 p_165 x2_165 x3_165 0 o31 hz_31 ad_165 (cu_165) (su_165) (cu_165) (su_165) (by omega) (by omega) (by show _ ≤ (13 : Nat); omega) (by show _ ≤ (156 : Nat); omega) _ _ _ hw_165 hf_165 le_165 ha_165 hP hD hS (lv_sub hl [1, 2, 3, 4, 0] rfl) (fun H locs ls hw31_0 hf31_0 le31_0 ha31_0 hP hD hS hl => ?_)
              refine lv_aload_n hx hb dX6_isSame_210 rfl (lv_at hl 1 rfl) ?_
              refine lv_iload_n hx hb dX6_isSame_211 rfl (lv_at hl 3 rfl) ?_
              refine lv_iconst (v := 3) hx hb dX6_isSame_212 (by decide) ?_
              replace hF := bnd_some hF
              obtain ⟨z37, hz_37, hF⟩ := hF
              refine zw_xI (P2 := zx_W cy h X_165) (kV (As := [.int x3_165, .int 3]) ⟨hx, hb, hml, hown, hts⟩ (kzx_told l D cy sa h X_165 x3_165 3 z37 hz_37 _) (cwV 2 hts gX6_isSame_X5_told rfl rfl rfl (by decide +kernel) ⟨Nat.le_of_ble_eq_true rfl, Nat.le_of_ble_eq_true rfl⟩) hK hP hD hS hA hG (List.range (zx_W cy h X_165).length) zw_map1 (zp_nd1 _) zx_at rfl rfl rfl hl.1 [] rfl (Nat.le_of_ble_eq_true rfl) dX6_isSame_213 ⟨(by show _ ≤ (13 : Nat); omega), (by show _ ≤ (156 : Nat); omega)⟩) hP hD hS hA zx_m (fun H locs hP hD hS => ?_)
              refine lv_aload_n hx hb dX6_isSame_216 rfl (lv_at hl 0 rfl) ?_
              refine lv_aload_n hx hb dX6_isSame_217 rfl (lv_at hl 0 rfl) ?_
              refine va_get (D := D) (C := RX6) (T := TX6) (N := 12) hx hb hts hiX6 hown hK hP _ zs_at rfl 9 (by decide) hf31 (fun _ h9 => h9) rfl dX6_isSame_218 ?_
              refine lv_iload_n hx hb dX6_isSame_221 rfl (lv_at hl 3 rfl) ?_
              replace hF := bnd_some hF
              obtain ⟨x38, hz_38, hF⟩ := hF
              refine sx_ldr hx hb hK hP hz_38 dX6_isSame_222 ?_
              have fx38 : x38 < (p_165).1 := zs_ldr_lt hw31_0 hz_38
              replace hF := bnd_some hF
              obtain ⟨z39, hz_39, hF⟩ := hF
              refine zw_rI (kV (As := [.ref (ad_165 x38)]) ⟨hx, hb, hml, hown, hts⟩ (kX6_makes l D cy sa hs ad_165 G_165 F_165 p_165 x38 z39 hz_39 _) (cwV 1 hts gX6_isSame_X6_makes rfl rfl rfl (by decide +kernel) ⟨Nat.le_of_ble_eq_true rfl, Nat.le_of_ble_eq_true rfl⟩) hK hP hD hS hA hG (List.range' ((zx_W cy h X_165) : va_W).length (zs_W [] cy hs ad_165 G_165 F_165 p_165).length) zw_map2 (zp_nd2 _ _) (zs_at (P := [])) rfl rfl rfl hl.1 [.int z37] rfl (Nat.le_of_ble_eq_true rfl) dX6_isSame_223 ⟨(by show _ ≤ (13 : Nat); omega), (by show _ ≤ (156 : Nat); omega)⟩) hP hD hS hA (fun H locs hP hS => ?_)
              refine lv_icmp_eq (tgt := 231) hx hb dX6_isSame_226 (by decide) (fun c_40 => ?_) (fun c_40 => ?_)
              ·   replace hF := if_t hF c_40
                  refine lv_iinc (v := x3_165 + 1) (lv' := [(3, .int (x3_165 + 1)), (0, .ref hs), (1, .ref (h 0)), (2, .int x2_165)]) hx hb dX6_isSame_231 hl (k := 3) rfl rfl (by decide) rfl (fun ls hl => ?_)
                  refine lv_goto (tgt := 165) hx hb dX6_isSame_234 (by decide) ?_
                  exact ih X_165 G_165 F_165 p_165 x2_165 (x3_165 + 1) o hF ad_165 (cu_165) (su_165) T_ TS_ (by omega) (by omega) hT_ hTS_ _ _ _ hw31_0 hf31_0 le31_0 ha31_0 hP hD hS (lv_sub hl [1, 2, 3, 0] rfl) kk0
              ·   replace hF := if_f hF c_40
                  cases hF
  have L251 : ∀ (k : Nat) (X_251 : XT) (G_251 : FN) (F_251 : Nat → Nat) (p_251 : zs_H) (x2_251 : Int32) (x3_251 : Int32) (x4_251 : Int32) (o : Unit), fLX6_isSame_251 X_251 F_251 p_251 x3_251 k x4_251 = some o → ∀ (ad_251 : Nat → Nat) (cu_251 su_251 T_ TS_ : Nat), cu_251 + 0 * k ≤ T_ → su_251 + 0 * k ≤ TS_ → T_ ≤ 13 → TS_ ≤ 156 → ∀ (H : Heap) (locs : List Loc) (ls : Array Slot), zs_wf p_251 → zs_fs F_251 p_251 → p.1 ≤ (p_251).1 → (∀ i, i < p.1 → ad_251 i = ad i) → va_P D vwCl (zs_W (zx_W cy h X_251) cy hs ad_251 G_251 F_251 p_251) H → va_D A (zs_W (zx_W cy h X_251) cy hs ad_251 G_251 F_251 p_251) → va_S A s.heap H locs → lv_has ls 6 [(0, .ref hs), (1, .ref (h 0)), (2, .int x2_251), (3, .int x3_251), (4, .int x4_251)] → (∀ (H : Heap) (locs : List Loc) (ls : Array Slot), zs_wf p_251 → zs_fs F_251 p_251 → p.1 ≤ (p_251).1 → (∀ i, i < p.1 → ad_251 i = ad i) → va_P D vwCl (zs_W (zx_W cy h X_251) cy hs ad_251 G_251 F_251 p_251) H → va_D A (zs_W (zx_W cy h X_251) cy hs ad_251 G_251 F_251 p_251) → va_S A s.heap H locs → lv_has ls 6 [(0, .ref hs), (1, .ref (h 0)), (2, .int x2_251), (3, .int x3_251)] → W pg l e rX6_isSame s m args below meth c H locs T_ TS_ Q (F0 m 284 ls [])) → W pg l e rX6_isSame s m args below meth c H locs cu_251 su_251 Q (F0 m 251 ls []) := by
      intro k
      induction k with
      | zero =>
          intro X_251 G_251 F_251 p_251 x2_251 x3_251 x4_251 o hF
          rw [fLX6_isSame_251] at hF
          cases hF
      | succ k ih =>
          intro X_251 G_251 F_251 p_251 x2_251 x3_251 x4_251 o hF ad_251 cu_251 su_251 T_ TS_ hcu_ hsu_ hT_ hTS_ H locs ls hw_251 hf_251 le_251 ha_251 hP hD hS hl kk0
          rw [fLX6_isSame_251] at hF
          refine lv_iload hx hb dX6_isSame_251 (lv_at hl 4 rfl) ?_
          refine lv_iconst (v := 3) hx hb dX6_isSame_253 (by decide) ?_
          refine lv_icmp_ge (tgt := 284) hx hb dX6_isSame_254 (by decide) (fun c_45 => ?_) (fun c_45 => ?_)
          ·   replace hF := if_t hF c_45
              cases hF
              refine W.widen (k := T_) (n := TS_) (by omega) (by omega) ?_
              exact kk0 _ _ _ hw_251 hf_251 le_251 ha_251 hP hD hS (lv_sub hl [0, 1, 2, 3] rfl)
          ·   replace hF := if_f hF c_45
              refine lv_aload_n hx hb dX6_isSame_257 rfl (lv_at hl 1 rfl) ?_
              refine lv_iload_n hx hb dX6_isSame_258 rfl (lv_at hl 3 rfl) ?_
              refine lv_iload hx hb dX6_isSame_259 (lv_at hl 4 rfl) ?_
              replace hF := bnd_some hF
              obtain ⟨z46, hz_46, hF⟩ := hF
              refine zw_xI (P2 := zx_W cy h X_251) (kV (As := [.int x3_251, .int x4_251]) ⟨hx, hb, hml, hown, hts⟩ (kzx_post l D cy sa h X_251 x3_251 x4_251 z46 hz_46 _) (cwV 2 hts gX6_isSame_X5_post rfl rfl rfl (by decide +kernel) ⟨Nat.le_of_ble_eq_true rfl, Nat.le_of_ble_eq_true rfl⟩) hK hP hD hS hA hG (List.range (zx_W cy h X_251).length) zw_map1 (zp_nd1 _) zx_at rfl rfl rfl hl.1 [] rfl (Nat.le_of_ble_eq_true rfl) dX6_isSame_261 ⟨(by show _ ≤ (13 : Nat); omega), (by show _ ≤ (156 : Nat); omega)⟩) hP hD hS hA zx_m (fun H locs hP hD hS => ?_)
              refine lv_aload_n hx hb dX6_isSame_264 rfl (lv_at hl 0 rfl) ?_
              refine va_get (D := D) (C := RX6) (T := TX6) (N := 12) hx hb hts hiX6 hown hK hP _ zs_at rfl 10 (by decide) hf34 (fun _ h9 => h9) rfl dX6_isSame_265 ?_
              refine lv_iload_n hx hb dX6_isSame_268 rfl (lv_at hl 3 rfl) ?_
              replace hF := bnd_some hF
              obtain ⟨x47, hz_47, hF⟩ := hF
              refine sx_ldr hx hb hK hP hz_47 dX6_isSame_269 ?_
              have fx47 : x47 < (p_251).1 := zs_ldr_lt hw_251 hz_47
              refine lv_iload hx hb dX6_isSame_270 (lv_at hl 4 rfl) ?_
              replace hF := bnd_some hF
              obtain ⟨x48, hz_48, hF⟩ := hF
              refine sx_ld hx hb hK hP hz_48 dX6_isSame_272 ?_
              refine lv_icmp_eq (tgt := 278) hx hb dX6_isSame_273 (by decide) (fun c_49 => ?_) (fun c_49 => ?_)
              ·   replace hF := if_t hF c_49
                  refine lv_iinc (v := x4_251 + 1) (lv' := [(4, .int (x4_251 + 1)), (0, .ref hs), (1, .ref (h 0)), (2, .int x2_251), (3, .int x3_251)]) hx hb dX6_isSame_278 hl (k := 4) rfl rfl (by decide) rfl (fun ls hl => ?_)
                  refine lv_goto (tgt := 251) hx hb dX6_isSame_281 (by decide) ?_
                  exact ih X_251 G_251 F_251 p_251 x2_251 x3_251 (x4_251 + 1) o hF ad_251 (cu_251) (su_251) T_ TS_ (by omega) (by omega) hT_ hTS_ _ _ _ hw_251 hf_251 le_251 ha_251 hP hD hS (lv_sub hl [1, 2, 3, 4, 0] rfl) kk0
              ·   replace hF := if_f hF c_49
                  cases hF
  have L239 : ∀ (k : Nat) (X_239 : XT) (G_239 : FN) (F_239 : Nat → Nat) (p_239 : zs_H) (x2_239 : Int32) (x3_239 : Int32) (o : Unit), fLX6_isSame_239 X_239 F_239 p_239 k x3_239 = some o → ∀ (ad_239 : Nat → Nat) (cu_239 su_239 T_ TS_ : Nat), cu_239 + 0 * k ≤ T_ → su_239 + 0 * k ≤ TS_ → T_ ≤ 13 → TS_ ≤ 156 → ∀ (H : Heap) (locs : List Loc) (ls : Array Slot), zs_wf p_239 → zs_fs F_239 p_239 → p.1 ≤ (p_239).1 → (∀ i, i < p.1 → ad_239 i = ad i) → va_P D vwCl (zs_W (zx_W cy h X_239) cy hs ad_239 G_239 F_239 p_239) H → va_D A (zs_W (zx_W cy h X_239) cy hs ad_239 G_239 F_239 p_239) → va_S A s.heap H locs → lv_has ls 6 [(0, .ref hs), (1, .ref (h 0)), (2, .int x2_239), (3, .int x3_239)] → (∀ (H : Heap) (locs : List Loc) (ls : Array Slot), zs_wf p_239 → zs_fs F_239 p_239 → p.1 ≤ (p_239).1 → (∀ i, i < p.1 → ad_239 i = ad i) → va_P D vwCl (zs_W (zx_W cy h X_239) cy hs ad_239 G_239 F_239 p_239) H → va_D A (zs_W (zx_W cy h X_239) cy hs ad_239 G_239 F_239 p_239) → va_S A s.heap H locs → lv_has ls 6 [(0, .ref hs), (1, .ref (h 0)), (2, .int x2_239)] → W pg l e rX6_isSame s m args below meth c H locs T_ TS_ Q (F0 m 290 ls [])) → W pg l e rX6_isSame s m args below meth c H locs cu_239 su_239 Q (F0 m 239 ls []) := by
      intro k
      induction k with
      | zero =>
          intro X_239 G_239 F_239 p_239 x2_239 x3_239 o hF
          rw [fLX6_isSame_239] at hF
          cases hF
      | succ k ih =>
          intro X_239 G_239 F_239 p_239 x2_239 x3_239 o hF ad_239 cu_239 su_239 T_ TS_ hcu_ hsu_ hT_ hTS_ H locs ls hw_239 hf_239 le_239 ha_239 hP hD hS hl kk0
          rw [fLX6_isSame_239] at hF
          refine lv_iload_n hx hb dX6_isSame_239 rfl (lv_at hl 3 rfl) ?_
          refine lv_aload_n hx hb dX6_isSame_240 rfl (lv_at hl 0 rfl) ?_
          refine va_get (D := D) (C := RX6) (T := TX6) (N := 12) hx hb hts hiX6 hown hK hP _ zs_at rfl 10 (by decide) hf34 (fun _ h9 => h9) rfl dX6_isSame_241 ?_
          replace hF := bnd_some hF
          obtain ⟨x42, hz_42, hF⟩ := hF
          refine sx_len hx hb hK hP hz_42 dX6_isSame_244 ?_
          refine lv_icmp_ge (tgt := 290) hx hb dX6_isSame_245 (by decide) (fun c_43 => ?_) (fun c_43 => ?_)
          ·   replace hF := if_t hF c_43
              cases hF
              refine W.widen (k := T_) (n := TS_) (by omega) (by omega) ?_
              exact kk0 _ _ _ hw_239 hf_239 le_239 ha_239 hP hD hS (lv_sub hl [0, 1, 2] rfl)
          ·   replace hF := if_f hF c_43
              refine lv_iconst (v := 0) hx hb dX6_isSame_248 (by decide) ?_
              refine lv_istore (lv' := [(4, .int 0), (0, .ref hs), (1, .ref (h 0)), (2, .int x2_239), (3, .int x3_239)]) hx hb dX6_isSame_249 hl (by decide) rfl (fun ls hl => ?_)
              replace hF := bnd_some hF
              obtain ⟨o44, hz_44, hF⟩ := hF
              refine L251 300 X_239 G_239 F_239 p_239 x2_239 x3_239 0 o44 hz_44 ad_239 (cu_239) (su_239) (cu_239) (su_239) (by omega) (by omega) (by show _ ≤ (13 : Nat); omega) (by show _ ≤ (156 : Nat); omega) _ _ _ hw_239 hf_239 le_239 ha_239 hP hD hS (lv_sub hl [1, 2, 3, 4, 0] rfl) (fun H locs ls hw44_0 hf44_0 le44_0 ha44_0 hP hD hS hl => ?_)
              refine lv_iinc (v := x3_239 + 1) (lv' := [(3, .int (x3_239 + 1)), (0, .ref hs), (1, .ref (h 0)), (2, .int x2_239)]) hx hb dX6_isSame_284 hl (k := 3) rfl rfl (by decide) rfl (fun ls hl => ?_)
              refine lv_goto (tgt := 239) hx hb dX6_isSame_287 (by decide) ?_
              exact ih X_239 G_239 F_239 p_239 x2_239 (x3_239 + 1) o hF ad_239 (cu_239) (su_239) T_ TS_ (by omega) (by omega) hT_ hTS_ _ _ _ hw44_0 hf44_0 le44_0 ha44_0 hP hD hS (lv_sub hl [1, 2, 3, 0] rfl) kk0
  have L301 : ∀ (k : Nat) (X_301 : XT) (G_301 : FN) (F_301 : Nat → Nat) (p_301 : zs_H) (x2_301 : Int32) (x3_301 : Int32) (x4_301 : Int32) (o : Unit), fLX6_isSame_301 X_301 F_301 p_301 x3_301 k x4_301 = some o → ∀ (ad_301 : Nat → Nat) (cu_301 su_301 T_ TS_ : Nat), cu_301 + 0 * k ≤ T_ → su_301 + 0 * k ≤ TS_ → T_ ≤ 13 → TS_ ≤ 156 → ∀ (H : Heap) (locs : List Loc) (ls : Array Slot), zs_wf p_301 → zs_fs F_301 p_301 → p.1 ≤ (p_301).1 → (∀ i, i < p.1 → ad_301 i = ad i) → va_P D vwCl (zs_W (zx_W cy h X_301) cy hs ad_301 G_301 F_301 p_301) H → va_D A (zs_W (zx_W cy h X_301) cy hs ad_301 G_301 F_301 p_301) → va_S A s.heap H locs → lv_has ls 6 [(0, .ref hs), (1, .ref (h 0)), (2, .int x2_301), (3, .int x3_301), (4, .int x4_301)] → (∀ (H : Heap) (locs : List Loc) (ls : Array Slot), zs_wf p_301 → zs_fs F_301 p_301 → p.1 ≤ (p_301).1 → (∀ i, i < p.1 → ad_301 i = ad i) → va_P D vwCl (zs_W (zx_W cy h X_301) cy hs ad_301 G_301 F_301 p_301) H → va_D A (zs_W (zx_W cy h X_301) cy hs ad_301 G_301 F_301 p_301) → va_S A s.heap H locs → lv_has ls 6 [(0, .ref hs), (1, .ref (h 0)), (2, .int x2_301), (3, .int x3_301)] → W pg l e rX6_isSame s m args below meth c H locs T_ TS_ Q (F0 m 334 ls [])) → W pg l e rX6_isSame s m args below meth c H locs cu_301 su_301 Q (F0 m 301 ls []) := by
      intro k
      induction k with
      | zero =>
          intro X_301 G_301 F_301 p_301 x2_301 x3_301 x4_301 o hF
          rw [fLX6_isSame_301] at hF
          cases hF
      | succ k ih =>
          intro X_301 G_301 F_301 p_301 x2_301 x3_301 x4_301 o hF ad_301 cu_301 su_301 T_ TS_ hcu_ hsu_ hT_ hTS_ H locs ls hw_301 hf_301 le_301 ha_301 hP hD hS hl kk0
          rw [fLX6_isSame_301] at hF
          refine lv_iload hx hb dX6_isSame_301 (lv_at hl 4 rfl) ?_
          refine lv_iconst (v := 3) hx hb dX6_isSame_303 (by decide) ?_
          refine lv_icmp_ge (tgt := 334) hx hb dX6_isSame_304 (by decide) (fun c_53 => ?_) (fun c_53 => ?_)
          ·   replace hF := if_t hF c_53
              cases hF
              refine W.widen (k := T_) (n := TS_) (by omega) (by omega) ?_
              exact kk0 _ _ _ hw_301 hf_301 le_301 ha_301 hP hD hS (lv_sub hl [0, 1, 2, 3] rfl)
          ·   replace hF := if_f hF c_53
              refine lv_aload_n hx hb dX6_isSame_307 rfl (lv_at hl 1 rfl) ?_
              refine lv_iload_n hx hb dX6_isSame_308 rfl (lv_at hl 3 rfl) ?_
              refine lv_iload hx hb dX6_isSame_309 (lv_at hl 4 rfl) ?_
              replace hF := bnd_some hF
              obtain ⟨z54, hz_54, hF⟩ := hF
              refine zw_xI (P2 := zx_W cy h X_301) (kV (As := [.int x3_301, .int x4_301]) ⟨hx, hb, hml, hown, hts⟩ (kzx_loft l D cy sa h X_301 x3_301 x4_301 z54 hz_54 _) (cwV 2 hts gX6_isSame_X5_loft rfl rfl rfl (by decide +kernel) ⟨Nat.le_of_ble_eq_true rfl, Nat.le_of_ble_eq_true rfl⟩) hK hP hD hS hA hG (List.range (zx_W cy h X_301).length) zw_map1 (zp_nd1 _) zx_at rfl rfl rfl hl.1 [] rfl (Nat.le_of_ble_eq_true rfl) dX6_isSame_311 ⟨(by show _ ≤ (13 : Nat); omega), (by show _ ≤ (156 : Nat); omega)⟩) hP hD hS hA zx_m (fun H locs hP hD hS => ?_)
              refine lv_aload_n hx hb dX6_isSame_314 rfl (lv_at hl 0 rfl) ?_
              refine va_get (D := D) (C := RX6) (T := TX6) (N := 12) hx hb hts hiX6 hown hK hP _ zs_at rfl 11 (by decide) hf38 (fun _ h9 => h9) rfl dX6_isSame_315 ?_
              refine lv_iload_n hx hb dX6_isSame_318 rfl (lv_at hl 3 rfl) ?_
              replace hF := bnd_some hF
              obtain ⟨x55, hz_55, hF⟩ := hF
              refine sx_ldr hx hb hK hP hz_55 dX6_isSame_319 ?_
              have fx55 : x55 < (p_301).1 := zs_ldr_lt hw_301 hz_55
              refine lv_iload hx hb dX6_isSame_320 (lv_at hl 4 rfl) ?_
              replace hF := bnd_some hF
              obtain ⟨x56, hz_56, hF⟩ := hF
              refine sx_ld hx hb hK hP hz_56 dX6_isSame_322 ?_
              refine lv_icmp_eq (tgt := 328) hx hb dX6_isSame_323 (by decide) (fun c_57 => ?_) (fun c_57 => ?_)
              ·   replace hF := if_t hF c_57
                  refine lv_iinc (v := x4_301 + 1) (lv' := [(4, .int (x4_301 + 1)), (0, .ref hs), (1, .ref (h 0)), (2, .int x2_301), (3, .int x3_301)]) hx hb dX6_isSame_328 hl (k := 4) rfl rfl (by decide) rfl (fun ls hl => ?_)
                  refine lv_goto (tgt := 301) hx hb dX6_isSame_331 (by decide) ?_
                  exact ih X_301 G_301 F_301 p_301 x2_301 x3_301 (x4_301 + 1) o hF ad_301 (cu_301) (su_301) T_ TS_ (by omega) (by omega) hT_ hTS_ _ _ _ hw_301 hf_301 le_301 ha_301 hP hD hS (lv_sub hl [1, 2, 3, 4, 0] rfl) kk0
              ·   replace hF := if_f hF c_57
                  cases hF
  have L292 : ∀ (k : Nat) (X_292 : XT) (G_292 : FN) (F_292 : Nat → Nat) (p_292 : zs_H) (x2_292 : Int32) (x3_292 : Int32) (o : Unit), fLX6_isSame_292 X_292 F_292 p_292 k x3_292 = some o → ∀ (ad_292 : Nat → Nat) (cu_292 su_292 T_ TS_ : Nat), cu_292 + 0 * k ≤ T_ → su_292 + 0 * k ≤ TS_ → T_ ≤ 13 → TS_ ≤ 156 → ∀ (H : Heap) (locs : List Loc) (ls : Array Slot), zs_wf p_292 → zs_fs F_292 p_292 → p.1 ≤ (p_292).1 → (∀ i, i < p.1 → ad_292 i = ad i) → va_P D vwCl (zs_W (zx_W cy h X_292) cy hs ad_292 G_292 F_292 p_292) H → va_D A (zs_W (zx_W cy h X_292) cy hs ad_292 G_292 F_292 p_292) → va_S A s.heap H locs → lv_has ls 6 [(0, .ref hs), (1, .ref (h 0)), (2, .int x2_292), (3, .int x3_292)] → (∀ (H : Heap) (locs : List Loc) (ls : Array Slot), zs_wf p_292 → zs_fs F_292 p_292 → p.1 ≤ (p_292).1 → (∀ i, i < p.1 → ad_292 i = ad i) → va_P D vwCl (zs_W (zx_W cy h X_292) cy hs ad_292 G_292 F_292 p_292) H → va_D A (zs_W (zx_W cy h X_292) cy hs ad_292 G_292 F_292 p_292) → va_S A s.heap H locs → lv_has ls 6 [(0, .ref hs), (1, .ref (h 0)), (2, .int x2_292)] → W pg l e rX6_isSame s m args below meth c H locs T_ TS_ Q (F0 m 340 ls [])) → W pg l e rX6_isSame s m args below meth c H locs cu_292 su_292 Q (F0 m 292 ls []) := by
      intro k
      induction k with
      | zero =>
          intro X_292 G_292 F_292 p_292 x2_292 x3_292 o hF
          rw [fLX6_isSame_292] at hF
          cases hF
      | succ k ih =>
          intro X_292 G_292 F_292 p_292 x2_292 x3_292 o hF ad_292 cu_292 su_292 T_ TS_ hcu_ hsu_ hT_ hTS_ H locs ls hw_292 hf_292 le_292 ha_292 hP hD hS hl kk0
          rw [fLX6_isSame_292] at hF
          refine lv_iload_n hx hb dX6_isSame_292 rfl (lv_at hl 3 rfl) ?_
          refine lv_bipush (v := 10) hx hb dX6_isSame_293 (by decide) ?_
          refine lv_icmp_ge (tgt := 340) hx hb dX6_isSame_295 (by decide) (fun c_51 => ?_) (fun c_51 => ?_)
          ·   replace hF := if_t hF c_51
              cases hF
              refine W.widen (k := T_) (n := TS_) (by omega) (by omega) ?_
              exact kk0 _ _ _ hw_292 hf_292 le_292 ha_292 hP hD hS (lv_sub hl [0, 1, 2] rfl)
          ·   replace hF := if_f hF c_51
              refine lv_iconst (v := 0) hx hb dX6_isSame_298 (by decide) ?_
              refine lv_istore (lv' := [(4, .int 0), (0, .ref hs), (1, .ref (h 0)), (2, .int x2_292), (3, .int x3_292)]) hx hb dX6_isSame_299 hl (by decide) rfl (fun ls hl => ?_)
              replace hF := bnd_some hF
              obtain ⟨o52, hz_52, hF⟩ := hF
              refine L301 300 X_292 G_292 F_292 p_292 x2_292 x3_292 0 o52 hz_52 ad_292 (cu_292) (su_292) (cu_292) (su_292) (by omega) (by omega) (by show _ ≤ (13 : Nat); omega) (by show _ ≤ (156 : Nat); omega) _ _ _ hw_292 hf_292 le_292 ha_292 hP hD hS (lv_sub hl [1, 2, 3, 4, 0] rfl) (fun H locs ls hw52_0 hf52_0 le52_0 ha52_0 hP hD hS hl => ?_)
              refine lv_iinc (v := x3_292 + 1) (lv' := [(3, .int (x3_292 + 1)), (0, .ref hs), (1, .ref (h 0)), (2, .int x2_292)]) hx hb dX6_isSame_334 hl (k := 3) rfl rfl (by decide) rfl (fun ls hl => ?_)
              refine lv_goto (tgt := 292) hx hb dX6_isSame_337 (by decide) ?_
              exact ih X_292 G_292 F_292 p_292 x2_292 (x3_292 + 1) o hF ad_292 (cu_292) (su_292) T_ TS_ (by omega) (by omega) hT_ hTS_ _ _ _ hw52_0 hf52_0 le52_0 ha52_0 hP hD hS (lv_sub hl [1, 2, 3, 0] rfl) kk0
  have L342 : ∀ (k : Nat) (X_342 : XT) (G_342 : FN) (F_342 : Nat → Nat) (p_342 : zs_H) (x2_342 : Int32) (x3_342 : Int32) (o : zs_H), fLX6_isSame_342 X_342 G_342 F_342 k p_342 x3_342 = some o → ∀ (ad_342 : Nat → Nat) (cu_342 su_342 T_ TS_ : Nat), cu_342 + 1 * k ≤ T_ → su_342 + 12 * k ≤ TS_ → T_ ≤ 13 → TS_ ≤ 156 → ∀ (H : Heap) (locs : List Loc) (ls : Array Slot), zs_wf p_342 → zs_fs F_342 p_342 → p.1 ≤ (p_342).1 → (∀ i, i < p.1 → ad_342 i = ad i) → va_P D vwCl (zs_W (zx_W cy h X_342) cy hs ad_342 G_342 F_342 p_342) H → va_D A (zs_W (zx_W cy h X_342) cy hs ad_342 G_342 F_342 p_342) → va_S A s.heap H locs → lv_has ls 6 [(0, .ref hs), (1, .ref (h 0)), (2, .int x2_342), (3, .int x3_342)] → (∀ (ad2 : Nat → Nat) (H : Heap) (locs : List Loc) (ls : Array Slot), zs_wf o → zs_fs F_342 o → p.1 ≤ (o).1 → (∀ i, i < p.1 → ad2 i = ad i) → va_P D vwCl (zs_W (zx_W cy h X_342) cy hs ad2 G_342 F_342 o) H → va_D A (zs_W (zx_W cy h X_342) cy hs ad2 G_342 F_342 o) → va_S A s.heap H locs → lv_has ls 6 [(0, .ref hs), (1, .ref (h 0)), (2, .int x2_342)] → W pg l e rX6_isSame s m args below meth c H locs T_ TS_ Q (F0 m 369 ls [])) → W pg l e rX6_isSame s m args below meth c H locs cu_342 su_342 Q (F0 m 342 ls []) := by
      intro k
      induction k with
      | zero =>
          intro X_342 G_342 F_342 p_342 x2_342 x3_342 o hF
          rw [fLX6_isSame_342] at hF
          cases hF
      | succ k ih =>
          intro X_342 G_342 F_342 p_342 x2_342 x3_342 o hF ad_342 cu_342 su_342 T_ TS_ hcu_ hsu_ hT_ hTS_ H locs ls hw_342 hf_342 le_342 ha_342 hP hD hS hl kk0
          rw [fLX6_isSame_342] at hF
          refine lv_iload_n hx hb dX6_isSame_342 rfl (lv_at hl 3 rfl) ?_
          refine lv_bipush (v := 12) hx hb dX6_isSame_343 (by decide) ?_
          refine lv_icmp_ge (tgt := 369) hx hb dX6_isSame_345 (by decide) (fun c_59 => ?_) (fun c_59 => ?_)
          ·   replace hF := if_t hF c_59
              cases hF
              refine W.widen (k := T_) (n := TS_) (by omega) (by omega) ?_
              exact kk0 ad_342 _ _ _ hw_342 hf_342 le_342 ha_342 hP hD hS (lv_sub hl [0, 1, 2] rfl)
          ·   replace hF := if_f hF c_59
              refine lv_aload_n hx hb dX6_isSame_348 rfl (lv_at hl 1 rfl) ?_
              refine lv_iload_n hx hb dX6_isSame_349 rfl (lv_at hl 3 rfl) ?_
              replace hF := bnd_some hF
              obtain ⟨z60, hz_60, hF⟩ := hF
              refine zw_xI (P2 := zx_W cy h X_342) (kV (As := [.int x3_342]) ⟨hx, hb, hml, hown, hts⟩ (kzx_count l D cy sa h X_342 x3_342 z60 hz_60 _) (cwV 1 hts gX6_isSame_X5_count rfl rfl rfl (by decide +kernel) ⟨Nat.le_of_ble_eq_true rfl, Nat.le_of_ble_eq_true rfl⟩) hK hP hD hS hA hG (List.range (zx_W cy h X_342).length) zw_map1 (zp_nd1 _) zx_at rfl rfl rfl hl.1 [] rfl (Nat.le_of_ble_eq_true rfl) dX6_isSame_350 ⟨(by show _ ≤ (13 : Nat); omega), (by show _ ≤ (156 : Nat); omega)⟩) hP hD hS hA zx_m (fun H locs hP hD hS => ?_)
              refine lv_aload_n hx hb dX6_isSame_353 rfl (lv_at hl 0 rfl) ?_
              refine lv_iload_n hx hb dX6_isSame_354 rfl (lv_at hl 3 rfl) ?_
              replace hF := bnd_some hF
              obtain ⟨z61, hz_61, hF⟩ := hF
              refine zw_I (kV (As := [.int x3_342]) ⟨hx, hb, hml, hown, hts⟩ (kX6_told l D cy sa hs ad_342 G_342 F_342 p_342 x3_342 hw_342 hf_342  z61 hz_61 _) (cwV 1 hts gX6_isSame_X6_told rfl rfl rfl (by decide +kernel) ⟨Nat.le_of_ble_eq_true rfl, Nat.le_of_ble_eq_true rfl⟩) hK hP hD hS hA hG (List.range' ((zx_W cy h X_342) : va_W).length (zs_W [] cy hs ad_342 G_342 F_342 p_342).length) zw_map2 (zp_nd2 _ _) (zs_at (P := [])) rfl rfl rfl hl.1 [.int z60] rfl (Nat.le_of_ble_eq_true rfl) dX6_isSame_355 ⟨(by show _ ≤ (13 : Nat); omega), (by show _ ≤ (156 : Nat); omega)⟩) hP hD hS hA (fun r61 ad61 H locs hq61 hP hD hS => ?_)
              obtain ⟨rfl, hw61, hf_61, lf61, ha61⟩ := hq61
              have le61 : p.1 ≤ (z61.2).1 := Nat.le_trans le_342 lf61
              have hb61 : ∀ i, i < p.1 → ad61 i = ad i := fun i hi => (ha61 i (Nat.lt_of_lt_of_le hi le_342)).trans (ha_342 i hi)
              replace hP : va_P D vwCl (zs_W (zx_W cy h X_342) cy hs ad61 G_342 F_342 z61.2) H := hP
              replace hD : va_D A (zs_W (zx_W cy h X_342) cy hs ad61 G_342 F_342 z61.2) := hD
              refine lv_icmp_eq (tgt := 363) hx hb dX6_isSame_358 (by decide) (fun c_62 => ?_) (fun c_62 => ?_)
              ·   replace hF := if_t hF c_62
                  refine lv_iinc (v := x3_342 + 1) (lv' := [(3, .int (x3_342 + 1)), (0, .ref hs), (1, .ref (h 0)), (2, .int x2_342)]) hx hb dX6_isSame_363 hl (k := 3) rfl rfl (by decide) rfl (fun ls hl => ?_)
                  refine lv_goto (tgt := 342) hx hb dX6_isSame_366 (by decide) ?_
                  exact ih X_342 G_342 F_342 z61.2 x2_342 (x3_342 + 1) o hF ad61 (cu_342 + 1) (su_342 + 12) T_ TS_ (by omega) (by omega) hT_ hTS_ _ _ _ hw61 hf_61 le61 hb61 hP hD hS (lv_sub hl [1, 2, 3, 0] rfl) kk0
              ·   replace hF := if_f hF c_62
                  cases hF
  unfold fX6_isSame at hF
  refine lv_iconst (v := 0) hx hb dX6_isSame_0 (by decide) ?_
  refine lv_istore_n (lv' := [(2, .int 0), (0, .ref hs), (1, .ref (h 0))]) hx hb dX6_isSame_1 rfl hl (by decide) rfl (fun ls hl => ?_)
  replace hF := bnd_some hF
  obtain ⟨o1, hz_1, hF⟩ := hF
  refine L2 300 X G F p 0 o1 hz_1 ad (0) (0) (0) (0) (Nat.le_of_ble_eq_true rfl) (Nat.le_of_ble_eq_true rfl) (Nat.le_of_ble_eq_true rfl) (Nat.le_of_ble_eq_true rfl) _ _ _ hw hf (Nat.le_refl _) (fun _ _ => rfl) hP hD hS (lv_sub hl [1, 2, 0] rfl) (fun H locs ls hw1_0 hf1_0 le1_0 ha1_0 hP hD hS hl => ?_)
  refine lv_iconst (v := 0) hx hb dX6_isSame_45 (by decide) ?_
  refine lv_istore_n (lv' := [(2, .int 0), (0, .ref hs), (1, .ref (h 0))]) hx hb dX6_isSame_46 rfl hl (by decide) rfl (fun ls hl => ?_)
  refine lv_iconst (v := 0) hx hb dX6_isSame_47 (by decide) ?_
  refine lv_istore_n (lv' := [(3, .int 0), (2, .int 0), (0, .ref hs), (1, .ref (h 0))]) hx hb dX6_isSame_48 rfl hl (by decide) rfl (fun ls hl => ?_)
  replace hF := bnd_some hF
  obtain ⟨o9, hz_9, hF⟩ := hF
  refine L49 300 X G F p 0 0 o9 hz_9 ad (0) (0) (0) (0) (Nat.le_of_ble_eq_true rfl) (Nat.le_of_ble_eq_true rfl) (Nat.le_of_ble_eq_true rfl) (Nat.le_of_ble_eq_true rfl) _ _ _ hw1_0 hf1_0 le1_0 ha1_0 hP hD hS (lv_sub hl [2, 3, 1, 0] rfl) (fun H locs ls hw9_0 hf9_0 le9_0 ha9_0 hP hD hS hl => ?_)
  refine lv_iconst (v := 0) hx hb dX6_isSame_163 (by decide) ?_
  refine lv_istore_n (lv' := [(3, .int 0), (0, .ref hs), (1, .ref (h 0)), (2, .int o9)]) hx hb dX6_isSame_164 rfl hl (by decide) rfl (fun ls hl => ?_)
  replace hF := bnd_some hF
  obtain ⟨o28, hz_28, hF⟩ := hF
  refine L165 300 X G F p o9 0 o28 hz_28 ad (0) (0) (0) (0) (Nat.le_of_ble_eq_true rfl) (Nat.le_of_ble_eq_true rfl) (Nat.le_of_ble_eq_true rfl) (Nat.le_of_ble_eq_true rfl) _ _ _ hw9_0 hf9_0 le9_0 ha9_0 hP hD hS (lv_sub hl [1, 2, 3, 0] rfl) (fun H locs ls hw28_0 hf28_0 le28_0 ha28_0 hP hD hS hl => ?_)
  refine lv_iconst (v := 0) hx hb dX6_isSame_237 (by decide) ?_
  refine lv_istore_n (lv' := [(3, .int 0), (0, .ref hs), (1, .ref (h 0)), (2, .int o9)]) hx hb dX6_isSame_238 rfl hl (by decide) rfl (fun ls hl => ?_)
  replace hF := bnd_some hF
  obtain ⟨o41, hz_41, hF⟩ := hF
  refine L239 300 X G F p o9 0 o41 hz_41 ad (0) (0) (0) (0) (Nat.le_of_ble_eq_true rfl) (Nat.le_of_ble_eq_true rfl) (Nat.le_of_ble_eq_true rfl) (Nat.le_of_ble_eq_true rfl) _ _ _ hw28_0 hf28_0 le28_0 ha28_0 hP hD hS (lv_sub hl [1, 2, 3, 0] rfl) (fun H locs ls hw41_0 hf41_0 le41_0 ha41_0 hP hD hS hl => ?_)
  refine lv_iconst (v := 0) hx hb dX6_isSame_290 (by decide) ?_
  refine lv_istore_n (lv' := [(3, .int 0), (0, .ref hs), (1, .ref (h 0)), (2, .int o9)]) hx hb dX6_isSame_291 rfl hl (by decide) rfl (fun ls hl => ?_)
  replace hF := bnd_some hF
  obtain ⟨o50, hz_50, hF⟩ := hF
  refine L292 300 X G F p o9 0 o50 hz_50 ad (0) (0) (0) (0) (Nat.le_of_ble_eq_true rfl) (Nat.le_of_ble_eq_true rfl) (Nat.le_of_ble_eq_true rfl) (Nat.le_of_ble_eq_true rfl) _ _ _ hw41_0 hf41_0 le41_0 ha41_0 hP hD hS (lv_sub hl [1, 2, 3, 0] rfl) (fun H locs ls hw50_0 hf50_0 le50_0 ha50_0 hP hD hS hl => ?_)
  refine lv_iconst (v := 0) hx hb dX6_isSame_340 (by decide) ?_
  refine lv_istore_n (lv' := [(3, .int 0), (0, .ref hs), (1, .ref (h 0)), (2, .int o9)]) hx hb dX6_isSame_341 rfl hl (by decide) rfl (fun ls hl => ?_)
  replace hF := bnd_some hF
  obtain ⟨o58, hz_58, hF⟩ := hF
  refine L342 13 X G F p o9 0 o58 hz_58 ad (0) (0) (13) (156) (Nat.le_of_ble_eq_true rfl) (Nat.le_of_ble_eq_true rfl) (Nat.le_of_ble_eq_true rfl) (Nat.le_of_ble_eq_true rfl) _ _ _ hw50_0 hf50_0 le50_0 ha50_0 hP hD hS (lv_sub hl [1, 2, 3, 0] rfl) (fun ad58_0 H locs ls hw58_0 hf58_0 le58_0 ha58_0 hP hD hS hl => ?_)
  refine lv_aload_n hx hb dX6_isSame_369 rfl (lv_at hl 1 rfl) ?_
  replace hF := bnd_some hF
  obtain ⟨z63, hz_63, hF⟩ := hF
  refine zw_xD (kV (As := []) ⟨hx, hb, hml, hown, hts⟩ (kzx_mean l D cy sa h X  z63 hz_63 _) (cwV 0 hts gX6_isSame_X5_mean rfl rfl rfl (by decide +kernel) ⟨Nat.le_of_ble_eq_true rfl, Nat.le_of_ble_eq_true rfl⟩) hK hP hD hS hA hG (List.range (zx_W cy h X).length) zw_map1 (zp_nd1 _) zx_at rfl rfl rfl hl.1 [] rfl (Nat.le_of_ble_eq_true rfl) dX6_isSame_370 ⟨(Nat.le_of_ble_eq_true rfl), (Nat.le_of_ble_eq_true rfl)⟩) hP hD hS hA (fun H locs hP hS => ?_)
  refine lv_aload_n hx hb dX6_isSame_373 rfl (lv_at hl 0 rfl) ?_
  refine va_get (D := D) (C := RX6) (T := TX6) (N := 12) hx hb hts hiX6 hown hK hP _ zs_at rfl 8 (by decide) hf28 (fun _ h9 => h9) rfl dX6_isSame_374 ?_
  replace hF := bnd_some hF
  obtain ⟨x64, hz_64, hF⟩ := hF
  refine sx_len hx hb hK hP hz_64 dX6_isSame_377 ?_
  replace hF := bnd_some hF
  obtain ⟨t65, hz_65, hF⟩ := hF
  have J65 : ∀ (H : Heap) (locs : List Loc) (ls : Array Slot), va_P D vwCl (zs_W (zx_W cy h X) cy hs ad58_0 G F o58) H → va_D A (zs_W (zx_W cy h X) cy hs ad58_0 G F o58) → va_S A s.heap H locs → lv_has ls 6 [] → W pg l e rX6_isSame s m args below meth c H locs (13) (156) Q (F0 m 394 ls [.double t65, .double z63]) := by
      intro H locs ls hP hD hS hl
      refine lv_dcmp hx hb dX6_isSame_394 ?_
      refine lv_if_ne (tgt := 402) hx hb dX6_isSame_395 (by decide) (fun c_68 => ?_) (fun c_68 => ?_)
      ·   replace hF := if_f hF c_68
          cases hF
      ·   replace hF := if_t hF c_68
          refine lv_iconst (v := 1) hx hb dX6_isSame_398 (by decide) ?_
          refine lv_goto (tgt := 403) hx hb dX6_isSame_399 (by decide) ?_
          cases hF
          exact hQ _ _ _ _ _ _ _ ad58_0 rfl dX6_isSame_403 ⟨rfl, ⟨hw58_0, hf58_0, le58_0, ha58_0⟩⟩ hP hD hS (Nat.le_of_ble_eq_true rfl) (Nat.le_of_ble_eq_true rfl)
  replace hF := hz_65
  refine lv_if_ne (tgt := 385) hx hb dX6_isSame_378 (by decide) (fun c_65 => ?_) (fun c_65 => ?_)
  ·   replace hF := if_f hF c_65
      refine lv_iload_n hx hb dX6_isSame_385 rfl (lv_at hl 2 rfl) ?_
      refine lv_i2d hx hb dX6_isSame_386 ?_
      refine lv_aload_n hx hb dX6_isSame_387 rfl (lv_at hl 0 rfl) ?_
      refine va_get (D := D) (C := RX6) (T := TX6) (N := 12) hx hb hts hiX6 hown hK hP _ zs_at rfl 8 (by decide) hf28 (fun _ h9 => h9) rfl dX6_isSame_388 ?_
      replace hF := bnd_some hF
      obtain ⟨x66, hz_66, hF⟩ := hF
      refine sx_len hx hb hK hP hz_66 dX6_isSame_391 ?_
      refine lv_i2d hx hb dX6_isSame_392 ?_
      replace hF := ckN_some hF
      obtain ⟨hq_67, hF⟩ := hF
      refine lv_ddiv hx hb dX6_isSame_393 hq_67 ?_
      cases hF
      exact J65 _ _ _ hP hD hS (lv_sub hl [] rfl)
  ·   replace hF := if_t hF c_65
      refine lv_dconst0 hx hb dX6_isSame_381 ?_
      refine lv_goto (tgt := 394) hx hb dX6_isSame_382 (by decide) ?_
      cases hF
      exact J65 _ _ _ hP hD hS (lv_sub hl [] rfl)
