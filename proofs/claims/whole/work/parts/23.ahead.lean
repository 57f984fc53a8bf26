abbrev rX6_kept : Room := { frames := 1, cells := 7, slots := 351, locals := 40 }
set_option maxHeartbeats 4000000 in
set_option maxRecDepth 100000 in
theorem kX6_kept (l : Launch) (D : va_G) (cy : Nat → ClassId) (sa : Nat → Nat) (h : Nat → Nat) (thrown : Int32) (pairs : Int32) (teams : Int32) (water : FN) (vats : FN) (moulds : FN) (crews : FN) (posts : FN) (loft : FN) (nums : FN) : KR l D (tyW cy) sa yX6_kept wsX6_kept rX6_kept [.ref (h 0)] (wX6 cy h thrown pairs teams water vats moulds crews posts loft nums) (fun ad => wX6_K12 cy h thrown pairs teams water vats moulds crews posts loft nums (ad 0) (ad 1) vats (ad 2) moulds (ad 3) crews (ad 4) posts (ad 5) loft (ad 6) nums) 7 351 := by
  refine KR.of (cc := cX6_kept) (maxL := 1) (Or.inr ⟨_, rfl⟩) (by decide +kernel) rfl (Nat.le_of_ble_eq_true rfl) ?_
  intro p e s m args below meth c A ls Q hE hQ
  obtain ⟨hx, hb, hml, hown, hts, hA, hP, hK, hD, hG, hl, hnm⟩ := hE
  replace hown : s.vm.findClass RX6 = some m.cls := hown
  have hiX6 : ∀ w ∈ u_ws RX6 TX6 10, w ∈ wsX6_kept := by decide +kernel
  have hf13 : (Cond.fieldLink RX6 13 "RagVatsModel" "vats" "[I").before args s = true := hts _ (by decide +kernel)
  have hf16 : (Cond.fieldLink RX6 16 "RagVatsModel" "moulds" "[I").before args s = true := hts _ (by decide +kernel)
  have hf19 : (Cond.fieldLink RX6 19 "RagVatsModel" "crews" "[I").before args s = true := hts _ (by decide +kernel)
  have hf22 : (Cond.fieldLink RX6 22 "RagVatsModel" "posts" "[I").before args s = true := hts _ (by decide +kernel)
  have hf25 : (Cond.fieldLink RX6 25 "RagVatsModel" "loft" "[I").before args s = true := hts _ (by decide +kernel)
  have hf28 : (Cond.fieldLink RX6 28 "RagVatsModel" "numbers" "[I").before args s = true := hts _ (by decide +kernel)
  replace hl : lv_has ls 1 [(0, .ref (h 0))] := hl
  have hS : va_S A s.heap s.heap [] := va_S.rf
  refine lv_bipush (v := 6) hx hb dX6_kept_0 (by decide) ?_
  refine va_newA (N' := 6) hx hb hown (hts (.classLink RX6 130 "[I") (by decide +kernel)) hG.1.2.2.2 hK hP hD hS hA (by decide) (by decide) (by decide) (Nat.le_of_ble_eq_true rfl) (Nat.le_of_ble_eq_true rfl) dX6_kept_2 (fun q1 H hP hD hS => ?_)
  replace hP : va_P D vwCl (wX6_K0 cy h thrown pairs teams water vats moulds crews posts loft nums q1) H := hP
  replace hD : va_D A (wX6_K0 cy h thrown pairs teams water vats moulds crews posts loft nums q1) := hD
  refine lv_dup hx hb dX6_kept_5 rfl ?_
  refine lv_iconst (v := 0) hx hb dX6_kept_6 (by decide) ?_
  refine lv_aload_n hx hb dX6_kept_7 rfl (lv_at hl 0 rfl) ?_
  refine va_get (D := D) (C := RX6) (T := TX6) (N := 10) hx hb hts hiX6 hown hK hP 0 gtX6_K0_0 rfl 4 (by decide) hf13 (fun _ h9 => h9) rfl dX6_kept_8 ?_
  refine va_clone (own := RX6) (ad := "[I") hx hb (hml.trans hl.1.symm) hown (hts (.methodLink RX6 131 ⟨"[I", "clone", "()Ljava/lang/Object;"⟩) (by decide +kernel)) (hts (.sameMethod "[I" "java/lang/Object" "clone" "()Ljava/lang/Object;") (by decide +kernel)) (hts (.native ⟨"java/lang/Object", "clone", "()Ljava/lang/Object;"⟩) (by decide +kernel)) (hts (.instanceMethod ⟨"java/lang/Object", "clone", "()Ljava/lang/Object;"⟩) (by decide +kernel)) (hts (.selects "[I" ⟨"[I", "clone", "()Ljava/lang/Object;"⟩ ⟨"java/lang/Object", "clone", "()Ljava/lang/Object;"⟩) (by decide +kernel)) (hG.1.1 _ (by decide +kernel)) hK hP hD hS hA 2 0 gtX6_K0_2 rfl (show s.vm.findClass "[I" = some (cy 0) from (hK.2 0 _ rfl).2) (kfit _ _ _) (Nat.le_of_ble_eq_true rfl) (Nat.le_of_ble_eq_true rfl) (Nat.le_of_ble_eq_true rfl) (Nat.le_of_ble_eq_true rfl) dX6_kept_11 (fun q2 H _ hP hD hS => ?_)
  replace hP : va_P D vwCl (wX6_K1 cy h thrown pairs teams water vats moulds crews posts loft nums q1 q2 vats) H := hP
  replace hD : va_D A (wX6_K1 cy h thrown pairs teams water vats moulds crews posts loft nums q1 q2 vats) := hD
  refine va_castA hx hb hown (hts (.classLink RX6 130 "[I") (by decide +kernel)) hP 9 gtX6_K1_9 (show s.vm.findClass "[I" = some (cy 0) from (hK.2 0 _ rfl).2) dX6_kept_14 ?_
  refine va_astA hx hb hK hG.1.2.2.2 hP hD hS 8 9 gtX6_K1_8 gtX6_K1_9 (show ¬ ((0 : Int32) < 0 ∨ 6 ≤ (0 : Int32).toNatClampNeg) from by decide) dX6_kept_17 (fun H locs hP hD hS => ?_)
  rw [cl_0] at hP hD
  replace hP : va_P D vwCl (wX6_K2 cy h thrown pairs teams water vats moulds crews posts loft nums q1 q2 vats) H := hP
  replace hD : va_D A (wX6_K2 cy h thrown pairs teams water vats moulds crews posts loft nums q1 q2 vats) := hD
  refine lv_dup hx hb dX6_kept_18 rfl ?_
  refine lv_iconst (v := 1) hx hb dX6_kept_19 (by decide) ?_
  refine lv_aload_n hx hb dX6_kept_20 rfl (lv_at hl 0 rfl) ?_
  refine va_get (D := D) (C := RX6) (T := TX6) (N := 10) hx hb hts hiX6 hown hK hP 0 gtX6_K2_0 rfl 5 (by decide) hf16 (fun _ h9 => h9) rfl dX6_kept_21 ?_
  refine va_clone (own := RX6) (ad := "[I") hx hb (hml.trans hl.1.symm) hown (hts (.methodLink RX6 131 ⟨"[I", "clone", "()Ljava/lang/Object;"⟩) (by decide +kernel)) (hts (.sameMethod "[I" "java/lang/Object" "clone" "()Ljava/lang/Object;") (by decide +kernel)) (hts (.native ⟨"java/lang/Object", "clone", "()Ljava/lang/Object;"⟩) (by decide +kernel)) (hts (.instanceMethod ⟨"java/lang/Object", "clone", "()Ljava/lang/Object;"⟩) (by decide +kernel)) (hts (.selects "[I" ⟨"[I", "clone", "()Ljava/lang/Object;"⟩ ⟨"java/lang/Object", "clone", "()Ljava/lang/Object;"⟩) (by decide +kernel)) (hG.1.1 _ (by decide +kernel)) hK hP hD hS hA 3 0 gtX6_K2_3 rfl (show s.vm.findClass "[I" = some (cy 0) from (hK.2 0 _ rfl).2) (kfit _ _ _) (Nat.le_of_ble_eq_true rfl) (Nat.le_of_ble_eq_true rfl) (Nat.le_of_ble_eq_true rfl) (Nat.le_of_ble_eq_true rfl) dX6_kept_24 (fun q3 H _ hP hD hS => ?_)
  replace hP : va_P D vwCl (wX6_K3 cy h thrown pairs teams water vats moulds crews posts loft nums q1 q2 vats q3 moulds) H := hP
  replace hD : va_D A (wX6_K3 cy h thrown pairs teams water vats moulds crews posts loft nums q1 q2 vats q3 moulds) := hD
  refine va_castA hx hb hown (hts (.classLink RX6 130 "[I") (by decide +kernel)) hP 10 gtX6_K3_10 (show s.vm.findClass "[I" = some (cy 0) from (hK.2 0 _ rfl).2) dX6_kept_27 ?_
  refine va_astA hx hb hK hG.1.2.2.2 hP hD hS 8 10 gtX6_K3_8 gtX6_K3_10 (show ¬ ((1 : Int32) < 0 ∨ 6 ≤ (1 : Int32).toNatClampNeg) from by decide) dX6_kept_30 (fun H locs hP hD hS => ?_)
  rw [cl_1] at hP hD
  replace hP : va_P D vwCl (wX6_K4 cy h thrown pairs teams water vats moulds crews posts loft nums q1 q2 vats q3 moulds) H := hP
  replace hD : va_D A (wX6_K4 cy h thrown pairs teams water vats moulds crews posts loft nums q1 q2 vats q3 moulds) := hD
  refine lv_dup hx hb dX6_kept_31 rfl ?_
  refine lv_iconst (v := 2) hx hb dX6_kept_32 (by decide) ?_
  refine lv_aload_n hx hb dX6_kept_33 rfl (lv_at hl 0 rfl) ?_
  refine va_get (D := D) (C := RX6) (T := TX6) (N := 10) hx hb hts hiX6 hown hK hP 0 gtX6_K4_0 rfl 6 (by decide) hf19 (fun _ h9 => h9) rfl dX6_kept_34 ?_
  refine va_clone (own := RX6) (ad := "[I") hx hb (hml.trans hl.1.symm) hown (hts (.methodLink RX6 131 ⟨"[I", "clone", "()Ljava/lang/Object;"⟩) (by decide +kernel)) (hts (.sameMethod "[I" "java/lang/Object" "clone" "()Ljava/lang/Object;") (by decide +kernel)) (hts (.native ⟨"java/lang/Object", "clone", "()Ljava/lang/Object;"⟩) (by decide +kernel)) (hts (.instanceMethod ⟨"java/lang/Object", "clone", "()Ljava/lang/Object;"⟩) (by decide +kernel)) (hts (.selects "[I" ⟨"[I", "clone", "()Ljava/lang/Object;"⟩ ⟨"java/lang/Object", "clone", "()Ljava/lang/Object;"⟩) (by decide +kernel)) (hG.1.1 _ (by decide +kernel)) hK hP hD hS hA 4 0 gtX6_K4_4 rfl (show s.vm.findClass "[I" = some (cy 0) from (hK.2 0 _ rfl).2) (kfit _ _ _) (Nat.le_of_ble_eq_true rfl) (Nat.le_of_ble_eq_true rfl) (Nat.le_of_ble_eq_true rfl) (Nat.le_of_ble_eq_true rfl) dX6_kept_37 (fun q4 H _ hP hD hS => ?_)
  replace hP : va_P D vwCl (wX6_K5 cy h thrown pairs teams water vats moulds crews posts loft nums q1 q2 vats q3 moulds q4 crews) H := hP
  replace hD : va_D A (wX6_K5 cy h thrown pairs teams water vats moulds crews posts loft nums q1 q2 vats q3 moulds q4 crews) := hD
  refine va_castA hx hb hown (hts (.classLink RX6 130 "[I") (by decide +kernel)) hP 11 gtX6_K5_11 (show s.vm.findClass "[I" = some (cy 0) from (hK.2 0 _ rfl).2) dX6_kept_40 ?_
  refine va_astA hx hb hK hG.1.2.2.2 hP hD hS 8 11 gtX6_K5_8 gtX6_K5_11 (show ¬ ((2 : Int32) < 0 ∨ 6 ≤ (2 : Int32).toNatClampNeg) from by decide) dX6_kept_43 (fun H locs hP hD hS => ?_)
  rw [cl_2] at hP hD
  replace hP : va_P D vwCl (wX6_K6 cy h thrown pairs teams water vats moulds crews posts loft nums q1 q2 vats q3 moulds q4 crews) H := hP
  replace hD : va_D A (wX6_K6 cy h thrown pairs teams water vats moulds crews posts loft nums q1 q2 vats q3 moulds q4 crews) := hD
  refine lv_dup hx hb dX6_kept_44 rfl ?_
  refine lv_iconst (v := 3) hx hb dX6_kept_45 (by decide) ?_
  refine lv_aload_n hx hb dX6_kept_46 rfl (lv_at hl 0 rfl) ?_
  refine va_get (D := D) (C := RX6) (T := TX6) (N := 10) hx hb hts hiX6 hown hK hP 0 gtX6_K6_0 rfl 7 (by decide) hf22 (fun _ h9 => h9) rfl dX6_kept_47 ?_
  refine va_clone (own := RX6) (ad := "[I") hx hb (hml.trans hl.1.symm) hown (hts (.methodLink RX6 131 ⟨"[I", "clone", "()Ljava/lang/Object;"⟩) (by decide +kernel)) (hts (.sameMethod "[I" "java/lang/Object" "clone" "()Ljava/lang/Object;") (by decide +kernel)) (hts (.native ⟨"java/lang/Object", "clone", "()Ljava/lang/Object;"⟩) (by decide +kernel)) (hts (.instanceMethod ⟨"java/lang/Object", "clone", "()Ljava/lang/Object;"⟩) (by decide +kernel)) (hts (.selects "[I" ⟨"[I", "clone", "()Ljava/lang/Object;"⟩ ⟨"java/lang/Object", "clone", "()Ljava/lang/Object;"⟩) (by decide +kernel)) (hG.1.1 _ (by decide +kernel)) hK hP hD hS hA 5 0 gtX6_K6_5 rfl (show s.vm.findClass "[I" = some (cy 0) from (hK.2 0 _ rfl).2) (kfit _ _ _) (Nat.le_of_ble_eq_true rfl) (Nat.le_of_ble_eq_true rfl) (Nat.le_of_ble_eq_true rfl) (Nat.le_of_ble_eq_true rfl) dX6_kept_50 (fun q5 H _ hP hD hS => ?_)
  replace hP : va_P D vwCl (wX6_K7 cy h thrown pairs teams water vats moulds crews posts loft nums q1 q2 vats q3 moulds q4 crews q5 posts) H := hP
  replace hD : va_D A (wX6_K7 cy h thrown pairs teams water vats moulds crews posts loft nums q1 q2 vats q3 moulds q4 crews q5 posts) := hD
  refine va_castA hx hb hown (hts (.classLink RX6 130 "[I") (by decide +kernel)) hP 12 gtX6_K7_12 (show s.vm.findClass "[I" = some (cy 0) from (hK.2 0 _ rfl).2) dX6_kept_53 ?_
  refine va_astA hx hb hK hG.1.2.2.2 hP hD hS 8 12 gtX6_K7_8 gtX6_K7_12 (show ¬ ((3 : Int32) < 0 ∨ 6 ≤ (3 : Int32).toNatClampNeg) from by decide) dX6_kept_56 (fun H locs hP hD hS => ?_)
  rw [cl_3] at hP hD
  replace hP : va_P D vwCl (wX6_K8 cy h thrown pairs teams water vats moulds crews posts loft nums q1 q2 vats q3 moulds q4 crews q5 posts) H := hP
  replace hD : va_D A (wX6_K8 cy h thrown pairs teams water vats moulds crews posts loft nums q1 q2 vats q3 moulds q4 crews q5 posts) := hD
  refine lv_dup hx hb dX6_kept_57 rfl ?_
  refine lv_iconst (v := 4) hx hb dX6_kept_58 (by decide) ?_
  refine lv_aload_n hx hb dX6_kept_59 rfl (lv_at hl 0 rfl) ?_
  refine va_get (D := D) (C := RX6) (T := TX6) (N := 10) hx hb hts hiX6 hown hK hP 0 gtX6_K8_0 rfl 8 (by decide) hf25 (fun _ h9 => h9) rfl dX6_kept_60 ?_
  refine va_clone (own := RX6) (ad := "[I") hx hb (hml.trans hl.1.symm) hown (hts (.methodLink RX6 131 ⟨"[I", "clone", "()Ljava/lang/Object;"⟩) (by decide +kernel)) (hts (.sameMethod "[I" "java/lang/Object" "clone" "()Ljava/lang/Object;") (by decide +kernel)) (hts (.native ⟨"java/lang/Object", "clone", "()Ljava/lang/Object;"⟩) (by decide +kernel)) (hts (.instanceMethod ⟨"java/lang/Object", "clone", "()Ljava/lang/Object;"⟩) (by decide +kernel)) (hts (.selects "[I" ⟨"[I", "clone", "()Ljava/lang/Object;"⟩ ⟨"java/lang/Object", "clone", "()Ljava/lang/Object;"⟩) (by decide +kernel)) (hG.1.1 _ (by decide +kernel)) hK hP hD hS hA 6 0 gtX6_K8_6 rfl (show s.vm.findClass "[I" = some (cy 0) from (hK.2 0 _ rfl).2) (kfit _ _ _) (Nat.le_of_ble_eq_true rfl) (Nat.le_of_ble_eq_true rfl) (Nat.le_of_ble_eq_true rfl) (Nat.le_of_ble_eq_true rfl) dX6_kept_63 (fun q6 H _ hP hD hS => ?_)
  replace hP : va_P D vwCl (wX6_K9 cy h thrown pairs teams water vats moulds crews posts loft nums q1 q2 vats q3 moulds q4 crews q5 posts q6 loft) H := hP
  replace hD : va_D A (wX6_K9 cy h thrown pairs teams water vats moulds crews posts loft nums q1 q2 vats q3 moulds q4 crews q5 posts q6 loft) := hD
  refine va_castA hx hb hown (hts (.classLink RX6 130 "[I") (by decide +kernel)) hP 13 gtX6_K9_13 (show s.vm.findClass "[I" = some (cy 0) from (hK.2 0 _ rfl).2) dX6_kept_66 ?_
  refine va_astA hx hb hK hG.1.2.2.2 hP hD hS 8 13 gtX6_K9_8 gtX6_K9_13 (show ¬ ((4 : Int32) < 0 ∨ 6 ≤ (4 : Int32).toNatClampNeg) from by decide) dX6_kept_69 (fun H locs hP hD hS => ?_)
  rw [cl_4] at hP hD
  replace hP : va_P D vwCl (wX6_K10 cy h thrown pairs teams water vats moulds crews posts loft nums q1 q2 vats q3 moulds q4 crews q5 posts q6 loft) H := hP
  replace hD : va_D A (wX6_K10 cy h thrown pairs teams water vats moulds crews posts loft nums q1 q2 vats q3 moulds q4 crews q5 posts q6 loft) := hD
  refine lv_dup hx hb dX6_kept_70 rfl ?_
  refine lv_iconst (v := 5) hx hb dX6_kept_71 (by decide) ?_
  refine lv_aload_n hx hb dX6_kept_72 rfl (lv_at hl 0 rfl) ?_
  refine va_get (D := D) (C := RX6) (T := TX6) (N := 10) hx hb hts hiX6 hown hK hP 0 gtX6_K10_0 rfl 9 (by decide) hf28 (fun _ h9 => h9) rfl dX6_kept_73 ?_
  refine va_clone (own := RX6) (ad := "[I") hx hb (hml.trans hl.1.symm) hown (hts (.methodLink RX6 131 ⟨"[I", "clone", "()Ljava/lang/Object;"⟩) (by decide +kernel)) (hts (.sameMethod "[I" "java/lang/Object" "clone" "()Ljava/lang/Object;") (by decide +kernel)) (hts (.native ⟨"java/lang/Object", "clone", "()Ljava/lang/Object;"⟩) (by decide +kernel)) (hts (.instanceMethod ⟨"java/lang/Object", "clone", "()Ljava/lang/Object;"⟩) (by decide +kernel)) (hts (.selects "[I" ⟨"[I", "clone", "()Ljava/lang/Object;"⟩ ⟨"java/lang/Object", "clone", "()Ljava/lang/Object;"⟩) (by decide +kernel)) (hG.1.1 _ (by decide +kernel)) hK hP hD hS hA 7 0 gtX6_K10_7 rfl (show s.vm.findClass "[I" = some (cy 0) from (hK.2 0 _ rfl).2) (kfit _ _ _) (Nat.le_of_ble_eq_true rfl) (Nat.le_of_ble_eq_true rfl) (Nat.le_of_ble_eq_true rfl) (Nat.le_of_ble_eq_true rfl) dX6_kept_76 (fun q7 H _ hP hD hS => ?_)
  replace hP : va_P D vwCl (wX6_K11 cy h thrown pairs teams water vats moulds crews posts loft nums q1 q2 vats q3 moulds q4 crews q5 posts q6 loft q7 nums) H := hP
  replace hD : va_D A (wX6_K11 cy h thrown pairs teams water vats moulds crews posts loft nums q1 q2 vats q3 moulds q4 crews q5 posts q6 loft q7 nums) := hD
  refine va_castA hx hb hown (hts (.classLink RX6 130 "[I") (by decide +kernel)) hP 14 gtX6_K11_14 (show s.vm.findClass "[I" = some (cy 0) from (hK.2 0 _ rfl).2) dX6_kept_79 ?_
  refine va_astA hx hb hK hG.1.2.2.2 hP hD hS 8 14 gtX6_K11_8 gtX6_K11_14 (show ¬ ((5 : Int32) < 0 ∨ 6 ≤ (5 : Int32).toNatClampNeg) from by decide) dX6_kept_82 (fun H locs hP hD hS => ?_)
  rw [cl_5] at hP hD
  replace hP : va_P D vwCl (wX6_K12 cy h thrown pairs teams water vats moulds crews posts loft nums q1 q2 vats q3 moulds q4 crews q5 posts q6 loft q7 nums) H := hP
  replace hD : va_D A (wX6_K12 cy h thrown pairs teams water vats moulds crews posts loft nums q1 q2 vats q3 moulds q4 crews q5 posts q6 loft q7 nums) := hD
  exact hQ _ _ _ _ _ _ (fun i => ([q1, q2, q3, q4, q5, q6, q7] : List Nat).getD i 0) dX6_kept_83 hP hD hS (Nat.le_of_ble_eq_true rfl) (Nat.le_of_ble_eq_true rfl)

abbrev rX6_bringBack : Room := { frames := 1, cells := 1, slots := 6, locals := 40 }
set_option maxHeartbeats 4000000 in
set_option maxRecDepth 100000 in
theorem kX6_bringBack (l : Launch) (D : va_G) (cy : Nat → ClassId) (sa : Nat → Nat) (h : Nat → Nat) (thrown : Int32) (pairs : Int32) (teams : Int32) (water : FN) (vats : FN) (moulds : FN) (crews : FN) (posts : FN) (loft : FN) (nums : FN) (k0 k1 k2 k3 k4 k5 k6 : Nat) (kvats : FN) (kmoulds : FN) (kcrews : FN) (kposts : FN) (kloft : FN) (knums : FN) : KV l D (tyW cy) sa yX6_bringBack wsX6_bringBack rX6_bringBack [.ref (h 0), .ref k0] (wX6_K12 cy h thrown pairs teams water vats moulds crews posts loft nums k0 k1 kvats k2 kmoulds k3 kcrews k4 kposts k5 kloft k6 knums) (fun _ => wX6_K12 cy h thrown pairs teams water kvats kmoulds kcrews kposts kloft knums k0 k1 kvats k2 kmoulds k3 kcrews k4 kposts k5 kloft k6 knums) 1 6 := by
  refine KV.of (cc := cX6_bringBack) (maxL := 4) (by decide +kernel) rfl (Nat.le_of_ble_eq_true rfl) ?_
  intro p e s m args below meth c A ls Q hE hQ
  obtain ⟨hx, hb, hml, hown, hts, hA, hP, hK, hD, hG, hl, hnm⟩ := hE
  replace hown : s.vm.findClass RX6 = some m.cls := hown
  have hiX6 : ∀ w ∈ u_ws RX6 TX6 10, w ∈ wsX6_bringBack := by decide +kernel
  have hf13 : (Cond.fieldLink RX6 13 "RagVatsModel" "vats" "[I").before args s = true := hts _ (by decide +kernel)
  have hf16 : (Cond.fieldLink RX6 16 "RagVatsModel" "moulds" "[I").before args s = true := hts _ (by decide +kernel)
  have hf19 : (Cond.fieldLink RX6 19 "RagVatsModel" "crews" "[I").before args s = true := hts _ (by decide +kernel)
  have hf22 : (Cond.fieldLink RX6 22 "RagVatsModel" "posts" "[I").before args s = true := hts _ (by decide +kernel)
  have hf25 : (Cond.fieldLink RX6 25 "RagVatsModel" "loft" "[I").before args s = true := hts _ (by decide +kernel)
  have hf28 : (Cond.fieldLink RX6 28 "RagVatsModel" "numbers" "[I").before args s = true := hts _ (by decide +kernel)
  replace hl : lv_has ls 4 [(0, .ref (h 0)), (1, .ref k0)] := hl
  have hS : va_S A s.heap s.heap [] := va_S.rf
  refine lv_bipush (v := 6) hx hb dX6_bringBack_0 (by decide) ?_
  refine va_newA (N' := 6) hx hb hown (hts (.classLink RX6 130 "[I") (by decide +kernel)) hG.1.2.2.2 hK hP hD hS hA (by decide) (by decide) (by decide) (Nat.le_of_ble_eq_true rfl) (Nat.le_of_ble_eq_true rfl) dX6_bringBack_2 (fun q1 H hP hD hS => ?_)
  replace hP : va_P D vwCl (wX6_K13 cy h thrown pairs teams water vats moulds crews posts loft nums k0 k1 kvats k2 kmoulds k3 kcrews k4 kposts k5 kloft k6 knums q1) H := hP
  replace hD : va_D A (wX6_K13 cy h thrown pairs teams water vats moulds crews posts loft nums k0 k1 kvats k2 kmoulds k3 kcrews k4 kposts k5 kloft k6 knums q1) := hD
  refine lv_dup hx hb dX6_bringBack_5 rfl ?_
  refine lv_iconst (v := 0) hx hb dX6_bringBack_6 (by decide) ?_
  refine lv_aload_n hx hb dX6_bringBack_7 rfl (lv_at hl 0 rfl) ?_
  refine va_get (D := D) (C := RX6) (T := TX6) (N := 10) hx hb hts hiX6 hown hK hP 0 gtX6_K13_0 rfl 4 (by decide) hf13 (fun _ h9 => h9) rfl dX6_bringBack_8 ?_
  refine va_astA hx hb hK hG.1.2.2.2 hP hD hS 15 2 gtX6_K13_15 gtX6_K13_2 (show ¬ ((0 : Int32) < 0 ∨ 6 ≤ (0 : Int32).toNatClampNeg) from by decide) dX6_bringBack_11 (fun H locs hP hD hS => ?_)
  rw [cl_0] at hP hD
  replace hP : va_P D vwCl (wX6_K14 cy h thrown pairs teams water vats moulds crews posts loft nums k0 k1 kvats k2 kmoulds k3 kcrews k4 kposts k5 kloft k6 knums q1) H := hP
  replace hD : va_D A (wX6_K14 cy h thrown pairs teams water vats moulds crews posts loft nums k0 k1 kvats k2 kmoulds k3 kcrews k4 kposts k5 kloft k6 knums q1) := hD
  refine lv_dup hx hb dX6_bringBack_12 rfl ?_
  refine lv_iconst (v := 1) hx hb dX6_bringBack_13 (by decide) ?_
  refine lv_aload_n hx hb dX6_bringBack_14 rfl (lv_at hl 0 rfl) ?_
  refine va_get (D := D) (C := RX6) (T := TX6) (N := 10) hx hb hts hiX6 hown hK hP 0 gtX6_K14_0 rfl 5 (by decide) hf16 (fun _ h9 => h9) rfl dX6_bringBack_15 ?_
  refine va_astA hx hb hK hG.1.2.2.2 hP hD hS 15 3 gtX6_K14_15 gtX6_K14_3 (show ¬ ((1 : Int32) < 0 ∨ 6 ≤ (1 : Int32).toNatClampNeg) from by decide) dX6_bringBack_18 (fun H locs hP hD hS => ?_)
  rw [cl_1] at hP hD
  replace hP : va_P D vwCl (wX6_K15 cy h thrown pairs teams water vats moulds crews posts loft nums k0 k1 kvats k2 kmoulds k3 kcrews k4 kposts k5 kloft k6 knums q1) H := hP
  replace hD : va_D A (wX6_K15 cy h thrown pairs teams water vats moulds crews posts loft nums k0 k1 kvats k2 kmoulds k3 kcrews k4 kposts k5 kloft k6 knums q1) := hD
  refine lv_dup hx hb dX6_bringBack_19 rfl ?_
  refine lv_iconst (v := 2) hx hb dX6_bringBack_20 (by decide) ?_
  refine lv_aload_n hx hb dX6_bringBack_21 rfl (lv_at hl 0 rfl) ?_
  refine va_get (D := D) (C := RX6) (T := TX6) (N := 10) hx hb hts hiX6 hown hK hP 0 gtX6_K15_0 rfl 6 (by decide) hf19 (fun _ h9 => h9) rfl dX6_bringBack_22 ?_
  refine va_astA hx hb hK hG.1.2.2.2 hP hD hS 15 4 gtX6_K15_15 gtX6_K15_4 (show ¬ ((2 : Int32) < 0 ∨ 6 ≤ (2 : Int32).toNatClampNeg) from by decide) dX6_bringBack_25 (fun H locs hP hD hS => ?_)
  rw [cl_2] at hP hD
  replace hP : va_P D vwCl (wX6_K16 cy h thrown pairs teams water vats moulds crews posts loft nums k0 k1 kvats k2 kmoulds k3 kcrews k4 kposts k5 kloft k6 knums q1) H := hP
  replace hD : va_D A (wX6_K16 cy h thrown pairs teams water vats moulds crews posts loft nums k0 k1 kvats k2 kmoulds k3 kcrews k4 kposts k5 kloft k6 knums q1) := hD
  refine lv_dup hx hb dX6_bringBack_26 rfl ?_
  refine lv_iconst (v := 3) hx hb dX6_bringBack_27 (by decide) ?_
  refine lv_aload_n hx hb dX6_bringBack_28 rfl (lv_at hl 0 rfl) ?_
  refine va_get (D := D) (C := RX6) (T := TX6) (N := 10) hx hb hts hiX6 hown hK hP 0 gtX6_K16_0 rfl 7 (by decide) hf22 (fun _ h9 => h9) rfl dX6_bringBack_29 ?_
  refine va_astA hx hb hK hG.1.2.2.2 hP hD hS 15 5 gtX6_K16_15 gtX6_K16_5 (show ¬ ((3 : Int32) < 0 ∨ 6 ≤ (3 : Int32).toNatClampNeg) from by decide) dX6_bringBack_32 (fun H locs hP hD hS => ?_)
  rw [cl_3] at hP hD
  replace hP : va_P D vwCl (wX6_K17 cy h thrown pairs teams water vats moulds crews posts loft nums k0 k1 kvats k2 kmoulds k3 kcrews k4 kposts k5 kloft k6 knums q1) H := hP
  replace hD : va_D A (wX6_K17 cy h thrown pairs teams water vats moulds crews posts loft nums k0 k1 kvats k2 kmoulds k3 kcrews k4 kposts k5 kloft k6 knums q1) := hD
  refine lv_dup hx hb dX6_bringBack_33 rfl ?_
  refine lv_iconst (v := 4) hx hb dX6_bringBack_34 (by decide) ?_
  refine lv_aload_n hx hb dX6_bringBack_35 rfl (lv_at hl 0 rfl) ?_
  refine va_get (D := D) (C := RX6) (T := TX6) (N := 10) hx hb hts hiX6 hown hK hP 0 gtX6_K17_0 rfl 8 (by decide) hf25 (fun _ h9 => h9) rfl dX6_bringBack_36 ?_
  refine va_astA hx hb hK hG.1.2.2.2 hP hD hS 15 6 gtX6_K17_15 gtX6_K17_6 (show ¬ ((4 : Int32) < 0 ∨ 6 ≤ (4 : Int32).toNatClampNeg) from by decide) dX6_bringBack_39 (fun H locs hP hD hS => ?_)
  rw [cl_4] at hP hD
  replace hP : va_P D vwCl (wX6_K18 cy h thrown pairs teams water vats moulds crews posts loft nums k0 k1 kvats k2 kmoulds k3 kcrews k4 kposts k5 kloft k6 knums q1) H := hP
  replace hD : va_D A (wX6_K18 cy h thrown pairs teams water vats moulds crews posts loft nums k0 k1 kvats k2 kmoulds k3 kcrews k4 kposts k5 kloft k6 knums q1) := hD
  refine lv_dup hx hb dX6_bringBack_40 rfl ?_
  refine lv_iconst (v := 5) hx hb dX6_bringBack_41 (by decide) ?_
  refine lv_aload_n hx hb dX6_bringBack_42 rfl (lv_at hl 0 rfl) ?_
  refine va_get (D := D) (C := RX6) (T := TX6) (N := 10) hx hb hts hiX6 hown hK hP 0 gtX6_K18_0 rfl 9 (by decide) hf28 (fun _ h9 => h9) rfl dX6_bringBack_43 ?_
  refine va_astA hx hb hK hG.1.2.2.2 hP hD hS 15 7 gtX6_K18_15 gtX6_K18_7 (show ¬ ((5 : Int32) < 0 ∨ 6 ≤ (5 : Int32).toNatClampNeg) from by decide) dX6_bringBack_46 (fun H locs hP hD hS => ?_)
  rw [cl_5] at hP hD
  replace hP : va_P D vwCl (wX6_K19 cy h thrown pairs teams water vats moulds crews posts loft nums k0 k1 kvats k2 kmoulds k3 kcrews k4 kposts k5 kloft k6 knums q1) H := hP
  replace hD : va_D A (wX6_K19 cy h thrown pairs teams water vats moulds crews posts loft nums k0 k1 kvats k2 kmoulds k3 kcrews k4 kposts k5 kloft k6 knums q1) := hD
  refine lv_astore_n (lv' := [(2, .ref q1), (0, .ref (h 0)), (1, .ref k0)]) hx hb dX6_bringBack_47 rfl hl (by decide) rfl (fun ls hl => ?_)
  refine lv_iconst (v := 0) hx hb dX6_bringBack_48 (by decide) ?_
  refine lv_istore_n (lv' := [(3, .int 0), (2, .ref q1), (0, .ref (h 0)), (1, .ref k0)]) hx hb dX6_bringBack_49 rfl hl (by decide) rfl (fun ls hl => ?_)
  refine lv_iload_n hx hb dX6_bringBack_50 rfl (lv_at hl 0 rfl) ?_
  refine lv_aload_n hx hb dX6_bringBack_51 rfl (lv_at hl 1 rfl) ?_
  refine va_alen (v := 6) hx hb hK hP 15 1 gtX6_K19_15 rfl rfl dX6_bringBack_52 ?_
  refine lv_icmp_ge (tgt := 77) hx hb dX6_bringBack_53 (by decide) (fun c9 => absurd c9 (by decide)) (fun _ => ?_)
  refine lv_aload_n hx hb dX6_bringBack_56 rfl (lv_at hl 3 rfl) ?_
  refine lv_iload_n hx hb dX6_bringBack_57 rfl (lv_at hl 0 rfl) ?_
  refine va_aldA (v := .ref (k1)) hx hb hK hP 8 gtX6_K19_8 (show ¬ ((0 : Int32) < 0 ∨ 6 ≤ (0 : Int32).toNatClampNeg) from by decide) (by rw [cl_0]; rfl) dX6_bringBack_58 ?_
  refine lv_iconst (v := 0) hx hb dX6_bringBack_59 (by decide) ?_
  refine lv_aload_n hx hb dX6_bringBack_60 rfl (lv_at hl 1 rfl) ?_
  refine lv_iload_n hx hb dX6_bringBack_61 rfl (lv_at hl 0 rfl) ?_
  refine va_aldA (v := .ref (h 2)) hx hb hK hP 15 gtX6_K19_15 (show ¬ ((0 : Int32) < 0 ∨ 6 ≤ (0 : Int32).toNatClampNeg) from by decide) (by rw [cl_0]; rfl) dX6_bringBack_62 ?_
  refine lv_iconst (v := 0) hx hb dX6_bringBack_63 (by decide) ?_
  refine lv_aload_n hx hb dX6_bringBack_64 rfl (lv_at hl 1 rfl) ?_
  refine lv_iload_n hx hb dX6_bringBack_65 rfl (lv_at hl 0 rfl) ?_
  refine va_aldA (v := .ref (h 2)) hx hb hK hP 15 gtX6_K19_15 (show ¬ ((0 : Int32) < 0 ∨ 6 ≤ (0 : Int32).toNatClampNeg) from by decide) (by rw [cl_0]; rfl) dX6_bringBack_66 ?_
  refine va_alen (v := 12) hx hb hK hP 2 0 gtX6_K19_2 rfl rfl dX6_bringBack_67 ?_
  refine va_copyi (own := RX6) hx hb (hml.trans hl.1.symm) hown (hts (.methodLink RX6 109 arraycopyName) (by decide +kernel)) (hts (.native arraycopyName) (by decide +kernel)) (hts (.static arraycopyName) (by decide +kernel)) (hts (.initialized "java/lang/System") (by decide +kernel)) hK hP hD hS 9 2 0 0 gtX6_K19_9 gtX6_K19_2 rfl rfl rfl (by decide) (by decide) (by decide) (by decide) (by decide) (fun _ _ => rfl) (Nat.le_of_ble_eq_true rfl) (by decide) dX6_bringBack_68 (fun H locs hP hD hS => ?_)
  replace hP := kcopy hP rfl
  replace hD := kcopyD (e2 := .inl (cy 0, 12, .inl kvats)) hD
  rw [stX6_K19_2] at hP hD
  refine lv_iinc (v := 1) (lv' := [(3, .int 1), (2, .ref q1), (0, .ref (h 0)), (1, .ref k0)]) hx hb dX6_bringBack_71 hl (k := 0) rfl (by decide) (by decide) rfl (fun ls hl => ?_)
  refine lv_goto (tgt := 50) hx hb dX6_bringBack_74 (by decide) ?_
  refine lv_iload_n hx hb dX6_bringBack_50 rfl (lv_at hl 0 rfl) ?_
  refine lv_aload_n hx hb dX6_bringBack_51 rfl (lv_at hl 1 rfl) ?_
  refine va_alen (v := 6) hx hb hK hP 15 1 gtX6_K19_15 rfl rfl dX6_bringBack_52 ?_
  refine lv_icmp_ge (tgt := 77) hx hb dX6_bringBack_53 (by decide) (fun c9 => absurd c9 (by decide)) (fun _ => ?_)
  refine lv_aload_n hx hb dX6_bringBack_56 rfl (lv_at hl 3 rfl) ?_
  refine lv_iload_n hx hb dX6_bringBack_57 rfl (lv_at hl 0 rfl) ?_
  refine va_aldA (v := .ref (k2)) hx hb hK hP 8 gtX6_K19_8 (show ¬ ((1 : Int32) < 0 ∨ 6 ≤ (1 : Int32).toNatClampNeg) from by decide) (by rw [cl_1]; rfl) dX6_bringBack_58 ?_
  refine lv_iconst (v := 0) hx hb dX6_bringBack_59 (by decide) ?_
  refine lv_aload_n hx hb dX6_bringBack_60 rfl (lv_at hl 1 rfl) ?_
  refine lv_iload_n hx hb dX6_bringBack_61 rfl (lv_at hl 0 rfl) ?_
  refine va_aldA (v := .ref (h 3)) hx hb hK hP 15 gtX6_K19_15 (show ¬ ((1 : Int32) < 0 ∨ 6 ≤ (1 : Int32).toNatClampNeg) from by decide) (by rw [cl_1]; rfl) dX6_bringBack_62 ?_
  refine lv_iconst (v := 0) hx hb dX6_bringBack_63 (by decide) ?_
  refine lv_aload_n hx hb dX6_bringBack_64 rfl (lv_at hl 1 rfl) ?_
  refine lv_iload_n hx hb dX6_bringBack_65 rfl (lv_at hl 0 rfl) ?_
  refine va_aldA (v := .ref (h 3)) hx hb hK hP 15 gtX6_K19_15 (show ¬ ((1 : Int32) < 0 ∨ 6 ≤ (1 : Int32).toNatClampNeg) from by decide) (by rw [cl_1]; rfl) dX6_bringBack_66 ?_
  refine va_alen (v := 15) hx hb hK hP 3 0 gtX6_K19_3 rfl rfl dX6_bringBack_67 ?_
  refine va_copyi (own := RX6) hx hb (hml.trans hl.1.symm) hown (hts (.methodLink RX6 109 arraycopyName) (by decide +kernel)) (hts (.native arraycopyName) (by decide +kernel)) (hts (.static arraycopyName) (by decide +kernel)) (hts (.initialized "java/lang/System") (by decide +kernel)) hK hP hD hS 10 3 0 0 gtX6_K19_10 gtX6_K19_3 rfl rfl rfl (by decide) (by decide) (by decide) (by decide) (by decide) (fun _ _ => rfl) (Nat.le_of_ble_eq_true rfl) (by decide) dX6_bringBack_68 (fun H locs hP hD hS => ?_)
  replace hP := kcopy hP rfl
  replace hD := kcopyD (e2 := .inl (cy 0, 15, .inl kmoulds)) hD
  rw [stX6_K19_3] at hP hD
  refine lv_iinc (v := 2) (lv' := [(3, .int 2), (2, .ref q1), (0, .ref (h 0)), (1, .ref k0)]) hx hb dX6_bringBack_71 hl (k := 0) rfl (by decide) (by decide) rfl (fun ls hl => ?_)
  refine lv_goto (tgt := 50) hx hb dX6_bringBack_74 (by decide) ?_
  refine lv_iload_n hx hb dX6_bringBack_50 rfl (lv_at hl 0 rfl) ?_
  refine lv_aload_n hx hb dX6_bringBack_51 rfl (lv_at hl 1 rfl) ?_
  refine va_alen (v := 6) hx hb hK hP 15 1 gtX6_K19_15 rfl rfl dX6_bringBack_52 ?_
  refine lv_icmp_ge (tgt := 77) hx hb dX6_bringBack_53 (by decide) (fun c9 => absurd c9 (by decide)) (fun _ => ?_)
  refine lv_aload_n hx hb dX6_bringBack_56 rfl (lv_at hl 3 rfl) ?_
  refine lv_iload_n hx hb dX6_bringBack_57 rfl (lv_at hl 0 rfl) ?_
  refine va_aldA (v := .ref (k3)) hx hb hK hP 8 gtX6_K19_8 (show ¬ ((2 : Int32) < 0 ∨ 6 ≤ (2 : Int32).toNatClampNeg) from by decide) (by rw [cl_2]; rfl) dX6_bringBack_58 ?_
  refine lv_iconst (v := 0) hx hb dX6_bringBack_59 (by decide) ?_
  refine lv_aload_n hx hb dX6_bringBack_60 rfl (lv_at hl 1 rfl) ?_
  refine lv_iload_n hx hb dX6_bringBack_61 rfl (lv_at hl 0 rfl) ?_
  refine va_aldA (v := .ref (h 4)) hx hb hK hP 15 gtX6_K19_15 (show ¬ ((2 : Int32) < 0 ∨ 6 ≤ (2 : Int32).toNatClampNeg) from by decide) (by rw [cl_2]; rfl) dX6_bringBack_62 ?_
  refine lv_iconst (v := 0) hx hb dX6_bringBack_63 (by decide) ?_
  refine lv_aload_n hx hb dX6_bringBack_64 rfl (lv_at hl 1 rfl) ?_
  refine lv_iload_n hx hb dX6_bringBack_65 rfl (lv_at hl 0 rfl) ?_
  refine va_aldA (v := .ref (h 4)) hx hb hK hP 15 gtX6_K19_15 (show ¬ ((2 : Int32) < 0 ∨ 6 ≤ (2 : Int32).toNatClampNeg) from by decide) (by rw [cl_2]; rfl) dX6_bringBack_66 ?_
  refine va_alen (v := 9) hx hb hK hP 4 0 gtX6_K19_4 rfl rfl dX6_bringBack_67 ?_
  refine va_copyi (own := RX6) hx hb (hml.trans hl.1.symm) hown (hts (.methodLink RX6 109 arraycopyName) (by decide +kernel)) (hts (.native arraycopyName) (by decide +kernel)) (hts (.static arraycopyName) (by decide +kernel)) (hts (.initialized "java/lang/System") (by decide +kernel)) hK hP hD hS 11 4 0 0 gtX6_K19_11 gtX6_K19_4 rfl rfl rfl (by decide) (by decide) (by decide) (by decide) (by decide) (fun _ _ => rfl) (Nat.le_of_ble_eq_true rfl) (by decide) dX6_bringBack_68 (fun H locs hP hD hS => ?_)
  replace hP := kcopy hP rfl
  replace hD := kcopyD (e2 := .inl (cy 0, 9, .inl kcrews)) hD
  rw [stX6_K19_4] at hP hD
  refine lv_iinc (v := 3) (lv' := [(3, .int 3), (2, .ref q1), (0, .ref (h 0)), (1, .ref k0)]) hx hb dX6_bringBack_71 hl (k := 0) rfl (by decide) (by decide) rfl (fun ls hl => ?_)
  refine lv_goto (tgt := 50) hx hb dX6_bringBack_74 (by decide) ?_
  refine lv_iload_n hx hb dX6_bringBack_50 rfl (lv_at hl 0 rfl) ?_
  refine lv_aload_n hx hb dX6_bringBack_51 rfl (lv_at hl 1 rfl) ?_
  refine va_alen (v := 6) hx hb hK hP 15 1 gtX6_K19_15 rfl rfl dX6_bringBack_52 ?_
  refine lv_icmp_ge (tgt := 77) hx hb dX6_bringBack_53 (by decide) (fun c9 => absurd c9 (by decide)) (fun _ => ?_)
  refine lv_aload_n hx hb dX6_bringBack_56 rfl (lv_at hl 3 rfl) ?_
  refine lv_iload_n hx hb dX6_bringBack_57 rfl (lv_at hl 0 rfl) ?_
  refine va_aldA (v := .ref (k4)) hx hb hK hP 8 gtX6_K19_8 (show ¬ ((3 : Int32) < 0 ∨ 6 ≤ (3 : Int32).toNatClampNeg) from by decide) (by rw [cl_3]; rfl) dX6_bringBack_58 ?_
  refine lv_iconst (v := 0) hx hb dX6_bringBack_59 (by decide) ?_
  refine lv_aload_n hx hb dX6_bringBack_60 rfl (lv_at hl 1 rfl) ?_
  refine lv_iload_n hx hb dX6_bringBack_61 rfl (lv_at hl 0 rfl) ?_
  refine va_aldA (v := .ref (h 5)) hx hb hK hP 15 gtX6_K19_15 (show ¬ ((3 : Int32) < 0 ∨ 6 ≤ (3 : Int32).toNatClampNeg) from by decide) (by rw [cl_3]; rfl) dX6_bringBack_62 ?_
  refine lv_iconst (v := 0) hx hb dX6_bringBack_63 (by decide) ?_
  refine lv_aload_n hx hb dX6_bringBack_64 rfl (lv_at hl 1 rfl) ?_
  refine lv_iload_n hx hb dX6_bringBack_65 rfl (lv_at hl 0 rfl) ?_
  refine va_aldA (v := .ref (h 5)) hx hb hK hP 15 gtX6_K19_15 (show ¬ ((3 : Int32) < 0 ∨ 6 ≤ (3 : Int32).toNatClampNeg) from by decide) (by rw [cl_3]; rfl) dX6_bringBack_66 ?_
  refine va_alen (v := 270) hx hb hK hP 5 0 gtX6_K19_5 rfl rfl dX6_bringBack_67 ?_
  refine va_copyi (own := RX6) hx hb (hml.trans hl.1.symm) hown (hts (.methodLink RX6 109 arraycopyName) (by decide +kernel)) (hts (.native arraycopyName) (by decide +kernel)) (hts (.static arraycopyName) (by decide +kernel)) (hts (.initialized "java/lang/System") (by decide +kernel)) hK hP hD hS 12 5 0 0 gtX6_K19_12 gtX6_K19_5 rfl rfl rfl (by decide) (by decide) (by decide) (by decide) (by decide) (fun _ _ => rfl) (Nat.le_of_ble_eq_true rfl) (by decide) dX6_bringBack_68 (fun H locs hP hD hS => ?_)
  replace hP := kcopy hP rfl
  replace hD := kcopyD (e2 := .inl (cy 0, 270, .inl kposts)) hD
  rw [stX6_K19_5] at hP hD
  refine lv_iinc (v := 4) (lv' := [(3, .int 4), (2, .ref q1), (0, .ref (h 0)), (1, .ref k0)]) hx hb dX6_bringBack_71 hl (k := 0) rfl (by decide) (by decide) rfl (fun ls hl => ?_)
  refine lv_goto (tgt := 50) hx hb dX6_bringBack_74 (by decide) ?_
  refine lv_iload_n hx hb dX6_bringBack_50 rfl (lv_at hl 0 rfl) ?_
  refine lv_aload_n hx hb dX6_bringBack_51 rfl (lv_at hl 1 rfl) ?_
  refine va_alen (v := 6) hx hb hK hP 15 1 gtX6_K19_15 rfl rfl dX6_bringBack_52 ?_
  refine lv_icmp_ge (tgt := 77) hx hb dX6_bringBack_53 (by decide) (fun c9 => absurd c9 (by decide)) (fun _ => ?_)
  refine lv_aload_n hx hb dX6_bringBack_56 rfl (lv_at hl 3 rfl) ?_
  refine lv_iload_n hx hb dX6_bringBack_57 rfl (lv_at hl 0 rfl) ?_
  refine va_aldA (v := .ref (k5)) hx hb hK hP 8 gtX6_K19_8 (show ¬ ((4 : Int32) < 0 ∨ 6 ≤ (4 : Int32).toNatClampNeg) from by decide) (by rw [cl_4]; rfl) dX6_bringBack_58 ?_
  refine lv_iconst (v := 0) hx hb dX6_bringBack_59 (by decide) ?_
  refine lv_aload_n hx hb dX6_bringBack_60 rfl (lv_at hl 1 rfl) ?_
  refine lv_iload_n hx hb dX6_bringBack_61 rfl (lv_at hl 0 rfl) ?_
  refine va_aldA (v := .ref (h 6)) hx hb hK hP 15 gtX6_K19_15 (show ¬ ((4 : Int32) < 0 ∨ 6 ≤ (4 : Int32).toNatClampNeg) from by decide) (by rw [cl_4]; rfl) dX6_bringBack_62 ?_
  refine lv_iconst (v := 0) hx hb dX6_bringBack_63 (by decide) ?_
  refine lv_aload_n hx hb dX6_bringBack_64 rfl (lv_at hl 1 rfl) ?_
  refine lv_iload_n hx hb dX6_bringBack_65 rfl (lv_at hl 0 rfl) ?_
  refine va_aldA (v := .ref (h 6)) hx hb hK hP 15 gtX6_K19_15 (show ¬ ((4 : Int32) < 0 ∨ 6 ≤ (4 : Int32).toNatClampNeg) from by decide) (by rw [cl_4]; rfl) dX6_bringBack_66 ?_
  refine va_alen (v := 30) hx hb hK hP 6 0 gtX6_K19_6 rfl rfl dX6_bringBack_67 ?_
  refine va_copyi (own := RX6) hx hb (hml.trans hl.1.symm) hown (hts (.methodLink RX6 109 arraycopyName) (by decide +kernel)) (hts (.native arraycopyName) (by decide +kernel)) (hts (.static arraycopyName) (by decide +kernel)) (hts (.initialized "java/lang/System") (by decide +kernel)) hK hP hD hS 13 6 0 0 gtX6_K19_13 gtX6_K19_6 rfl rfl rfl (by decide) (by decide) (by decide) (by decide) (by decide) (fun _ _ => rfl) (Nat.le_of_ble_eq_true rfl) (by decide) dX6_bringBack_68 (fun H locs hP hD hS => ?_)
  replace hP := kcopy hP rfl
  replace hD := kcopyD (e2 := .inl (cy 0, 30, .inl kloft)) hD
  rw [stX6_K19_6] at hP hD
  refine lv_iinc (v := 5) (lv' := [(3, .int 5), (2, .ref q1), (0, .ref (h 0)), (1, .ref k0)]) hx hb dX6_bringBack_71 hl (k := 0) rfl (by decide) (by decide) rfl (fun ls hl => ?_)
  refine lv_goto (tgt := 50) hx hb dX6_bringBack_74 (by decide) ?_
  refine lv_iload_n hx hb dX6_bringBack_50 rfl (lv_at hl 0 rfl) ?_
  refine lv_aload_n hx hb dX6_bringBack_51 rfl (lv_at hl 1 rfl) ?_
  refine va_alen (v := 6) hx hb hK hP 15 1 gtX6_K19_15 rfl rfl dX6_bringBack_52 ?_
  refine lv_icmp_ge (tgt := 77) hx hb dX6_bringBack_53 (by decide) (fun c9 => absurd c9 (by decide)) (fun _ => ?_)
  refine lv_aload_n hx hb dX6_bringBack_56 rfl (lv_at hl 3 rfl) ?_
  refine lv_iload_n hx hb dX6_bringBack_57 rfl (lv_at hl 0 rfl) ?_
  refine va_aldA (v := .ref (k6)) hx hb hK hP 8 gtX6_K19_8 (show ¬ ((5 : Int32) < 0 ∨ 6 ≤ (5 : Int32).toNatClampNeg) from by decide) (by rw [cl_5]; rfl) dX6_bringBack_58 ?_
  refine lv_iconst (v := 0) hx hb dX6_bringBack_59 (by decide) ?_
  refine lv_aload_n hx hb dX6_bringBack_60 rfl (lv_at hl 1 rfl) ?_
  refine lv_iload_n hx hb dX6_bringBack_61 rfl (lv_at hl 0 rfl) ?_
  refine va_aldA (v := .ref (h 7)) hx hb hK hP 15 gtX6_K19_15 (show ¬ ((5 : Int32) < 0 ∨ 6 ≤ (5 : Int32).toNatClampNeg) from by decide) (by rw [cl_5]; rfl) dX6_bringBack_62 ?_
  refine lv_iconst (v := 0) hx hb dX6_bringBack_63 (by decide) ?_
  refine lv_aload_n hx hb dX6_bringBack_64 rfl (lv_at hl 1 rfl) ?_
  refine lv_iload_n hx hb dX6_bringBack_65 rfl (lv_at hl 0 rfl) ?_
  refine va_aldA (v := .ref (h 7)) hx hb hK hP 15 gtX6_K19_15 (show ¬ ((5 : Int32) < 0 ∨ 6 ≤ (5 : Int32).toNatClampNeg) from by decide) (by rw [cl_5]; rfl) dX6_bringBack_66 ?_
  refine va_alen (v := 9) hx hb hK hP 7 0 gtX6_K19_7 rfl rfl dX6_bringBack_67 ?_
  refine va_copyi (own := RX6) hx hb (hml.trans hl.1.symm) hown (hts (.methodLink RX6 109 arraycopyName) (by decide +kernel)) (hts (.native arraycopyName) (by decide +kernel)) (hts (.static arraycopyName) (by decide +kernel)) (hts (.initialized "java/lang/System") (by decide +kernel)) hK hP hD hS 14 7 0 0 gtX6_K19_14 gtX6_K19_7 rfl rfl rfl (by decide) (by decide) (by decide) (by decide) (by decide) (fun _ _ => rfl) (Nat.le_of_ble_eq_true rfl) (by decide) dX6_bringBack_68 (fun H locs hP hD hS => ?_)
  replace hP := kcopy hP rfl
  replace hD := kcopyD (e2 := .inl (cy 0, 9, .inl knums)) hD
  rw [stX6_K19_7] at hP hD
  refine lv_iinc (v := 6) (lv' := [(3, .int 6), (2, .ref q1), (0, .ref (h 0)), (1, .ref k0)]) hx hb dX6_bringBack_71 hl (k := 0) rfl (by decide) (by decide) rfl (fun ls hl => ?_)
  refine lv_goto (tgt := 50) hx hb dX6_bringBack_74 (by decide) ?_
  refine lv_iload_n hx hb dX6_bringBack_50 rfl (lv_at hl 0 rfl) ?_
  refine lv_aload_n hx hb dX6_bringBack_51 rfl (lv_at hl 1 rfl) ?_
  refine va_alen (v := 6) hx hb hK hP 15 1 gtX6_K19_15 rfl rfl dX6_bringBack_52 ?_
  refine lv_icmp_ge (tgt := 77) hx hb dX6_bringBack_53 (by decide) (fun _ => ?_) (fun c9 => absurd c9 (by decide))
  replace hP := hP.sub [0, 1, 2, 3, 4, 5, 6, 7, 8, 9, 10, 11, 12, 13, 14] dqX6_K19
  replace hD := hD.sub [0, 1, 2, 3, 4, 5, 6, 7, 8, 9, 10, 11, 12, 13, 14] dn15 dmX6_K19
  exact hQ _ _ _ _ _ _ (fun _ => 0) dX6_bringBack_77 hP hD hS (Nat.le_of_ble_eq_true rfl) (Nat.le_of_ble_eq_true rfl)

def fX6_ripe_L42 (teams : Int32) (water : FN) (crews : FN) (a1 : Int32) (a2 : Int32) : Nat → Int32 → FN → FN → FN → FN → FN → Int32 → FN → FN → FN → FN → FN → FN → Option (Int32 × Int32 × FN × FN × FN × FN × FN × FN)
  | 0, _, _, _, _, _, _, _, _, _, _, _, _, _ => none
  | k + 1, thrown_42, vats_42, moulds_42, posts_42, loft_42, nums_42, x4_42, r9_42, r10_42, r11_42, r12_42, r13_42, r14_42 => if 60 < x4_42 then if x4_42 ≤ 60 then some (x4_42, thrown_42, r9_42, r10_42, r11_42, r12_42, r13_42, r14_42) else some ((-1), thrown_42, r9_42, r10_42, r11_42, r12_42, r13_42, r14_42) else (fX6_va vats_42 a1 1).bind fun z9 => if a2 ≤ z9 then if x4_42 ≤ 60 then some (x4_42, thrown_42, r9_42, r10_42, r11_42, r12_42, r13_42, r14_42) else some ((-1), thrown_42, r9_42, r10_42, r11_42, r12_42, r13_42, r14_42) else (fX6_dayOn teams water vats_42 moulds_42 crews posts_42 loft_42 nums_42).bind fun z13 => fX6_ripe_L42 teams water crews a1 a2 k thrown_42 z13.2.1 z13.2.2.1 z13.2.2.2.1 z13.2.2.2.2.1 z13.2.2.2.2.2 (x4_42 + 1) r9_42 r10_42 r11_42 r12_42 r13_42 r14_42
def fX6_ripe (teams : Int32) (water : FN) (vats : FN) (moulds : FN) (crews : FN) (posts : FN) (loft : FN) (nums : FN) (a1 : Int32) (a2 : Int32) : Option (Int32 × Int32 × FN × FN × FN × FN × FN × FN) := (fX6_isVat a1).bind fun z1 => if z1 = 0 then (fX6_fail 1).bind fun z15 => some (z15.1, z15.2, vats, moulds, crews, posts, loft, nums) else (fX6_isIn a2 1 99).bind fun z3 => if z3 = 0 then (fX6_fail 2).bind fun z14 => some (z14.1, z14.2, vats, moulds, crews, posts, loft, nums) else fX6_ripe_L42 teams water crews a1 a2 62 0 vats moulds posts loft nums 0 vats moulds crews posts loft nums
abbrev rX6_ripe : Room := { frames := 6, cells := 256, slots := 1101, locals := 135 }
set_option maxHeartbeats 4000000 in
set_option maxRecDepth 100000 in
theorem kX6_ripe (l : Launch) (D : va_G) (cy : Nat → ClassId) (sa : Nat → Nat) (h : Nat → Nat) (thrown : Int32) (pairs : Int32) (teams : Int32) (water : FN) (vats : FN) (moulds : FN) (crews : FN) (posts : FN) (loft : FN) (nums : FN) (a1 : Int32) (a2 : Int32) (z : Int32 × Int32 × FN × FN × FN × FN × FN × FN) (hF : fX6_ripe teams water vats moulds crews posts loft nums a1 a2 = some z) : KI l D (tyW cy) sa yX6_ripe wsX6_ripe rX6_ripe [.ref (h 0), .int a1, .int a2] (wX6 cy h thrown pairs teams water vats moulds crews posts loft nums) z.1 (fun _ => wX6 cy h z.2.1 pairs teams water z.2.2.1 z.2.2.2.1 z.2.2.2.2.1 z.2.2.2.2.2.1 z.2.2.2.2.2.2.1 z.2.2.2.2.2.2.2) 256 1101 := by
  refine KI.of (cc := cX6_ripe) (maxL := 5) (by decide +kernel) rfl (Nat.le_of_ble_eq_true rfl) ?_
  intro p e s m args below meth c A ls Q hE hQ
  obtain ⟨hx, hb, hml, hown, hts, hA, hP, hK, hD, hG, hl, hnm⟩ := hE
  replace hown : s.vm.findClass RX6 = some m.cls := hown
  have hiX6 : ∀ w ∈ u_ws RX6 TX6 10, w ∈ wsX6_ripe := by decide +kernel
  have hf31 : (Cond.fieldLink RX6 31 "RagVatsModel" "thrown" "I").before args s = true := hts _ (by decide +kernel)
  replace hl : lv_has ls 5 [(0, .ref (h 0)), (1, .int a1), (2, .int a2)] := hl
  have hS : va_S A s.heap s.heap [] := va_S.rf
  have L42 : ∀ (k : Nat) (thrown_42 : Int32) (vats_42 : FN) (moulds_42 : FN) (posts_42 : FN) (loft_42 : FN) (nums_42 : FN) (x4_42 : Int32) (r9_42 : FN) (r10_42 : FN) (r11_42 : FN) (r12_42 : FN) (r13_42 : FN) (r14_42 : FN) (q8_42 : Nat) (q9_42 : Nat) (q10_42 : Nat) (q11_42 : Nat) (q12_42 : Nat) (q13_42 : Nat) (q14_42 : Nat), fX6_ripe_L42 teams water crews a1 a2 k thrown_42 vats_42 moulds_42 posts_42 loft_42 nums_42 x4_42 r9_42 r10_42 r11_42 r12_42 r13_42 r14_42 = some z → ∀ (cu su : Nat), cu + 4 * k ≤ 255 → su + 12 * k ≤ 1095 → ∀ (H : Heap) (locs : List Loc) (ls : Array Slot), va_P D vwCl (wX6_K12 cy h thrown_42 pairs teams water vats_42 moulds_42 crews posts_42 loft_42 nums_42 q8_42 q9_42 r9_42 q10_42 r10_42 q11_42 r11_42 q12_42 r12_42 q13_42 r13_42 q14_42 r14_42) H → va_D A (wX6_K12 cy h thrown_42 pairs teams water vats_42 moulds_42 crews posts_42 loft_42 nums_42 q8_42 q9_42 r9_42 q10_42 r10_42 q11_42 r11_42 q12_42 r12_42 q13_42 r13_42 q14_42 r14_42) → va_S A s.heap H locs → lv_has ls 5 [(0, .ref (h 0)), (1, .int a1), (2, .int a2), (3, .ref q8_42), (4, .int x4_42)] → W p l e rX6_ripe s m args below meth c H locs cu su Q (F0 m 42 ls []) := by
    intro k
    induction k with
    | zero =>
      intro thrown_42 vats_42 moulds_42 posts_42 loft_42 nums_42 x4_42 r9_42 r10_42 r11_42 r12_42 r13_42 r14_42 q8_42 q9_42 q10_42 q11_42 q12_42 q13_42 q14_42 hF
      rw [fX6_ripe_L42] at hF
      cases hF
    | succ k ih =>
      intro thrown_42 vats_42 moulds_42 posts_42 loft_42 nums_42 x4_42 r9_42 r10_42 r11_42 r12_42 r13_42 r14_42 q8_42 q9_42 q10_42 q11_42 q12_42 q13_42 q14_42 hF cu su hcu hsu H locs ls hP hD hS hl
      rw [fX6_ripe_L42] at hF
      refine lv_iload hx hb dX6_ripe_42 (lv_at hl 4 rfl) ?_
      refine lv_bipush (v := 60) hx hb dX6_ripe_44 (by decide) ?_
      refine lv_icmp_gt (tgt := 70) hx hb dX6_ripe_46 (by decide) (fun c_6 => ?_) (fun c_6 => ?_)
      · replace hF := if_t hF c_6
        refine lv_aload_n hx hb dX6_ripe_70 rfl (lv_at hl 0 rfl) ?_
        refine lv_aload_n hx hb dX6_ripe_71 rfl (lv_at hl 3 rfl) ?_
        refine kwVE (kV (As := [.ref q8_42]) ⟨hx, hb, hml, hown, hts⟩ (kX6_bringBack l D cy sa h thrown_42 pairs teams water vats_42 moulds_42 crews posts_42 loft_42 nums_42 q8_42 q9_42 q10_42 q11_42 q12_42 q13_42 q14_42 r9_42 r10_42 r11_42 r12_42 r13_42 r14_42 _) (cwV 1 hts gX6_ripe_X6_bringBack rfl rfl rfl (by decide +kernel) ⟨Nat.le_of_ble_eq_true rfl, Nat.le_of_ble_eq_true rfl⟩) hK hP hD hS hA hG [0, 1, 2, 3, 4, 5, 6, 7, 8, 9, 10, 11, 12, 13, 14] idhX6_K12 idnX6_K12 gtX6_K12_0 rfl rfl rfl hl.1 [] rfl (Nat.le_of_ble_eq_true rfl) dX6_ripe_72 ⟨(by show _ ≤ (256 : Nat); omega), (by show _ ≤ (1101 : Nat); omega)⟩) hP hD hS hA [0, 1, 2, 3, 4, 5, 6, 7, 8, 9, 10, 11, 12, 13, 14] idhX6_K12 idmX6_K12 idkX6_K12 (fun H locs hP hD hS => ?_)
        refine lv_iload hx hb dX6_ripe_75 (lv_at hl 4 rfl) ?_
        refine lv_bipush (v := 60) hx hb dX6_ripe_77 (by decide) ?_
        refine lv_icmp_le (tgt := 86) hx hb dX6_ripe_79 (by decide) (fun c_8 => ?_) (fun c_8 => ?_)
        · replace hF := if_t hF c_8
          refine lv_iload hx hb dX6_ripe_86 (lv_at hl 4 rfl) ?_
          replace hP := hP.sub [0, 1, 2, 3, 4, 5, 6, 7] drX6_K12
          replace hD := hD.sub [0, 1, 2, 3, 4, 5, 6, 7] ndX6_0 hcX6_K12_X6_0
          cases hF
          exact hQ _ _ _ _ _ _ (fun _ => 0) dX6_ripe_88 hP hD hS (by omega) (by omega)
        · replace hF := if_f hF c_8
          refine lv_iconst (v := -1) hx hb dX6_ripe_82 (by decide) ?_
          refine lv_goto (tgt := 88) hx hb dX6_ripe_83 (by decide) ?_
          replace hP := hP.sub [0, 1, 2, 3, 4, 5, 6, 7] drX6_K12
          replace hD := hD.sub [0, 1, 2, 3, 4, 5, 6, 7] ndX6_0 hcX6_K12_X6_0
          cases hF
          exact hQ _ _ _ _ _ _ (fun _ => 0) dX6_ripe_88 hP hD hS (by omega) (by omega)
      · replace hF := if_f hF c_6
        refine lv_aload_n hx hb dX6_ripe_49 rfl (lv_at hl 0 rfl) ?_
        refine lv_iload_n hx hb dX6_ripe_50 rfl (lv_at hl 1 rfl) ?_
        refine lv_iconst (v := 1) hx hb dX6_ripe_51 (by decide) ?_
        replace hF := bnd_some hF
        obtain ⟨z9, hz_9, hF⟩ := hF
        refine krI (kV (As := [.int a1, .int 1]) ⟨hx, hb, hml, hown, hts⟩ (kX6_va l D cy sa h thrown_42 pairs teams water vats_42 moulds_42 crews posts_42 loft_42 nums_42 a1 1 z9 hz_9 _) (cwV 2 hts gX6_ripe_X6_va rfl rfl rfl (by decide +kernel) ⟨Nat.le_of_ble_eq_true rfl, Nat.le_of_ble_eq_true rfl⟩) hK hP hD hS hA hG [0, 1, 2, 3, 4, 5, 6, 7] hcX6_K12_X6_0 ndX6_0 gtX6_0 rfl rfl rfl hl.1 [] rfl (Nat.le_of_ble_eq_true rfl) dX6_ripe_52 ⟨(by show _ ≤ (256 : Nat); omega), (by show _ ≤ (1101 : Nat); omega)⟩) hP hD hS hA [0, 1, 2, 3, 4, 5, 6, 7] hcX6_K12_X6_0 (fun H locs hP hS => ?_)
        refine lv_iload_n hx hb dX6_ripe_55 rfl (lv_at hl 2 rfl) ?_
        refine lv_icmp_ge (tgt := 70) hx hb dX6_ripe_56 (by decide) (fun c_10 => ?_) (fun c_10 => ?_)
        · replace hF := if_t hF c_10
          refine lv_aload_n hx hb dX6_ripe_70 rfl (lv_at hl 0 rfl) ?_
          refine lv_aload_n hx hb dX6_ripe_71 rfl (lv_at hl 3 rfl) ?_
          refine kwVE (kV (As := [.ref q8_42]) ⟨hx, hb, hml, hown, hts⟩ (kX6_bringBack l D cy sa h thrown_42 pairs teams water vats_42 moulds_42 crews posts_42 loft_42 nums_42 q8_42 q9_42 q10_42 q11_42 q12_42 q13_42 q14_42 r9_42 r10_42 r11_42 r12_42 r13_42 r14_42 _) (cwV 1 hts gX6_ripe_X6_bringBack rfl rfl rfl (by decide +kernel) ⟨Nat.le_of_ble_eq_true rfl, Nat.le_of_ble_eq_true rfl⟩) hK hP hD hS hA hG [0, 1, 2, 3, 4, 5, 6, 7, 8, 9, 10, 11, 12, 13, 14] idhX6_K12 idnX6_K12 gtX6_K12_0 rfl rfl rfl hl.1 [] rfl (Nat.le_of_ble_eq_true rfl) dX6_ripe_72 ⟨(by show _ ≤ (256 : Nat); omega), (by show _ ≤ (1101 : Nat); omega)⟩) hP hD hS hA [0, 1, 2, 3, 4, 5, 6, 7, 8, 9, 10, 11, 12, 13, 14] idhX6_K12 idmX6_K12 idkX6_K12 (fun H locs hP hD hS => ?_)
          refine lv_iload hx hb dX6_ripe_75 (lv_at hl 4 rfl) ?_
          refine lv_bipush (v := 60) hx hb dX6_ripe_77 (by decide) ?_
          refine lv_icmp_le (tgt := 86) hx hb dX6_ripe_79 (by decide) (fun c_12 => ?_) (fun c_12 => ?_)
          · replace hF := if_t hF c_12
            refine lv_iload hx hb dX6_ripe_86 (lv_at hl 4 rfl) ?_
            replace hP := hP.sub [0, 1, 2, 3, 4, 5, 6, 7] drX6_K12
            replace hD := hD.sub [0, 1, 2, 3, 4, 5, 6, 7] ndX6_0 hcX6_K12_X6_0
            cases hF
            exact hQ _ _ _ _ _ _ (fun _ => 0) dX6_ripe_88 hP hD hS (by omega) (by omega)
          · replace hF := if_f hF c_12
            refine lv_iconst (v := -1) hx hb dX6_ripe_82 (by decide) ?_
            refine lv_goto (tgt := 88) hx hb dX6_ripe_83 (by decide) ?_
            replace hP := hP.sub [0, 1, 2, 3, 4, 5, 6, 7] drX6_K12
            replace hD := hD.sub [0, 1, 2, 3, 4, 5, 6, 7] ndX6_0 hcX6_K12_X6_0
            cases hF
            exact hQ _ _ _ _ _ _ (fun _ => 0) dX6_ripe_88 hP hD hS (by omega) (by omega)
        · replace hF := if_f hF c_10
          refine lv_aload_n hx hb dX6_ripe_59 rfl (lv_at hl 0 rfl) ?_
          replace hF := bnd_some hF
          obtain ⟨z13, hz_13, hF⟩ := hF
          refine kwIE (kV (As := []) ⟨hx, hb, hml, hown, hts⟩ (kX6_dayOn l D cy sa h thrown_42 pairs teams water vats_42 moulds_42 crews posts_42 loft_42 nums_42 z13 hz_13 _) (cwV 0 hts gX6_ripe_X6_dayOn rfl rfl rfl (by decide +kernel) ⟨Nat.le_of_ble_eq_true rfl, Nat.le_of_ble_eq_true rfl⟩) hK hP hD hS hA hG [0, 1, 2, 3, 4, 5, 6, 7] hcX6_K12_X6_0 ndX6_0 gtX6_0 rfl rfl rfl hl.1 [] rfl (Nat.le_of_ble_eq_true rfl) dX6_ripe_60 ⟨(by show _ ≤ (256 : Nat); omega), (by show _ ≤ (1101 : Nat); omega)⟩) hP hD hS hA [0, 1, 2, 3, 4, 5, 6, 7] hcX6_K12_X6_0 hmX6 kpX6_K12_X6_0 (fun H locs hP hD hS => ?_)
          refine lv_pop hx hb dX6_ripe_63 rfl ?_
          refine lv_iinc (v := x4_42 + 1) (lv' := [(4, .int (x4_42 + 1)), (0, .ref (h 0)), (1, .int a1), (2, .int a2), (3, .ref q8_42)]) hx hb dX6_ripe_64 hl (k := 4) rfl rfl (by decide) rfl (fun ls hl => ?_)
          refine lv_goto (tgt := 42) hx hb dX6_ripe_67 (by decide) ?_
          exact ih  thrown_42 z13.2.1 z13.2.2.1 z13.2.2.2.1 z13.2.2.2.2.1 z13.2.2.2.2.2 (x4_42 + 1) r9_42 r10_42 r11_42 r12_42 r13_42 r14_42 q8_42 q9_42 q10_42 q11_42 q12_42 q13_42 q14_42 hF (cu + 4) (su + 12) (by omega) (by omega) _ _ _ hP hD hS (lv_sub hl [1, 2, 3, 4, 0] rfl)
  unfold fX6_ripe at hF
  refine lv_aload_n hx hb dX6_ripe_0 rfl (lv_at hl 0 rfl) ?_
  refine lv_iconst (v := 0) hx hb dX6_ripe_1 (by decide) ?_
  refine va_put (D := D) (v := .int 0) (ty := .int) (C := RX6) (T := TX6) (N := 10) hx hb hts hiX6 tyX6 tyX6_ok nmX6 hown hK hP hD hS 0 gtX6_0 rfl 0 (by decide) hf31 (fun _ h9 => h9) rfl (by decide +kernel) rfl rfl (Nat.le_of_ble_eq_true rfl) dX6_ripe_2 (fun H locs hP hD hS => ?_)
  rw [stX6_0_0] at hP hD
  refine lv_iload_n hx hb dX6_ripe_5 rfl (lv_at hl 1 rfl) ?_
  replace hF := bnd_some hF
  obtain ⟨z1, hz_1, hF⟩ := hF
  refine krI (kS (As := [.int a1]) ⟨hx, hb, hml, hown, hts⟩ (kX6_isVat l D cy sa a1 z1 hz_1 _) (cwS 1 hts gX6_ripe_X6_isVat rfl rfl rfl (by decide +kernel) ⟨Nat.le_of_ble_eq_true rfl, Nat.le_of_ble_eq_true rfl⟩) hK hP hD hS hA hG [] rfl rfl rfl hl.1 [] rfl (Nat.le_of_ble_eq_true rfl) dX6_ripe_6 ⟨(Nat.le_of_ble_eq_true rfl), (Nat.le_of_ble_eq_true rfl)⟩) hP hD hS hA [] rfl (fun H locs hP hS => ?_)
  refine lv_if_ne (tgt := 18) hx hb dX6_ripe_9 (by decide) (fun c_2 => ?_) (fun c_2 => ?_)
  · replace hF := if_f hF c_2
    refine lv_iload_n hx hb dX6_ripe_18 rfl (lv_at hl 2 rfl) ?_
    refine lv_iconst (v := 1) hx hb dX6_ripe_19 (by decide) ?_
    refine lv_bipush (v := 99) hx hb dX6_ripe_20 (by decide) ?_
    replace hF := bnd_some hF
    obtain ⟨z3, hz_3, hF⟩ := hF
    refine krI (kS (As := [.int a2, .int 1, .int 99]) ⟨hx, hb, hml, hown, hts⟩ (kX6_isIn l D cy sa a2 1 99 z3 hz_3 _) (cwS 3 hts gX6_ripe_X6_isIn rfl rfl rfl (by decide +kernel) ⟨Nat.le_of_ble_eq_true rfl, Nat.le_of_ble_eq_true rfl⟩) hK hP hD hS hA hG [] rfl rfl rfl hl.1 [] rfl (Nat.le_of_ble_eq_true rfl) dX6_ripe_22 ⟨(Nat.le_of_ble_eq_true rfl), (Nat.le_of_ble_eq_true rfl)⟩) hP hD hS hA [] rfl (fun H locs hP hS => ?_)
    refine lv_if_ne (tgt := 34) hx hb dX6_ripe_25 (by decide) (fun c_4 => ?_) (fun c_4 => ?_)
    · replace hF := if_f hF c_4
      refine lv_aload_n hx hb dX6_ripe_34 rfl (lv_at hl 0 rfl) ?_
      refine knR (kV (As := []) ⟨hx, hb, hml, hown, hts⟩ (kX6_kept l D cy sa h 0 pairs teams water vats moulds crews posts loft nums _) (cwV 0 hts gX6_ripe_X6_kept rfl rfl rfl (by decide +kernel) ⟨Nat.le_of_ble_eq_true rfl, Nat.le_of_ble_eq_true rfl⟩) hK hP hD hS hA hG [0, 1, 2, 3, 4, 5, 6, 7] idhX6 idnX6 gtX6_0 rfl rfl rfl hl.1 [] rfl (Nat.le_of_ble_eq_true rfl) dX6_ripe_35 ⟨(Nat.le_of_ble_eq_true rfl), (Nat.le_of_ble_eq_true rfl)⟩) hP hD hS hA [0, 1, 2, 3, 4, 5, 6, 7] idhX6 (fun ad5 H locs hP hD hS => ?_)
      replace hP : va_P D vwCl (wX6_K12 cy h 0 pairs teams water vats moulds crews posts loft nums (ad5 0) (ad5 1) vats (ad5 2) moulds (ad5 3) crews (ad5 4) posts (ad5 5) loft (ad5 6) nums) H := hP
      replace hD : va_D A (wX6_K12 cy h 0 pairs teams water vats moulds crews posts loft nums (ad5 0) (ad5 1) vats (ad5 2) moulds (ad5 3) crews (ad5 4) posts (ad5 5) loft (ad5 6) nums) := hD
      refine lv_astore_n (lv' := [(3, .ref (ad5 0)), (0, .ref (h 0)), (1, .int a1), (2, .int a2)]) hx hb dX6_ripe_38 rfl hl (by decide) rfl (fun ls hl => ?_)
      refine lv_iconst (v := 0) hx hb dX6_ripe_39 (by decide) ?_
      refine lv_istore (lv' := [(4, .int 0), (3, .ref (ad5 0)), (0, .ref (h 0)), (1, .int a1), (2, .int a2)]) hx hb dX6_ripe_40 hl (by decide) rfl (fun ls hl => ?_)
      exact L42 62 0 vats moulds posts loft nums 0 vats moulds crews posts loft nums (ad5 0) (ad5 1) (ad5 2) (ad5 3) (ad5 4) (ad5 5) (ad5 6) hF (7) (351) (by omega) (by omega) _ _ _ hP hD hS (lv_sub hl [2, 3, 4, 1, 0] rfl)
    · replace hF := if_t hF c_4
      refine lv_aload_n hx hb dX6_ripe_28 rfl (lv_at hl 0 rfl) ?_
      refine lv_iconst (v := 2) hx hb dX6_ripe_29 (by decide) ?_
      replace hF := bnd_some hF
      obtain ⟨z14, hz_14, hF⟩ := hF
      refine kwIE (kV (As := [.int 2]) ⟨hx, hb, hml, hown, hts⟩ (kX6_fail l D cy sa h 0 pairs teams water vats moulds crews posts loft nums 2 z14 hz_14 _) (cwV 1 hts gX6_ripe_X6_fail rfl rfl rfl (by decide +kernel) ⟨Nat.le_of_ble_eq_true rfl, Nat.le_of_ble_eq_true rfl⟩) hK hP hD hS hA hG [0, 1, 2, 3, 4, 5, 6, 7] hcX6_X6_0 ndX6_0 gtX6_0 rfl rfl rfl hl.1 [] rfl (Nat.le_of_ble_eq_true rfl) dX6_ripe_30 ⟨(Nat.le_of_ble_eq_true rfl), (Nat.le_of_ble_eq_true rfl)⟩) hP hD hS hA [0, 1, 2, 3, 4, 5, 6, 7] hcX6_X6_0 hmX6 kpX6_X6_0 (fun H locs hP hD hS => ?_)
      cases hF
      exact hQ _ _ _ _ _ _ (fun _ => 0) dX6_ripe_33 hP hD hS (Nat.le_of_ble_eq_true rfl) (Nat.le_of_ble_eq_true rfl)
  · replace hF := if_t hF c_2
    refine lv_aload_n hx hb dX6_ripe_12 rfl (lv_at hl 0 rfl) ?_
    refine lv_iconst (v := 1) hx hb dX6_ripe_13 (by decide) ?_
    replace hF := bnd_some hF
    obtain ⟨z15, hz_15, hF⟩ := hF
    refine kwIE (kV (As := [.int 1]) ⟨hx, hb, hml, hown, hts⟩ (kX6_fail l D cy sa h 0 pairs teams water vats moulds crews posts loft nums 1 z15 hz_15 _) (cwV 1 hts gX6_ripe_X6_fail rfl rfl rfl (by decide +kernel) ⟨Nat.le_of_ble_eq_true rfl, Nat.le_of_ble_eq_true rfl⟩) hK hP hD hS hA hG [0, 1, 2, 3, 4, 5, 6, 7] hcX6_X6_0 ndX6_0 gtX6_0 rfl rfl rfl hl.1 [] rfl (Nat.le_of_ble_eq_true rfl) dX6_ripe_14 ⟨(Nat.le_of_ble_eq_true rfl), (Nat.le_of_ble_eq_true rfl)⟩) hP hD hS hA [0, 1, 2, 3, 4, 5, 6, 7] hcX6_X6_0 hmX6 kpX6_X6_0 (fun H locs hP hD hS => ?_)
    cases hF
    exact hQ _ _ _ _ _ _ (fun _ => 0) dX6_ripe_17 hP hD hS (Nat.le_of_ble_eq_true rfl) (Nat.le_of_ble_eq_true rfl)

def fX6_foresee (teams : Int32) (water : FN) (vats : FN) (moulds : FN) (crews : FN) (posts : FN) (loft : FN) (nums : FN) (a1 : Int32) (a2 : Int32) : Option (Int32 × Int32) := (fX6_isIn a1 1 40).bind fun z1 => if z1 = 0 then (fX6_fail 1).bind fun z10 => some (z10.1, z10.2) else (fX6_isIn a2 0 11).bind fun z3 => if z3 = 0 then (fX6_fail 2).bind fun z9 => some (z9.1, z9.2) else (fX6_daysOn teams water vats moulds crews posts loft nums a1).bind fun z6 => (fX6_counted z6.2.1 z6.2.2.2.1 z6.2.2.2.2.1 z6.2.2.2.2.2 a2).bind fun z7 => some (z7, 0)
abbrev rX6_foresee : Room := { frames := 7, cells := 172, slots := 849, locals := 158 }
set_option maxHeartbeats 4000000 in
set_option maxRecDepth 100000 in
theorem kX6_foresee (l : Launch) (D : va_G) (cy : Nat → ClassId) (sa : Nat → Nat) (h : Nat → Nat) (thrown : Int32) (pairs : Int32) (teams : Int32) (water : FN) (vats : FN) (moulds : FN) (crews : FN) (posts : FN) (loft : FN) (nums : FN) (a1 : Int32) (a2 : Int32) (z : Int32 × Int32) (hF : fX6_foresee teams water vats moulds crews posts loft nums a1 a2 = some z) : KI l D (tyW cy) sa yX6_foresee wsX6_foresee rX6_foresee [.ref (h 0), .int a1, .int a2] (wX6 cy h thrown pairs teams water vats moulds crews posts loft nums) z.1 (fun _ => wX6 cy h z.2 pairs teams water vats moulds crews posts loft nums) 172 849 := by
  refine KI.of (cc := cX6_foresee) (maxL := 5) (by decide +kernel) rfl (Nat.le_of_ble_eq_true rfl) ?_
  intro p e s m args below meth c A ls Q hE hQ
  obtain ⟨hx, hb, hml, hown, hts, hA, hP, hK, hD, hG, hl, hnm⟩ := hE
  replace hown : s.vm.findClass RX6 = some m.cls := hown
  have hiX6 : ∀ w ∈ u_ws RX6 TX6 10, w ∈ wsX6_foresee := by decide +kernel
  have hf31 : (Cond.fieldLink RX6 31 "RagVatsModel" "thrown" "I").before args s = true := hts _ (by decide +kernel)
  replace hl : lv_has ls 5 [(0, .ref (h 0)), (1, .int a1), (2, .int a2)] := hl
  have hS : va_S A s.heap s.heap [] := va_S.rf
  unfold fX6_foresee at hF
  refine lv_aload_n hx hb dX6_foresee_0 rfl (lv_at hl 0 rfl) ?_
  refine lv_iconst (v := 0) hx hb dX6_foresee_1 (by decide) ?_
  refine va_put (D := D) (v := .int 0) (ty := .int) (C := RX6) (T := TX6) (N := 10) hx hb hts hiX6 tyX6 tyX6_ok nmX6 hown hK hP hD hS 0 gtX6_0 rfl 0 (by decide) hf31 (fun _ h9 => h9) rfl (by decide +kernel) rfl rfl (Nat.le_of_ble_eq_true rfl) dX6_foresee_2 (fun H locs hP hD hS => ?_)
  rw [stX6_0_0] at hP hD
  refine lv_iload_n hx hb dX6_foresee_5 rfl (lv_at hl 1 rfl) ?_
  refine lv_iconst (v := 1) hx hb dX6_foresee_6 (by decide) ?_
  refine lv_bipush (v := 40) hx hb dX6_foresee_7 (by decide) ?_
  replace hF := bnd_some hF
  obtain ⟨z1, hz_1, hF⟩ := hF
  refine krI (kS (As := [.int a1, .int 1, .int 40]) ⟨hx, hb, hml, hown, hts⟩ (kX6_isIn l D cy sa a1 1 40 z1 hz_1 _) (cwS 3 hts gX6_foresee_X6_isIn rfl rfl rfl (by decide +kernel) ⟨Nat.le_of_ble_eq_true rfl, Nat.le_of_ble_eq_true rfl⟩) hK hP hD hS hA hG [] rfl rfl rfl hl.1 [] rfl (Nat.le_of_ble_eq_true rfl) dX6_foresee_9 ⟨(Nat.le_of_ble_eq_true rfl), (Nat.le_of_ble_eq_true rfl)⟩) hP hD hS hA [] rfl (fun H locs hP hS => ?_)
  refine lv_if_ne (tgt := 21) hx hb dX6_foresee_12 (by decide) (fun c_2 => ?_) (fun c_2 => ?_)
  · replace hF := if_f hF c_2
    refine lv_iload_n hx hb dX6_foresee_21 rfl (lv_at hl 2 rfl) ?_
    refine lv_iconst (v := 0) hx hb dX6_foresee_22 (by decide) ?_
    refine lv_bipush (v := 11) hx hb dX6_foresee_23 (by decide) ?_
    replace hF := bnd_some hF
    obtain ⟨z3, hz_3, hF⟩ := hF
    refine krI (kS (As := [.int a2, .int 0, .int 11]) ⟨hx, hb, hml, hown, hts⟩ (kX6_isIn l D cy sa a2 0 11 z3 hz_3 _) (cwS 3 hts gX6_foresee_X6_isIn rfl rfl rfl (by decide +kernel) ⟨Nat.le_of_ble_eq_true rfl, Nat.le_of_ble_eq_true rfl⟩) hK hP hD hS hA hG [] rfl rfl rfl hl.1 [] rfl (Nat.le_of_ble_eq_true rfl) dX6_foresee_25 ⟨(Nat.le_of_ble_eq_true rfl), (Nat.le_of_ble_eq_true rfl)⟩) hP hD hS hA [] rfl (fun H locs hP hS => ?_)
    refine lv_if_ne (tgt := 37) hx hb dX6_foresee_28 (by decide) (fun c_4 => ?_) (fun c_4 => ?_)
    · replace hF := if_f hF c_4
      refine lv_aload_n hx hb dX6_foresee_37 rfl (lv_at hl 0 rfl) ?_
      refine knR (kV (As := []) ⟨hx, hb, hml, hown, hts⟩ (kX6_kept l D cy sa h 0 pairs teams water vats moulds crews posts loft nums _) (cwV 0 hts gX6_foresee_X6_kept rfl rfl rfl (by decide +kernel) ⟨Nat.le_of_ble_eq_true rfl, Nat.le_of_ble_eq_true rfl⟩) hK hP hD hS hA hG [0, 1, 2, 3, 4, 5, 6, 7] idhX6 idnX6 gtX6_0 rfl rfl rfl hl.1 [] rfl (Nat.le_of_ble_eq_true rfl) dX6_foresee_38 ⟨(Nat.le_of_ble_eq_true rfl), (Nat.le_of_ble_eq_true rfl)⟩) hP hD hS hA [0, 1, 2, 3, 4, 5, 6, 7] idhX6 (fun ad5 H locs hP hD hS => ?_)
      replace hP : va_P D vwCl (wX6_K12 cy h 0 pairs teams water vats moulds crews posts loft nums (ad5 0) (ad5 1) vats (ad5 2) moulds (ad5 3) crews (ad5 4) posts (ad5 5) loft (ad5 6) nums) H := hP
      replace hD : va_D A (wX6_K12 cy h 0 pairs teams water vats moulds crews posts loft nums (ad5 0) (ad5 1) vats (ad5 2) moulds (ad5 3) crews (ad5 4) posts (ad5 5) loft (ad5 6) nums) := hD
      refine lv_astore_n (lv' := [(3, .ref (ad5 0)), (0, .ref (h 0)), (1, .int a1), (2, .int a2)]) hx hb dX6_foresee_41 rfl hl (by decide) rfl (fun ls hl => ?_)
      refine lv_aload_n hx hb dX6_foresee_42 rfl (lv_at hl 1 rfl) ?_
      refine lv_iload_n hx hb dX6_foresee_43 rfl (lv_at hl 2 rfl) ?_
      replace hF := bnd_some hF
      obtain ⟨z6, hz_6, hF⟩ := hF
      refine kwIE (kV (As := [.int a1]) ⟨hx, hb, hml, hown, hts⟩ (kX6_daysOn l D cy sa h 0 pairs teams water vats moulds crews posts loft nums a1 z6 hz_6 _) (cwV 1 hts gX6_foresee_X6_daysOn rfl rfl rfl (by decide +kernel) ⟨Nat.le_of_ble_eq_true rfl, Nat.le_of_ble_eq_true rfl⟩) hK hP hD hS hA hG [0, 1, 2, 3, 4, 5, 6, 7] hcX6_K12_X6_0 ndX6_0 gtX6_0 rfl rfl rfl hl.1 [] rfl (Nat.le_of_ble_eq_true rfl) dX6_foresee_44 ⟨(Nat.le_of_ble_eq_true rfl), (Nat.le_of_ble_eq_true rfl)⟩) hP hD hS hA [0, 1, 2, 3, 4, 5, 6, 7] hcX6_K12_X6_0 hmX6 kpX6_K12_X6_0 (fun H locs hP hD hS => ?_)
      refine lv_pop hx hb dX6_foresee_47 rfl ?_
      refine lv_aload_n hx hb dX6_foresee_48 rfl (lv_at hl 1 rfl) ?_
      refine lv_iload_n hx hb dX6_foresee_49 rfl (lv_at hl 3 rfl) ?_
      replace hF := bnd_some hF
      obtain ⟨z7, hz_7, hF⟩ := hF
      refine krI (kV (As := [.int a2]) ⟨hx, hb, hml, hown, hts⟩ (kX6_counted l D cy sa h 0 pairs teams water z6.2.1 z6.2.2.1 crews z6.2.2.2.1 z6.2.2.2.2.1 z6.2.2.2.2.2 a2 z7 hz_7 _) (cwV 1 hts gX6_foresee_X6_counted rfl rfl rfl (by decide +kernel) ⟨Nat.le_of_ble_eq_true rfl, Nat.le_of_ble_eq_true rfl⟩) hK hP hD hS hA hG [0, 1, 2, 3, 4, 5, 6, 7] hcX6_K12_X6_0 ndX6_0 gtX6_0 rfl rfl rfl hl.1 [] rfl (Nat.le_of_ble_eq_true rfl) dX6_foresee_50 ⟨(Nat.le_of_ble_eq_true rfl), (Nat.le_of_ble_eq_true rfl)⟩) hP hD hS hA [0, 1, 2, 3, 4, 5, 6, 7] hcX6_K12_X6_0 (fun H locs hP hS => ?_)
      refine lv_istore (lv' := [(4, .int z7), (3, .ref (ad5 0)), (0, .ref (h 0)), (1, .int a1), (2, .int a2)]) hx hb dX6_foresee_53 hl (by decide) rfl (fun ls hl => ?_)
      refine lv_aload_n hx hb dX6_foresee_55 rfl (lv_at hl 2 rfl) ?_
      refine lv_aload_n hx hb dX6_foresee_56 rfl (lv_at hl 1 rfl) ?_
      refine kwVE (kV (As := [.ref (ad5 0)]) ⟨hx, hb, hml, hown, hts⟩ (kX6_bringBack l D cy sa h 0 pairs teams water z6.2.1 z6.2.2.1 crews z6.2.2.2.1 z6.2.2.2.2.1 z6.2.2.2.2.2 (ad5 0) (ad5 1) (ad5 2) (ad5 3) (ad5 4) (ad5 5) (ad5 6) vats moulds crews posts loft nums _) (cwV 1 hts gX6_foresee_X6_bringBack rfl rfl rfl (by decide +kernel) ⟨Nat.le_of_ble_eq_true rfl, Nat.le_of_ble_eq_true rfl⟩) hK hP hD hS hA hG [0, 1, 2, 3, 4, 5, 6, 7, 8, 9, 10, 11, 12, 13, 14] idhX6_K12 idnX6_K12 gtX6_K12_0 rfl rfl rfl hl.1 [] rfl (Nat.le_of_ble_eq_true rfl) dX6_foresee_57 ⟨(Nat.le_of_ble_eq_true rfl), (Nat.le_of_ble_eq_true rfl)⟩) hP hD hS hA [0, 1, 2, 3, 4, 5, 6, 7, 8, 9, 10, 11, 12, 13, 14] idhX6_K12 idmX6_K12 idkX6_K12 (fun H locs hP hD hS => ?_)
      refine lv_iload hx hb dX6_foresee_60 (lv_at hl 0 rfl) ?_
      replace hP := hP.sub [0, 1, 2, 3, 4, 5, 6, 7] drX6_K12
      replace hD := hD.sub [0, 1, 2, 3, 4, 5, 6, 7] ndX6_0 hcX6_K12_X6_0
      cases hF
      exact hQ _ _ _ _ _ _ (fun _ => 0) dX6_foresee_62 hP hD hS (Nat.le_of_ble_eq_true rfl) (Nat.le_of_ble_eq_true rfl)
    · replace hF := if_t hF c_4
      refine lv_aload_n hx hb dX6_foresee_31 rfl (lv_at hl 0 rfl) ?_
      refine lv_iconst (v := 2) hx hb dX6_foresee_32 (by decide) ?_
      replace hF := bnd_some hF
      obtain ⟨z9, hz_9, hF⟩ := hF
      refine kwIE (kV (As := [.int 2]) ⟨hx, hb, hml, hown, hts⟩ (kX6_fail l D cy sa h 0 pairs teams water vats moulds crews posts loft nums 2 z9 hz_9 _) (cwV 1 hts gX6_foresee_X6_fail rfl rfl rfl (by decide +kernel) ⟨Nat.le_of_ble_eq_true rfl, Nat.le_of_ble_eq_true rfl⟩) hK hP hD hS hA hG [0, 1, 2, 3, 4, 5, 6, 7] hcX6_X6_0 ndX6_0 gtX6_0 rfl rfl rfl hl.1 [] rfl (Nat.le_of_ble_eq_true rfl) dX6_foresee_33 ⟨(Nat.le_of_ble_eq_true rfl), (Nat.le_of_ble_eq_true rfl)⟩) hP hD hS hA [0, 1, 2, 3, 4, 5, 6, 7] hcX6_X6_0 hmX6 kpX6_X6_0 (fun H locs hP hD hS => ?_)
      cases hF
      exact hQ _ _ _ _ _ _ (fun _ => 0) dX6_foresee_36 hP hD hS (Nat.le_of_ble_eq_true rfl) (Nat.le_of_ble_eq_true rfl)
  · replace hF := if_t hF c_2
    refine lv_aload_n hx hb dX6_foresee_15 rfl (lv_at hl 0 rfl) ?_
    refine lv_iconst (v := 1) hx hb dX6_foresee_16 (by decide) ?_
    replace hF := bnd_some hF
    obtain ⟨z10, hz_10, hF⟩ := hF
    refine kwIE (kV (As := [.int 1]) ⟨hx, hb, hml, hown, hts⟩ (kX6_fail l D cy sa h 0 pairs teams water vats moulds crews posts loft nums 1 z10 hz_10 _) (cwV 1 hts gX6_foresee_X6_fail rfl rfl rfl (by decide +kernel) ⟨Nat.le_of_ble_eq_true rfl, Nat.le_of_ble_eq_true rfl⟩) hK hP hD hS hA hG [0, 1, 2, 3, 4, 5, 6, 7] hcX6_X6_0 ndX6_0 gtX6_0 rfl rfl rfl hl.1 [] rfl (Nat.le_of_ble_eq_true rfl) dX6_foresee_17 ⟨(Nat.le_of_ble_eq_true rfl), (Nat.le_of_ble_eq_true rfl)⟩) hP hD hS hA [0, 1, 2, 3, 4, 5, 6, 7] hcX6_X6_0 hmX6 kpX6_X6_0 (fun H locs hP hD hS => ?_)
    cases hF
    exact hQ _ _ _ _ _ _ (fun _ => 0) dX6_foresee_20 hP hD hS (Nat.le_of_ble_eq_true rfl) (Nat.le_of_ble_eq_true rfl)

def fX6_advise_L44 (teams : Int32) (water : FN) (a1 : Int32) : Nat → Int32 → FN → FN → FN → FN → FN → FN → Int32 → Int32 → Int32 → FN → FN → FN → FN → FN → FN → Option (Int32 × Int32 × FN × FN × FN × FN × FN × FN)
  | 0, _, _, _, _, _, _, _, _, _, _, _, _, _, _, _, _ => none
  | k + 1, thrown_44, vats_44, moulds_44, crews_44, posts_44, loft_44, nums_44, x3_44, x4_44, x5_44, r9_44, r10_44, r11_44, r12_44, r13_44, r14_44 => if 4 ≤ x5_44 then some (x3_44, thrown_44, vats_44, moulds_44, crews_44, posts_44, loft_44, nums_44) else ckI ((3 * a1) + 1) 9 ((fX6_dayOn teams water vats_44 moulds_44 (upd crews_44 ((3 * a1) + 1).toNatClampNeg x5_44) posts_44 loft_44 nums_44).bind fun z8 => if x4_44 < (z8.2.2.2.2.2 (4 : Int32).toNatClampNeg) then fX6_advise_L44 teams water a1 k thrown_44 r9_44 r10_44 r11_44 r12_44 r13_44 r14_44 x5_44 (z8.2.2.2.2.2 (4 : Int32).toNatClampNeg) (x5_44 + 1) r9_44 r10_44 r11_44 r12_44 r13_44 r14_44 else fX6_advise_L44 teams water a1 k thrown_44 r9_44 r10_44 r11_44 r12_44 r13_44 r14_44 x3_44 x4_44 (x5_44 + 1) r9_44 r10_44 r11_44 r12_44 r13_44 r14_44)
def fX6_advise (teams : Int32) (water : FN) (vats : FN) (moulds : FN) (crews : FN) (posts : FN) (loft : FN) (nums : FN) (a1 : Int32) : Option (Int32 × Int32 × FN × FN × FN × FN × FN × FN) := (fX6_isTeam teams a1).bind fun z1 => if z1 = 0 then (fX6_fail 1).bind fun z12 => some (z12.1, z12.2, vats, moulds, crews, posts, loft, nums) else (fX6_cr crews a1 2).bind fun z3 => if z3 = (-1) then some ((-1), 0, vats, moulds, crews, posts, loft, nums) else fX6_advise_L44 teams water a1 5 0 vats moulds crews posts loft nums (-1) (-1) 0 vats moulds crews posts loft nums
abbrev rX6_advise : Room := { frames := 6, cells := 32, slots := 441, locals := 135 }
set_option maxHeartbeats 4000000 in
set_option maxRecDepth 100000 in
theorem kX6_advise (l : Launch) (D : va_G) (cy : Nat → ClassId) (sa : Nat → Nat) (h : Nat → Nat) (thrown : Int32) (pairs : Int32) (teams : Int32) (water : FN) (vats : FN) (moulds : FN) (crews : FN) (posts : FN) (loft : FN) (nums : FN) (a1 : Int32) (z : Int32 × Int32 × FN × FN × FN × FN × FN × FN) (hF : fX6_advise teams water vats moulds crews posts loft nums a1 = some z) : KI l D (tyW cy) sa yX6_advise wsX6_advise rX6_advise [.ref (h 0), .int a1] (wX6 cy h thrown pairs teams water vats moulds crews posts loft nums) z.1 (fun _ => wX6 cy h z.2.1 pairs teams water z.2.2.1 z.2.2.2.1 z.2.2.2.2.1 z.2.2.2.2.2.1 z.2.2.2.2.2.2.1 z.2.2.2.2.2.2.2) 32 441 := by
  refine KI.of (cc := cX6_advise) (maxL := 7) (by decide +kernel) rfl (Nat.le_of_ble_eq_true rfl) ?_
  intro p e s m args below meth c A ls Q hE hQ
  obtain ⟨hx, hb, hml, hown, hts, hA, hP, hK, hD, hG, hl, hnm⟩ := hE
  replace hown : s.vm.findClass RX6 = some m.cls := hown
  have hiX6 : ∀ w ∈ u_ws RX6 TX6 10, w ∈ wsX6_advise := by decide +kernel
  have hf19 : (Cond.fieldLink RX6 19 "RagVatsModel" "crews" "[I").before args s = true := hts _ (by decide +kernel)
  have hf28 : (Cond.fieldLink RX6 28 "RagVatsModel" "numbers" "[I").before args s = true := hts _ (by decide +kernel)
  have hf31 : (Cond.fieldLink RX6 31 "RagVatsModel" "thrown" "I").before args s = true := hts _ (by decide +kernel)
  replace hl : lv_has ls 7 [(0, .ref (h 0)), (1, .int a1)] := hl
  have hS : va_S A s.heap s.heap [] := va_S.rf
  have L44 : ∀ (k : Nat) (thrown_44 : Int32) (vats_44 : FN) (moulds_44 : FN) (crews_44 : FN) (posts_44 : FN) (loft_44 : FN) (nums_44 : FN) (x3_44 : Int32) (x4_44 : Int32) (x5_44 : Int32) (r9_44 : FN) (r10_44 : FN) (r11_44 : FN) (r12_44 : FN) (r13_44 : FN) (r14_44 : FN) (q8_44 : Nat) (q9_44 : Nat) (q10_44 : Nat) (q11_44 : Nat) (q12_44 : Nat) (q13_44 : Nat) (q14_44 : Nat), fX6_advise_L44 teams water a1 k thrown_44 vats_44 moulds_44 crews_44 posts_44 loft_44 nums_44 x3_44 x4_44 x5_44 r9_44 r10_44 r11_44 r12_44 r13_44 r14_44 = some z → ∀ (cu su : Nat), cu + 5 * k ≤ 32 → su + 18 * k ≤ 441 → ∀ (H : Heap) (locs : List Loc) (ls : Array Slot), va_P D vwCl (wX6_K12 cy h thrown_44 pairs teams water vats_44 moulds_44 crews_44 posts_44 loft_44 nums_44 q8_44 q9_44 r9_44 q10_44 r10_44 q11_44 r11_44 q12_44 r12_44 q13_44 r13_44 q14_44 r14_44) H → va_D A (wX6_K12 cy h thrown_44 pairs teams water vats_44 moulds_44 crews_44 posts_44 loft_44 nums_44 q8_44 q9_44 r9_44 q10_44 r10_44 q11_44 r11_44 q12_44 r12_44 q13_44 r13_44 q14_44 r14_44) → va_S A s.heap H locs → lv_has ls 7 [(0, .ref (h 0)), (1, .int a1), (2, .ref q8_44), (3, .int x3_44), (4, .int x4_44), (5, .int x5_44)] → W p l e rX6_advise s m args below meth c H locs cu su Q (F0 m 44 ls []) := by
    intro k
    induction k with
    | zero =>
      intro thrown_44 vats_44 moulds_44 crews_44 posts_44 loft_44 nums_44 x3_44 x4_44 x5_44 r9_44 r10_44 r11_44 r12_44 r13_44 r14_44 q8_44 q9_44 q10_44 q11_44 q12_44 q13_44 q14_44 hF
      rw [fX6_advise_L44] at hF
      cases hF
    | succ k ih =>
      intro thrown_44 vats_44 moulds_44 crews_44 posts_44 loft_44 nums_44 x3_44 x4_44 x5_44 r9_44 r10_44 r11_44 r12_44 r13_44 r14_44 q8_44 q9_44 q10_44 q11_44 q12_44 q13_44 q14_44 hF cu su hcu hsu H locs ls hP hD hS hl
      rw [fX6_advise_L44] at hF
      refine lv_iload hx hb dX6_advise_44 (lv_at hl 5 rfl) ?_
      refine lv_iconst (v := 4) hx hb dX6_advise_46 (by decide) ?_
      refine lv_icmp_ge (tgt := 103) hx hb dX6_advise_47 (by decide) (fun c_6 => ?_) (fun c_6 => ?_)
      · replace hF := if_t hF c_6
        refine lv_iload_n hx hb dX6_advise_103 rfl (lv_at hl 3 rfl) ?_
        replace hP := hP.sub [0, 1, 2, 3, 4, 5, 6, 7] drX6_K12
        replace hD := hD.sub [0, 1, 2, 3, 4, 5, 6, 7] ndX6_0 hcX6_K12_X6_0
        cases hF
        exact hQ _ _ _ _ _ _ (fun _ => 0) dX6_advise_104 hP hD hS (by omega) (by omega)
      · replace hF := if_f hF c_6
        refine lv_aload_n hx hb dX6_advise_50 rfl (lv_at hl 0 rfl) ?_
        refine va_get (D := D) (C := RX6) (T := TX6) (N := 10) hx hb hts hiX6 hown hK hP 0 gtX6_K12_0 rfl 6 (by decide) hf19 (fun _ h9 => h9) rfl dX6_advise_51 ?_
        refine lv_iconst (v := 3) hx hb dX6_advise_54 (by decide) ?_
        refine lv_iload_n hx hb dX6_advise_55 rfl (lv_at hl 1 rfl) ?_
        refine lv_imul hx hb dX6_advise_56 ?_
        refine lv_iconst (v := 1) hx hb dX6_advise_57 (by decide) ?_
        refine lv_iadd hx hb dX6_advise_58 ?_
        refine lv_iload hx hb dX6_advise_59 (lv_at hl 5 rfl) ?_
        replace hF := ckI_some hF
        obtain ⟨hi_7, hF⟩ := hF
        refine va_iast hx hb hK hP hD hS 4 0 gtX6_K12_4 rfl hi_7 dX6_advise_61 (fun H locs hP hD hS => ?_)
        rw [stX6_K12_4] at hP hD
        refine lv_aload_n hx hb dX6_advise_62 rfl (lv_at hl 0 rfl) ?_
        replace hF := bnd_some hF
        obtain ⟨z8, hz_8, hF⟩ := hF
        refine kwIE (kV (As := []) ⟨hx, hb, hml, hown, hts⟩ (kX6_dayOn l D cy sa h thrown_44 pairs teams water vats_44 moulds_44 (upd crews_44 ((3 * a1) + 1).toNatClampNeg x5_44) posts_44 loft_44 nums_44 z8 hz_8 _) (cwV 0 hts gX6_advise_X6_dayOn rfl rfl rfl (by decide +kernel) ⟨Nat.le_of_ble_eq_true rfl, Nat.le_of_ble_eq_true rfl⟩) hK hP hD hS hA hG [0, 1, 2, 3, 4, 5, 6, 7] hcX6_K12_X6_0 ndX6_0 gtX6_0 rfl rfl rfl hl.1 [] rfl (Nat.le_of_ble_eq_true rfl) dX6_advise_63 ⟨(by show _ ≤ (32 : Nat); omega), (by show _ ≤ (441 : Nat); omega)⟩) hP hD hS hA [0, 1, 2, 3, 4, 5, 6, 7] hcX6_K12_X6_0 hmX6 kpX6_K12_X6_0 (fun H locs hP hD hS => ?_)
        refine lv_pop hx hb dX6_advise_66 rfl ?_
        refine lv_aload_n hx hb dX6_advise_67 rfl (lv_at hl 0 rfl) ?_
        refine va_get (D := D) (C := RX6) (T := TX6) (N := 10) hx hb hts hiX6 hown hK hP 0 gtX6_K12_0 rfl 9 (by decide) hf28 (fun _ h9 => h9) rfl dX6_advise_68 ?_
        refine lv_iconst (v := 4) hx hb dX6_advise_71 (by decide) ?_
        refine va_iald hx hb hK hP 7 0 gtX6_K12_7 rfl (show ¬ ((4 : Int32) < 0 ∨ 9 ≤ (4 : Int32).toNatClampNeg) from by decide) dX6_advise_72 ?_
        refine lv_istore (lv' := [(6, .int (z8.2.2.2.2.2 (4 : Int32).toNatClampNeg)), (0, .ref (h 0)), (1, .int a1), (2, .ref q8_44), (3, .int x3_44), (4, .int x4_44), (5, .int x5_44)]) hx hb dX6_advise_73 hl (by decide) rfl (fun ls hl => ?_)
        refine lv_aload_n hx hb dX6_advise_75 rfl (lv_at hl 1 rfl) ?_
        refine lv_aload_n hx hb dX6_advise_76 rfl (lv_at hl 3 rfl) ?_
        refine kwVE (kV (As := [.ref q8_44]) ⟨hx, hb, hml, hown, hts⟩ (kX6_bringBack l D cy sa h thrown_44 pairs teams water z8.2.1 z8.2.2.1 (upd crews_44 ((3 * a1) + 1).toNatClampNeg x5_44) z8.2.2.2.1 z8.2.2.2.2.1 z8.2.2.2.2.2 q8_44 q9_44 q10_44 q11_44 q12_44 q13_44 q14_44 r9_44 r10_44 r11_44 r12_44 r13_44 r14_44 _) (cwV 1 hts gX6_advise_X6_bringBack rfl rfl rfl (by decide +kernel) ⟨Nat.le_of_ble_eq_true rfl, Nat.le_of_ble_eq_true rfl⟩) hK hP hD hS hA hG [0, 1, 2, 3, 4, 5, 6, 7, 8, 9, 10, 11, 12, 13, 14] idhX6_K12 idnX6_K12 gtX6_K12_0 rfl rfl rfl hl.1 [] rfl (Nat.le_of_ble_eq_true rfl) dX6_advise_77 ⟨(by show _ ≤ (32 : Nat); omega), (by show _ ≤ (441 : Nat); omega)⟩) hP hD hS hA [0, 1, 2, 3, 4, 5, 6, 7, 8, 9, 10, 11, 12, 13, 14] idhX6_K12 idmX6_K12 idkX6_K12 (fun H locs hP hD hS => ?_)
        refine lv_iload hx hb dX6_advise_80 (lv_at hl 0 rfl) ?_
        refine lv_iload hx hb dX6_advise_82 (lv_at hl 5 rfl) ?_
        refine lv_icmp_gt (tgt := 90) hx hb dX6_advise_84 (by decide) (fun c_11 => ?_) (fun c_11 => ?_)
        · replace hF := if_t hF c_11
          refine lv_iload hx hb dX6_advise_90 (lv_at hl 6 rfl) ?_
          refine lv_istore_n (lv' := [(3, .int x5_44), (6, .int (z8.2.2.2.2.2 (4 : Int32).toNatClampNeg)), (0, .ref (h 0)), (1, .int a1), (2, .ref q8_44), (4, .int x4_44), (5, .int x5_44)]) hx hb dX6_advise_92 rfl hl (by decide) rfl (fun ls hl => ?_)
          refine lv_iload hx hb dX6_advise_93 (lv_at hl 1 rfl) ?_
          refine lv_istore (lv' := [(4, .int (z8.2.2.2.2.2 (4 : Int32).toNatClampNeg)), (3, .int x5_44), (6, .int (z8.2.2.2.2.2 (4 : Int32).toNatClampNeg)), (0, .ref (h 0)), (1, .int a1), (2, .ref q8_44), (5, .int x5_44)]) hx hb dX6_advise_95 hl (by decide) rfl (fun ls hl => ?_)
          refine lv_iinc (v := x5_44 + 1) (lv' := [(5, .int (x5_44 + 1)), (4, .int (z8.2.2.2.2.2 (4 : Int32).toNatClampNeg)), (3, .int x5_44), (6, .int (z8.2.2.2.2.2 (4 : Int32).toNatClampNeg)), (0, .ref (h 0)), (1, .int a1), (2, .ref q8_44)]) hx hb dX6_advise_97 hl (k := 6) rfl rfl (by decide) rfl (fun ls hl => ?_)
          refine lv_goto (tgt := 44) hx hb dX6_advise_100 (by decide) ?_
          exact ih  thrown_44 r9_44 r10_44 r11_44 r12_44 r13_44 r14_44 x5_44 (z8.2.2.2.2.2 (4 : Int32).toNatClampNeg) (x5_44 + 1) r9_44 r10_44 r11_44 r12_44 r13_44 r14_44 q8_44 q9_44 q10_44 q11_44 q12_44 q13_44 q14_44 hF (cu + 5) (su + 18) (by omega) (by omega) _ _ _ hP hD hS (lv_sub hl [4, 5, 6, 2, 1, 0] rfl)
        · replace hF := if_f hF c_11
          refine lv_goto (tgt := 97) hx hb dX6_advise_87 (by decide) ?_
          refine lv_iinc (v := x5_44 + 1) (lv' := [(5, .int (x5_44 + 1)), (6, .int (z8.2.2.2.2.2 (4 : Int32).toNatClampNeg)), (0, .ref (h 0)), (1, .int a1), (2, .ref q8_44), (3, .int x3_44), (4, .int x4_44)]) hx hb dX6_advise_97 hl (k := 6) rfl rfl (by decide) rfl (fun ls hl => ?_)
          refine lv_goto (tgt := 44) hx hb dX6_advise_100 (by decide) ?_
          exact ih  thrown_44 r9_44 r10_44 r11_44 r12_44 r13_44 r14_44 x3_44 x4_44 (x5_44 + 1) r9_44 r10_44 r11_44 r12_44 r13_44 r14_44 q8_44 q9_44 q10_44 q11_44 q12_44 q13_44 q14_44 hF (cu + 5) (su + 18) (by omega) (by omega) _ _ _ hP hD hS (lv_sub hl [2, 3, 4, 5, 6, 0] rfl)
  unfold fX6_advise at hF
  refine lv_aload_n hx hb dX6_advise_0 rfl (lv_at hl 0 rfl) ?_
  refine lv_iconst (v := 0) hx hb dX6_advise_1 (by decide) ?_
  refine va_put (D := D) (v := .int 0) (ty := .int) (C := RX6) (T := TX6) (N := 10) hx hb hts hiX6 tyX6 tyX6_ok nmX6 hown hK hP hD hS 0 gtX6_0 rfl 0 (by decide) hf31 (fun _ h9 => h9) rfl (by decide +kernel) rfl rfl (Nat.le_of_ble_eq_true rfl) dX6_advise_2 (fun H locs hP hD hS => ?_)
  rw [stX6_0_0] at hP hD
  refine lv_aload_n hx hb dX6_advise_5 rfl (lv_at hl 0 rfl) ?_
  refine lv_iload_n hx hb dX6_advise_6 rfl (lv_at hl 1 rfl) ?_
  replace hF := bnd_some hF
  obtain ⟨z1, hz_1, hF⟩ := hF
  refine krI (kV (As := [.int a1]) ⟨hx, hb, hml, hown, hts⟩ (kX6_isTeam l D cy sa h 0 pairs teams water vats moulds crews posts loft nums a1 z1 hz_1 _) (cwV 1 hts gX6_advise_X6_isTeam rfl rfl rfl (by decide +kernel) ⟨Nat.le_of_ble_eq_true rfl, Nat.le_of_ble_eq_true rfl⟩) hK hP hD hS hA hG [0, 1, 2, 3, 4, 5, 6, 7] hcX6_X6_0 ndX6_0 gtX6_0 rfl rfl rfl hl.1 [] rfl (Nat.le_of_ble_eq_true rfl) dX6_advise_7 ⟨(Nat.le_of_ble_eq_true rfl), (Nat.le_of_ble_eq_true rfl)⟩) hP hD hS hA [0, 1, 2, 3, 4, 5, 6, 7] hcX6_X6_0 (fun H locs hP hS => ?_)
  refine lv_if_ne (tgt := 19) hx hb dX6_advise_10 (by decide) (fun c_2 => ?_) (fun c_2 => ?_)
  · replace hF := if_f hF c_2
    refine lv_aload_n hx hb dX6_advise_19 rfl (lv_at hl 0 rfl) ?_
    refine lv_iload_n hx hb dX6_advise_20 rfl (lv_at hl 1 rfl) ?_
    refine lv_iconst (v := 2) hx hb dX6_advise_21 (by decide) ?_
    replace hF := bnd_some hF
    obtain ⟨z3, hz_3, hF⟩ := hF
    refine krI (kV (As := [.int a1, .int 2]) ⟨hx, hb, hml, hown, hts⟩ (kX6_cr l D cy sa h 0 pairs teams water vats moulds crews posts loft nums a1 2 z3 hz_3 _) (cwV 2 hts gX6_advise_X6_cr rfl rfl rfl (by decide +kernel) ⟨Nat.le_of_ble_eq_true rfl, Nat.le_of_ble_eq_true rfl⟩) hK hP hD hS hA hG [0, 1, 2, 3, 4, 5, 6, 7] hcX6_X6_0 ndX6_0 gtX6_0 rfl rfl rfl hl.1 [] rfl (Nat.le_of_ble_eq_true rfl) dX6_advise_22 ⟨(Nat.le_of_ble_eq_true rfl), (Nat.le_of_ble_eq_true rfl)⟩) hP hD hS hA [0, 1, 2, 3, 4, 5, 6, 7] hcX6_X6_0 (fun H locs hP hS => ?_)
    refine lv_iconst (v := -1) hx hb dX6_advise_25 (by decide) ?_
    refine lv_icmp_ne (tgt := 31) hx hb dX6_advise_26 (by decide) (fun c_4 => ?_) (fun c_4 => ?_)
    · replace hF := if_f hF c_4
      refine lv_aload_n hx hb dX6_advise_31 rfl (lv_at hl 0 rfl) ?_
      refine knR (kV (As := []) ⟨hx, hb, hml, hown, hts⟩ (kX6_kept l D cy sa h 0 pairs teams water vats moulds crews posts loft nums _) (cwV 0 hts gX6_advise_X6_kept rfl rfl rfl (by decide +kernel) ⟨Nat.le_of_ble_eq_true rfl, Nat.le_of_ble_eq_true rfl⟩) hK hP hD hS hA hG [0, 1, 2, 3, 4, 5, 6, 7] idhX6 idnX6 gtX6_0 rfl rfl rfl hl.1 [] rfl (Nat.le_of_ble_eq_true rfl) dX6_advise_32 ⟨(Nat.le_of_ble_eq_true rfl), (Nat.le_of_ble_eq_true rfl)⟩) hP hD hS hA [0, 1, 2, 3, 4, 5, 6, 7] idhX6 (fun ad5 H locs hP hD hS => ?_)
      replace hP : va_P D vwCl (wX6_K12 cy h 0 pairs teams water vats moulds crews posts loft nums (ad5 0) (ad5 1) vats (ad5 2) moulds (ad5 3) crews (ad5 4) posts (ad5 5) loft (ad5 6) nums) H := hP
      replace hD : va_D A (wX6_K12 cy h 0 pairs teams water vats moulds crews posts loft nums (ad5 0) (ad5 1) vats (ad5 2) moulds (ad5 3) crews (ad5 4) posts (ad5 5) loft (ad5 6) nums) := hD
      refine lv_astore_n (lv' := [(2, .ref (ad5 0)), (0, .ref (h 0)), (1, .int a1)]) hx hb dX6_advise_35 rfl hl (by decide) rfl (fun ls hl => ?_)
      refine lv_iconst (v := -1) hx hb dX6_advise_36 (by decide) ?_
      refine lv_istore_n (lv' := [(3, .int (-1)), (2, .ref (ad5 0)), (0, .ref (h 0)), (1, .int a1)]) hx hb dX6_advise_37 rfl hl (by decide) rfl (fun ls hl => ?_)
      refine lv_iconst (v := -1) hx hb dX6_advise_38 (by decide) ?_
      refine lv_istore (lv' := [(4, .int (-1)), (3, .int (-1)), (2, .ref (ad5 0)), (0, .ref (h 0)), (1, .int a1)]) hx hb dX6_advise_39 hl (by decide) rfl (fun ls hl => ?_)
      refine lv_iconst (v := 0) hx hb dX6_advise_41 (by decide) ?_
      refine lv_istore (lv' := [(5, .int 0), (4, .int (-1)), (3, .int (-1)), (2, .ref (ad5 0)), (0, .ref (h 0)), (1, .int a1)]) hx hb dX6_advise_42 hl (by decide) rfl (fun ls hl => ?_)
      exact L44 5 0 vats moulds crews posts loft nums (-1) (-1) 0 vats moulds crews posts loft nums (ad5 0) (ad5 1) (ad5 2) (ad5 3) (ad5 4) (ad5 5) (ad5 6) hF (7) (351) (by omega) (by omega) _ _ _ hP hD hS (lv_sub hl [4, 5, 3, 2, 1, 0] rfl)
    · replace hF := if_t hF c_4
      refine lv_iconst (v := -1) hx hb dX6_advise_29 (by decide) ?_
      cases hF
      exact hQ _ _ _ _ _ _ (fun _ => 0) dX6_advise_30 hP hD hS (Nat.le_of_ble_eq_true rfl) (Nat.le_of_ble_eq_true rfl)
  · replace hF := if_t hF c_2
    refine lv_aload_n hx hb dX6_advise_13 rfl (lv_at hl 0 rfl) ?_
    refine lv_iconst (v := 1) hx hb dX6_advise_14 (by decide) ?_
    replace hF := bnd_some hF
    obtain ⟨z12, hz_12, hF⟩ := hF
    refine kwIE (kV (As := [.int 1]) ⟨hx, hb, hml, hown, hts⟩ (kX6_fail l D cy sa h 0 pairs teams water vats moulds crews posts loft nums 1 z12 hz_12 _) (cwV 1 hts gX6_advise_X6_fail rfl rfl rfl (by decide +kernel) ⟨Nat.le_of_ble_eq_true rfl, Nat.le_of_ble_eq_true rfl⟩) hK hP hD hS hA hG [0, 1, 2, 3, 4, 5, 6, 7] hcX6_X6_0 ndX6_0 gtX6_0 rfl rfl rfl hl.1 [] rfl (Nat.le_of_ble_eq_true rfl) dX6_advise_15 ⟨(Nat.le_of_ble_eq_true rfl), (Nat.le_of_ble_eq_true rfl)⟩) hP hD hS hA [0, 1, 2, 3, 4, 5, 6, 7] hcX6_X6_0 hmX6 kpX6_X6_0 (fun H locs hP hD hS => ?_)
    cases hF
    exact hQ _ _ _ _ _ _ (fun _ => 0) dX6_advise_18 hP hD hS (Nat.le_of_ble_eq_true rfl) (Nat.le_of_ble_eq_true rfl)
