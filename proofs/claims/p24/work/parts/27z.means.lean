def fX5_mean_L21 (m_nM : Int32) (m_worn : FN) : Nat → Int32 → Int32 → Int32 → Option (UInt64)
  | 0, _, _, _ => none
  | k + 1, x1_21, x2_21, x3_21 => if x1_21 ≤ x3_21 then ckN (FP.i2d x2_21) (FP.i2d x1_21) (some (FP.ddiv (FP.i2d x2_21) (FP.i2d x1_21))) else (fX1_wornOf m_nM m_worn x3_21).bind fun z4 => fX5_mean_L21 m_nM m_worn k x1_21 (x2_21 + z4) (x3_21 + 1)
def fX5_mean (m_nM : Int32) (m_worn : FN) : Option (UInt64) := if m_nM = 0 then some FP.dconst0 else fX5_mean_L21 m_nM m_worn 300 m_nM 0 0
abbrev rX5_mean : Room := { frames := 2, cells := 0, slots := 0, locals := 42 }
set_option maxHeartbeats 4000000 in
set_option maxRecDepth 100000 in
theorem kX5_mean (l : Launch) (D : va_G) (cy : Nat → ClassId) (sa : SAT) (h : Nat → Nat) (m_day : Int32) (m_coins : Int32) (m_felts : Int32) (m_made : Int32) (m_worth : Int32) (m_rags : FN) (m_water : FN) (m_pulp : FN) (m_beat : FN) (m_sort : FN) (m_nM : Int32) (m_mark : FN) (m_size : FN) (m_worn : FN) (m_nT : Int32) (m_skill : FN) (m_vat : FN) (m_pair : FN) (m_nQ : Int32) (m_allS : Int32) (m_pmark : FN) (m_pgrade : FN) (m_psheets : FN) (m_loft : FN) (t_day : Int32) (t_coins : Int32) (t_felts : Int32) (t_made : Int32) (t_worth : Int32) (t_rags : FN) (t_water : FN) (t_pulp : FN) (t_beat : FN) (t_sort : FN) (t_nM : Int32) (t_mark : FN) (t_size : FN) (t_worn : FN) (t_nT : Int32) (t_skill : FN) (t_vat : FN) (t_pair : FN) (t_nQ : Int32) (t_allS : Int32) (t_pmark : FN) (t_pgrade : FN) (t_psheets : FN) (t_loft : FN) (z : UInt64) (hF : fX5_mean m_nM m_worn = some z) : KD l D (tyW cy) sa yX5_mean wsX5_mean rX5_mean [.ref (h 0)] (wX5 cy h m_day m_coins m_felts m_made m_worth m_rags m_water m_pulp m_beat m_sort m_nM m_mark m_size m_worn m_nT m_skill m_vat m_pair m_nQ m_allS m_pmark m_pgrade m_psheets m_loft t_day t_coins t_felts t_made t_worth t_rags t_water t_pulp t_beat t_sort t_nM t_mark t_size t_worn t_nT t_skill t_vat t_pair t_nQ t_allS t_pmark t_pgrade t_psheets t_loft) z (fun _ => wX5 cy h m_day m_coins m_felts m_made m_worth m_rags m_water m_pulp m_beat m_sort m_nM m_mark m_size m_worn m_nT m_skill m_vat m_pair m_nQ m_allS m_pmark m_pgrade m_psheets m_loft t_day t_coins t_felts t_made t_worth t_rags t_water t_pulp t_beat t_sort t_nM t_mark t_size t_worn t_nT t_skill t_vat t_pair t_nQ t_allS t_pmark t_pgrade t_psheets t_loft) 0 0 := by
  refine KD.of (cc := cX5_mean) (maxL := 4) (by decide +kernel) rfl (Nat.le_of_ble_eq_true rfl) ?_
  intro p e s m args below meth c A ls Q hE hQ
  obtain ⟨hx, hb, hml, hown, hts, hA, hP, hK, hD, hG, hl, hnm⟩ := hE
  replace hown : s.vm.findClass RX5 = some m.cls := hown
  have hiX0 : ∀ w ∈ u_ws RX0 TX0 12, w ∈ wsX5_mean := by decide +kernel
  have hiX1 : ∀ w ∈ u_ws RX1 TX1 4, w ∈ wsX5_mean := by decide +kernel
  have hiX5 : ∀ w ∈ u_ws RX5 TX5 2, w ∈ wsX5_mean := by decide +kernel
  have hf10 : (Cond.fieldLink RX5 10 "RagVats" "mill" "LRagVats$Mill;").before args s = true := hts _ (by decide +kernel)
  have hn112 : (Cond.fieldLinkNest RX5 112 "RagVats$Mill" "moulds" "LRagVats$Moulds;" "RagVats").before args s = true := va_Nw.use rfl (hG.1.1 _ (by decide +kernel))
  have hn116 : (Cond.fieldLinkNest RX5 116 "RagVats$Moulds" "number" "I" "RagVats").before args s = true := va_Nw.use rfl (hG.1.1 _ (by decide +kernel))
  replace hl : lv_has ls 4 [(0, .ref (h 0))] := hl
  have hS : va_S A s.heap s.heap [] := va_S.rf
  have L21 : ∀ (k : Nat) (x1_21 : Int32) (x2_21 : Int32) (x3_21 : Int32), fX5_mean_L21 m_nM m_worn k x1_21 x2_21 x3_21 = some z → ∀ (H : Heap) (locs : List Loc) (ls : Array Slot), va_P D vwCl (wX5 cy h m_day m_coins m_felts m_made m_worth m_rags m_water m_pulp m_beat m_sort m_nM m_mark m_size m_worn m_nT m_skill m_vat m_pair m_nQ m_allS m_pmark m_pgrade m_psheets m_loft t_day t_coins t_felts t_made t_worth t_rags t_water t_pulp t_beat t_sort t_nM t_mark t_size t_worn t_nT t_skill t_vat t_pair t_nQ t_allS t_pmark t_pgrade t_psheets t_loft) H → va_D A (wX5 cy h m_day m_coins m_felts m_made m_worth m_rags m_water m_pulp m_beat m_sort m_nM m_mark m_size m_worn m_nT m_skill m_vat m_pair m_nQ m_allS m_pmark m_pgrade m_psheets m_loft t_day t_coins t_felts t_made t_worth t_rags t_water t_pulp t_beat t_sort t_nM t_mark t_size t_worn t_nT t_skill t_vat t_pair t_nQ t_allS t_pmark t_pgrade t_psheets t_loft) → va_S A s.heap H locs → lv_has ls 4 [(0, .ref (h 0)), (1, .int x1_21), (2, .int x2_21), (3, .int x3_21)] → W p l e rX5_mean s m args below meth c H locs 0 0 Q (F0 m 21 ls []) := by
    intro k
    induction k with
    | zero =>
      intro x1_21 x2_21 x3_21 hF
      rw [fX5_mean_L21] at hF
      cases hF
    | succ k ih =>
      intro x1_21 x2_21 x3_21 hF H locs ls hP hD hS hl
      rw [fX5_mean_L21] at hF
      refine lv_iload_n hx hb dX5_mean_21 rfl (lv_at hl 3 rfl) ?_
      refine lv_iload_n hx hb dX5_mean_22 rfl (lv_at hl 1 rfl) ?_
      refine lv_icmp_ge (tgt := 46) hx hb dX5_mean_23 (by decide) (fun c_2 => ?_) (fun c_2 => ?_)
      · replace hF := if_t hF c_2
        refine lv_iload_n hx hb dX5_mean_46 rfl (lv_at hl 2 rfl) ?_
        refine lv_i2d hx hb dX5_mean_47 ?_
        refine lv_iload_n hx hb dX5_mean_48 rfl (lv_at hl 1 rfl) ?_
        refine lv_i2d hx hb dX5_mean_49 ?_
        replace hF := ckN_some hF
        obtain ⟨hq_3, hF⟩ := hF
        refine lv_ddiv hx hb dX5_mean_50 hq_3 ?_
        cases hF
        exact hQ _ _ _ _ _ _ (fun _ => 0) dX5_mean_51 hP hD hS (Nat.le_of_ble_eq_true rfl) (Nat.le_of_ble_eq_true rfl)
      · replace hF := if_f hF c_2
        refine lv_iload_n hx hb dX5_mean_26 rfl (lv_at hl 2 rfl) ?_
        refine lv_aload_n hx hb dX5_mean_27 rfl (lv_at hl 0 rfl) ?_
        refine va_get (D := D) (C := RX5) (T := TX5) (N := 2) hx hb hts hiX5 hown hK hP 0 gtX5_0 rfl 0 (by decide) hf10 (fun _ h9 => h9) rfl dX5_mean_28 ?_
        refine va_getN (host := "RagVats") (D := D) (C := RX0) (T := TX0) (N := 12) hx hb hts hiX0 hown hK hP 1 gtX5_1 rfl 8 (by decide) hn112 (fun _ h9 => h9) rfl dX5_mean_31 ?_
        refine lv_iload_n hx hb dX5_mean_34 rfl (lv_at hl 3 rfl) ?_
        replace hF := bnd_some hF
        obtain ⟨z4, hz_4, hF⟩ := hF
        refine krI (kV (As := [.int x3_21]) ⟨hx, hb, hml, hown, hts⟩ (kX1_wornOf l D cy sa (fun i => h (i + 8)) m_nM m_mark m_size m_worn x3_21 z4 hz_4 _) (cwV 1 hts gX5_mean_X1_wornOf rfl rfl rfl (by decide +kernel) ⟨Nat.le_of_ble_eq_true rfl, Nat.le_of_ble_eq_true rfl⟩) hK hP hD hS hA hG [8, 9, 10, 11] hcX5_X1_8 ndX1_8 gtX1_0 rfl rfl rfl hl.1 [.int x2_21] rfl (Nat.le_of_ble_eq_true rfl) dX5_mean_35 ⟨(Nat.le_of_ble_eq_true rfl), (Nat.le_of_ble_eq_true rfl)⟩) hP hD hS hA [8, 9, 10, 11] hcX5_X1_8 (fun H locs hP hS => ?_)
        refine lv_iadd hx hb dX5_mean_38 ?_
        refine lv_istore_n (lv' := [(2, .int (x2_21 + z4)), (0, .ref (h 0)), (1, .int x1_21), (3, .int x3_21)]) hx hb dX5_mean_39 rfl hl (by decide) rfl (fun ls hl => ?_)
        refine lv_iinc (v := x3_21 + 1) (lv' := [(3, .int (x3_21 + 1)), (2, .int (x2_21 + z4)), (0, .ref (h 0)), (1, .int x1_21)]) hx hb dX5_mean_40 hl (k := 3) rfl rfl (by decide) rfl (fun ls hl => ?_)
        refine lv_goto (tgt := 21) hx hb dX5_mean_43 (by decide) ?_
        exact ih  x1_21 (x2_21 + z4) (x3_21 + 1)  hF _ _ _ hP hD hS (lv_sub hl [2, 3, 1, 0] rfl)
  unfold fX5_mean at hF
  refine lv_aload_n hx hb dX5_mean_0 rfl (lv_at hl 0 rfl) ?_
  refine va_get (D := D) (C := RX5) (T := TX5) (N := 2) hx hb hts hiX5 hown hK hP 0 gtX5_0 rfl 0 (by decide) hf10 (fun _ h9 => h9) rfl dX5_mean_1 ?_
  refine va_getN (host := "RagVats") (D := D) (C := RX0) (T := TX0) (N := 12) hx hb hts hiX0 hown hK hP 1 gtX5_1 rfl 8 (by decide) hn112 (fun _ h9 => h9) rfl dX5_mean_4 ?_
  refine va_getN (host := "RagVats") (D := D) (C := RX1) (T := TX1) (N := 4) hx hb hts hiX1 hown hK hP 8 gtX5_8 rfl 0 (by decide) hn116 (fun _ h9 => h9) rfl dX5_mean_7 ?_
  refine lv_istore_n (lv' := [(1, .int m_nM), (0, .ref (h 0))]) hx hb dX5_mean_10 rfl hl (by decide) rfl (fun ls hl => ?_)
  refine lv_iload_n hx hb dX5_mean_11 rfl (lv_at hl 0 rfl) ?_
  refine lv_if_ne (tgt := 17) hx hb dX5_mean_12 (by decide) (fun c_1 => ?_) (fun c_1 => ?_)
  · replace hF := if_f hF c_1
    refine lv_iconst (v := 0) hx hb dX5_mean_17 (by decide) ?_
    refine lv_istore_n (lv' := [(2, .int 0), (1, .int m_nM), (0, .ref (h 0))]) hx hb dX5_mean_18 rfl hl (by decide) rfl (fun ls hl => ?_)
    refine lv_iconst (v := 0) hx hb dX5_mean_19 (by decide) ?_
    refine lv_istore_n (lv' := [(3, .int 0), (2, .int 0), (1, .int m_nM), (0, .ref (h 0))]) hx hb dX5_mean_20 rfl hl (by decide) rfl (fun ls hl => ?_)
    exact L21 300 m_nM 0 0  hF _ _ _ hP hD hS (lv_sub hl [3, 2, 1, 0] rfl)
  · replace hF := if_t hF c_1
    refine lv_dconst0 hx hb dX5_mean_15 ?_
    cases hF
    exact hQ _ _ _ _ _ _ (fun _ => 0) dX5_mean_16 hP hD hS (Nat.le_of_ble_eq_true rfl) (Nat.le_of_ble_eq_true rfl)
