def fLL_build_10 (sa : SAT) : Nat → XT → FN → (Nat → Nat) → zs_H → Int32 → Option (XT × FN × (Nat → Nat) × zs_H)
  | 0, _, _, _, _, _ => none
  | k + 1, X_10, G_10, F_10, p_10, x3_10 => if 36 ≤ x3_10 then some (X_10, G_10, F_10, p_10) else (fL_cell sa (x3_10 - x3_10 / 16 * 16)).bind fun z3 => (if 9 ≤ x3_10 then some 0 else (if (x3_10 - x3_10 / 3 * 3) = 0 then some 9 else if (x3_10 - x3_10 / 3 * 3) = 1 then some 12 else some 4 : Option (Int32)).bind fun (t5 : Int32) => some (512 * t5) : Option (Int32)).bind fun (t4 : Int32) => (fL_act X_10 G_10 F_10 p_10 (((z3 >>> (((x3_10 / 16) * 4) &&& 31)) + (311 * x3_10)) + t4)).bind fun z7 => (if x3_10 ≤ 12 then some (z7.1, z7.2.1, z7.2.2.1, z7.2.2.2) else if (x3_10 - x3_10 / 3 * 3) = 0 then (zx_pass z7.1 1).bind fun z11 => (fX6_pass z7.2.1 z7.2.2.1 z7.2.2.2).bind fun z12 => if z11.1 = z12.1 then some (z11.2, z12.2.1, z12.2.2.1, z12.2.2.2) else none else some (z7.1, z7.2.1, z7.2.2.1, z7.2.2.2) : Option (XT × FN × (Nat → Nat) × zs_H)).bind fun (t9 : XT × FN × (Nat → Nat) × zs_H) => fLL_build_10 sa k t9.1 t9.2.1 t9.2.2.1 t9.2.2.2 (x3_10 + 1)
def fL_build (sa : SAT) (X : XT) : Option (XT × FN × (Nat → Nat) × zs_H) := (fX6_init).bind fun z0 => (fLL_build_10 sa 37 X zs_G0 z0.1 z0.2 0).bind fun (o1 : XT × FN × (Nat → Nat) × zs_H) => some (o1.1, o1.2.1, o1.2.2.1, o1.2.2.2)
abbrev rL_build : Room := { frames := 7, cells := 3907, slots := 334336, locals := 157 }
set_option maxHeartbeats 40000000 in
set_option maxRecDepth 100000 in
theorem kL_build (l : Launch) (D : va_G) (cy : Nat → ClassId) (sa : SAT) (h : Nat → Nat) (X : XT) (z : XT × FN × (Nat → Nat) × zs_H) (hF : fL_build sa X = some z) : zg_R l D (tyW cy) sa yL_build wsL_build rL_build [.ref (h 0), .ref (sa.1 3)] (zx_W cy h X) (fun (_ : Nat × (Nat → Nat)) => zs_wf z.2.2.2 ∧ zs_fs z.2.2.1 z.2.2.2) (fun u => u.1) (fun u => zs_W (zx_W cy h z.1) cy u.1 u.2 z.2.1 z.2.2.1 z.2.2.2) 3907 334336 := by
  refine zg_R.of (cc := cL_build) (maxL := 4) (Or.inl ⟨_, rfl⟩) (by decide +kernel) rfl (Nat.le_of_ble_eq_true rfl) ?_
  intro pg e s m args below meth c A ls Q hE hQ
  obtain ⟨hx, hb, hml, hown, hts, hA, hP, hK, hD, hG, hl, hnm⟩ := hE
  replace hown : s.vm.findClass RL = some m.cls := hown
  have hiX6 : ∀ w ∈ u_ws RX6 TX6 12, w ∈ wsL_build := by decide +kernel
  replace hl : lv_has ls 4 [(0, .ref (h 0)), (1, .ref (sa.1 3))] := hl
  have hS : va_S A s.heap s.heap [] := va_S.rf
  have L10 : ∀ (hs : Nat) (k : Nat) (X_10 : XT) (G_10 : FN) (F_10 : Nat → Nat) (p_10 : zs_H) (x3_10 : Int32) (o : XT × FN × (Nat → Nat) × zs_H), fLL_build_10 sa k X_10 G_10 F_10 p_10 x3_10 = some o → ∀ (ad_10 : Nat → Nat) (cu_10 su_10 T_ TS_ : Nat), cu_10 + 105 * k ≤ T_ → su_10 + 9034 * k ≤ TS_ → T_ ≤ 3907 → TS_ ≤ 334336 → ∀ (H : Heap) (locs : List Loc) (ls : Array Slot), zs_wf p_10 → zs_fs F_10 p_10 → va_P D vwCl (zs_W (zx_W cy h X_10) cy hs ad_10 G_10 F_10 p_10) H → va_D A (zs_W (zx_W cy h X_10) cy hs ad_10 G_10 F_10 p_10) → va_S A s.heap H locs → lv_has ls 4 [(0, .ref (h 0)), (1, .ref (sa.1 3)), (2, .ref hs), (3, .int x3_10)] → (∀ (ad2 : Nat → Nat) (H : Heap) (locs : List Loc) (ls : Array Slot), zs_wf o.2.2.2 → zs_fs o.2.2.1 o.2.2.2 → va_P D vwCl (zs_W (zx_W cy h o.1) cy hs ad2 o.2.1 o.2.2.1 o.2.2.2) H → va_D A (zs_W (zx_W cy h o.1) cy hs ad2 o.2.1 o.2.2.1 o.2.2.2) → va_S A s.heap H locs → lv_has ls 4 [(2, .ref hs)] → W pg l e rL_build s m args below meth c H locs T_ TS_ Q (F0 m 118 ls [])) → W pg l e rL_build s m args below meth c H locs cu_10 su_10 Q (F0 m 10 ls []) := by
      intro hs k
      induction k with
      | zero =>
          intro X_10 G_10 F_10 p_10 x3_10 o hF
          rw [fLL_build_10] at hF
          cases hF
      | succ k ih =>
          intro X_10 G_10 F_10 p_10 x3_10 o hF ad_10 cu_10 su_10 T_ TS_ hcu_ hsu_ hT_ hTS_ H locs ls hw_10 hf_10 hP hD hS hl kk0
          rw [fLL_build_10] at hF
          refine lv_iload_n hx hb dL_build_10 rfl (lv_at hl 3 rfl) ?_
          refine lv_bipush (v := 36) hx hb dL_build_11 (by decide) ?_
          refine lv_icmp_ge (tgt := 118) hx hb dL_build_13 (by decide) (fun c_2 => ?_) (fun c_2 => ?_)
          ·   replace hF := if_t hF c_2
              cases hF
              refine W.widen (k := T_) (n := TS_) (by omega) (by omega) ?_
              exact kk0 ad_10 _ _ _ hw_10 hf_10 hP hD hS (lv_sub hl [2] rfl)
          ·   replace hF := if_f hF c_2
              refine lv_aload_n hx hb dL_build_16 rfl (lv_at hl 0 rfl) ?_
              refine lv_aload_n hx hb dL_build_17 rfl (lv_at hl 2 rfl) ?_
              refine lv_aload_n hx hb dL_build_18 rfl (lv_at hl 1 rfl) ?_
              refine lv_iload_n hx hb dL_build_19 rfl (lv_at hl 3 rfl) ?_
              refine lv_bipush (v := 16) hx hb dL_build_20 (by decide) ?_
              refine lv_irem hx hb dL_build_22 (by decide) ?_
              replace hF := bnd_some hF
              obtain ⟨z3, hz_3, hF⟩ := hF
              refine krI (kS (As := [.ref (sa.1 3), .int (x3_10 - x3_10 / 16 * 16)]) ⟨hx, hb, hml, hown, hts⟩ (kL_cell l D cy sa (x3_10 - x3_10 / 16 * 16) z3 hz_3 _) (va_cwS 2 hts gL_build_L_cell rfl rfl rfl (by decide +kernel) ⟨Nat.le_of_ble_eq_true rfl, Nat.le_of_ble_eq_true rfl⟩) hK hP hD hS hA hG [] rfl rfl rfl hl.1 [.ref hs, .ref (h 0)] rfl (Nat.le_of_ble_eq_true rfl) dL_build_23 ⟨(by show _ ≤ (3907 : Nat); omega), (by show _ ≤ (334336 : Nat); omega)⟩) hP hD hS hA [] rfl (fun H locs hP hS => ?_)
              refine lv_iload_n hx hb dL_build_26 rfl (lv_at hl 3 rfl) ?_
              refine lv_bipush (v := 16) hx hb dL_build_27 (by decide) ?_
              refine lv_idiv hx hb dL_build_29 (by decide) ?_
              refine lv_iconst (v := 4) hx hb dL_build_30 (by decide) ?_
              refine lv_imul hx hb dL_build_31 ?_
              refine lv_ishr hx hb dL_build_32 ?_
              refine lv_sipush (v := 311) hx hb dL_build_33 (by decide) ?_
              refine lv_iload_n hx hb dL_build_36 rfl (lv_at hl 3 rfl) ?_
              refine lv_imul hx hb dL_build_37 ?_
              refine lv_iadd hx hb dL_build_38 ?_
              refine lv_iload_n hx hb dL_build_39 rfl (lv_at hl 3 rfl) ?_
              refine lv_bipush (v := 9) hx hb dL_build_40 (by decide) ?_
              replace hF := bnd_some hF
              obtain ⟨t4, hz_4, hF⟩ := hF
              have J4 : ∀ (H : Heap) (locs : List Loc) (ls : Array Slot), va_P D vwCl (zs_W (zx_W cy h X_10) cy hs ad_10 G_10 F_10 p_10) H → va_D A (zs_W (zx_W cy h X_10) cy hs ad_10 G_10 F_10 p_10) → va_S A s.heap H locs → lv_has ls 4 [(0, .ref (h 0)), (1, .ref (sa.1 3)), (2, .ref hs), (3, .int x3_10)] → W pg l e rL_build s m args below meth c H locs (cu_10) (su_10) Q (F0 m 77 ls [.int t4, .int ((z3 >>> (((x3_10 / 16) * 4) &&& 31)) + (311 * x3_10)), .ref hs, .ref (h 0)]) := by
                  intro H locs ls hP hD hS hl
                  refine lv_iadd hx hb dL_build_77 ?_
                  replace hF := bnd_some hF
                  obtain ⟨z7, hz_7, hF⟩ := hF
                  refine zc_I (P := []) (kS (As := [.ref (h 0), .ref hs, .int (((z3 >>> (((x3_10 / 16) * 4) &&& 31)) + (311 * x3_10)) + t4)]) ⟨hx, hb, hml, hown, hts⟩ (kL_act l D cy sa h hs ad_10 X_10 G_10 F_10 p_10 (((z3 >>> (((x3_10 / 16) * 4) &&& 31)) + (311 * x3_10)) + t4) hw_10 hf_10  z7 hz_7 _) (va_cwS 3 hts gL_build_L_act rfl rfl rfl (by decide +kernel) ⟨Nat.le_of_ble_eq_true rfl, Nat.le_of_ble_eq_true rfl⟩) hK hP hD hS hA hG (List.range' ([] : va_W).length (zs_W (zx_W cy h X_10) cy hs ad_10 G_10 F_10 p_10).length) (zp_map2 [] _) (zp_nd2 _ _) rfl hl.1 [] rfl (Nat.le_of_ble_eq_true rfl) dL_build_78 ⟨(by show _ ≤ (3907 : Nat); omega), (by show _ ≤ (334336 : Nat); omega)⟩) hP hD hS hA (fun r7 ad7 H locs hq7 hP hD hS => ?_)
                  obtain ⟨rfl, hw7, hf_7, lf7, ha7⟩ := hq7
                  replace hP : va_P D vwCl (zs_W (zx_W cy h z7.1) cy hs ad7 z7.2.1 z7.2.2.1 z7.2.2.2) H := hP
                  replace hD : va_D A (zs_W (zx_W cy h z7.1) cy hs ad7 z7.2.1 z7.2.2.1 z7.2.2.2) := hD
                  refine lv_if_ne (tgt := 86) hx hb dL_build_81 (by decide) (fun _ => ?_) (fun c9 => absurd c9 (by decide))
                  refine lv_iload_n hx hb dL_build_86 rfl (lv_at hl 3 rfl) ?_
                  refine lv_bipush (v := 12) hx hb dL_build_87 (by decide) ?_
                  replace hF := bnd_some hF
                  obtain ⟨t9, hz_9, hF⟩ := hF
                  have J9 : ∀ (ad9 : Nat → Nat) (H : Heap) (locs : List Loc) (ls : Array Slot), (zs_wf t9.2.2.2) → (zs_fs t9.2.2.1 t9.2.2.2) → va_P D vwCl (zs_W (zx_W cy h t9.1) cy hs ad9 t9.2.1 t9.2.2.1 t9.2.2.2) H → va_D A (zs_W (zx_W cy h t9.1) cy hs ad9 t9.2.1 t9.2.2.1 t9.2.2.2) → va_S A s.heap H locs → lv_has ls 4 [(0, .ref (h 0)), (1, .ref (sa.1 3)), (2, .ref hs), (3, .int x3_10)] → W pg l e rL_build s m args below meth c H locs (cu_10 + 105) (su_10 + 9034) Q (F0 m 112 ls []) := by
                      intro ad9 H locs ls hw9j hf9j hP hD hS hl
                      refine lv_iinc (v := x3_10 + 1) (lv' := [(3, .int (x3_10 + 1)), (0, .ref (h 0)), (1, .ref (sa.1 3)), (2, .ref hs)]) hx hb dL_build_112 hl (k := 3) rfl rfl (by decide) rfl (fun ls hl => ?_)
                      refine lv_goto (tgt := 10) hx hb dL_build_115 (by decide) ?_
                      exact ih t9.1 t9.2.1 t9.2.2.1 t9.2.2.2 (x3_10 + 1) o hF ad9 (cu_10 + 105) (su_10 + 9034) T_ TS_ (by omega) (by omega) hT_ hTS_ _ _ _ hw9j hf9j hP hD hS (lv_sub hl [1, 2, 3, 0] rfl) kk0
                  replace hF := hz_9
                  refine lv_icmp_le (tgt := 112) hx hb dL_build_89 (by decide) (fun c_9 => ?_) (fun c_9 => ?_)
                  ·   replace hF := if_t hF c_9
                      cases hF
                      refine W.widen (k := cu_10 + 105) (n := su_10 + 9034) (by omega) (by omega) ?_
                      exact J9 ad7 _ _ _ hw7 hf_7 hP hD hS (lv_sub hl [0, 1, 2, 3] rfl)
                  ·   replace hF := if_f hF c_9
                      refine lv_iload_n hx hb dL_build_92 rfl (lv_at hl 3 rfl) ?_
                      refine lv_iconst (v := 3) hx hb dL_build_93 (by decide) ?_
                      refine lv_irem hx hb dL_build_94 (by decide) ?_
                      refine lv_if_ne (tgt := 112) hx hb dL_build_95 (by decide) (fun c_10 => ?_) (fun c_10 => ?_)
                      ·   replace hF := if_f hF c_10
                          cases hF
                          refine W.widen (k := cu_10 + 105) (n := su_10 + 9034) (by omega) (by omega) ?_
                          exact J9 ad7 _ _ _ hw7 hf_7 hP hD hS (lv_sub hl [0, 1, 2, 3] rfl)
                      ·   replace hF := if_t hF c_10
                          refine lv_aload_n hx hb dL_build_98 rfl (lv_at hl 0 rfl) ?_
                          refine lv_iconst (v := 1) hx hb dL_build_99 (by decide) ?_
                          replace hF := bnd_some hF
                          obtain ⟨z11, hz_11, hF⟩ := hF
                          refine zw_xI (P2 := zx_W cy h z11.2) (kV (As := [.int 1]) ⟨hx, hb, hml, hown, hts⟩ (kzx_pass l D cy sa h z7.1 1 z11 hz_11 _) (cwV 1 hts gL_build_X5_pass rfl rfl rfl (by decide +kernel) ⟨Nat.le_of_ble_eq_true rfl, Nat.le_of_ble_eq_true rfl⟩) hK hP hD hS hA hG (List.range (zx_W cy h z7.1).length) zw_map1 (zp_nd1 _) zx_at rfl rfl rfl hl.1 [] rfl (Nat.le_of_ble_eq_true rfl) dL_build_100 ⟨(by show _ ≤ (3907 : Nat); omega), (by show _ ≤ (334336 : Nat); omega)⟩) hP hD hS hA zx_m (fun H locs hP hD hS => ?_)
                          refine lv_aload_n hx hb dL_build_103 rfl (lv_at hl 2 rfl) ?_
                          replace hF := bnd_some hF
                          obtain ⟨z12, hz_12, hF⟩ := hF
                          refine zw_I (kV (As := []) ⟨hx, hb, hml, hown, hts⟩ (kX6_pass l D cy sa hs ad7 z7.2.1 z7.2.2.1 z7.2.2.2  hw7 hf_7  z12 hz_12 _) (cwV 0 hts gL_build_X6_pass rfl rfl rfl (by decide +kernel) ⟨Nat.le_of_ble_eq_true rfl, Nat.le_of_ble_eq_true rfl⟩) hK hP hD hS hA hG (List.range' ((zx_W cy h z11.2) : va_W).length (zs_W [] cy hs ad7 z7.2.1 z7.2.2.1 z7.2.2.2).length) zw_map2 (zp_nd2 _ _) (zs_at (P := [])) rfl rfl rfl hl.1 [.int z11.1] rfl (Nat.le_of_ble_eq_true rfl) dL_build_104 ⟨(by show _ ≤ (3907 : Nat); omega), (by show _ ≤ (334336 : Nat); omega)⟩) hP hD hS hA (fun r12 ad12 H locs hq12 hP hD hS => ?_)
                          obtain ⟨rfl, hw12, hf_12, lf12, ha12⟩ := hq12
                          replace hP : va_P D vwCl (zs_W (zx_W cy h z11.2) cy hs ad12 z12.2.1 z12.2.2.1 z12.2.2.2) H := hP
                          replace hD : va_D A (zs_W (zx_W cy h z11.2) cy hs ad12 z12.2.1 z12.2.2.1 z12.2.2.2) := hD
                          refine lv_icmp_eq (tgt := 112) hx hb dL_build_107 (by decide) (fun c_13 => ?_) (fun c_13 => ?_)
                          ·   replace hF := if_t hF c_13
                              cases hF
                              exact J9 ad12 _ _ _ hw12 hf_12 hP hD hS (lv_sub hl [0, 1, 2, 3] rfl)
                          ·   replace hF := if_f hF c_13
                              cases hF
              replace hF := hz_4
              refine lv_icmp_ge (tgt := 76) hx hb dL_build_42 (by decide) (fun c_4 => ?_) (fun c_4 => ?_)
              ·   replace hF := if_t hF c_4
                  refine lv_iconst (v := 0) hx hb dL_build_76 (by decide) ?_
                  cases hF
                  exact J4 _ _ _ hP hD hS (lv_sub hl [0, 1, 2, 3] rfl)
              ·   replace hF := if_f hF c_4
                  refine lv_sipush (v := 512) hx hb dL_build_45 (by decide) ?_
                  refine lv_iload_n hx hb dL_build_48 rfl (lv_at hl 3 rfl) ?_
                  refine lv_iconst (v := 3) hx hb dL_build_49 (by decide) ?_
                  refine lv_irem hx hb dL_build_50 (by decide) ?_
                  replace hF := bnd_some hF
                  obtain ⟨t5, hz_5, hF⟩ := hF
                  have J5 : ∀ (H : Heap) (locs : List Loc) (ls : Array Slot), va_P D vwCl (zs_W (zx_W cy h X_10) cy hs ad_10 G_10 F_10 p_10) H → va_D A (zs_W (zx_W cy h X_10) cy hs ad_10 G_10 F_10 p_10) → va_S A s.heap H locs → lv_has ls 4 [(0, .ref (h 0)), (1, .ref (sa.1 3)), (2, .ref hs), (3, .int x3_10)] → W pg l e rL_build s m args below meth c H locs (cu_10) (su_10) Q (F0 m 72 ls [.int t5, .int 512, .int ((z3 >>> (((x3_10 / 16) * 4) &&& 31)) + (311 * x3_10)), .ref hs, .ref (h 0)]) := by
                      intro H locs ls hP hD hS hl
                      refine lv_imul hx hb dL_build_72 ?_
                      refine lv_goto (tgt := 77) hx hb dL_build_73 (by decide) ?_
                      cases hF
                      exact J4 _ _ _ hP hD hS (lv_sub hl [0, 1, 2, 3] rfl)
                  replace hF := hz_5
                  refine lv_if_ne (tgt := 59) hx hb dL_build_51 (by decide) (fun c_5 => ?_) (fun c_5 => ?_)
                  ·   replace hF := if_f hF c_5
                      refine lv_iload_n hx hb dL_build_59 rfl (lv_at hl 3 rfl) ?_
                      refine lv_iconst (v := 3) hx hb dL_build_60 (by decide) ?_
                      refine lv_irem hx hb dL_build_61 (by decide) ?_
                      refine lv_iconst (v := 1) hx hb dL_build_62 (by decide) ?_
                      refine lv_icmp_ne (tgt := 71) hx hb dL_build_63 (by decide) (fun c_6 => ?_) (fun c_6 => ?_)
                      ·   replace hF := if_f hF c_6
                          refine lv_iconst (v := 4) hx hb dL_build_71 (by decide) ?_
                          cases hF
                          exact J5 _ _ _ hP hD hS (lv_sub hl [0, 1, 2, 3] rfl)
                      ·   replace hF := if_t hF c_6
                          refine lv_bipush (v := 12) hx hb dL_build_66 (by decide) ?_
                          refine lv_goto (tgt := 72) hx hb dL_build_68 (by decide) ?_
                          cases hF
                          exact J5 _ _ _ hP hD hS (lv_sub hl [0, 1, 2, 3] rfl)
                  ·   replace hF := if_t hF c_5
                      refine lv_bipush (v := 9) hx hb dL_build_54 (by decide) ?_
                      refine lv_goto (tgt := 72) hx hb dL_build_56 (by decide) ?_
                      cases hF
                      exact J5 _ _ _ hP hD hS (lv_sub hl [0, 1, 2, 3] rfl)
  unfold fL_build at hF
  refine va_new (ci := 6) (fs := [.int 0, .int 0, .int 0, .int 0, .int 0, .null, .null, .null, .null, .null, .null, .null]) (C := RX6) (T := TX6) (N := 12) hx hb hts hiX6 tyX6 tyX6_ok hown (hts (.classLink RL 10 RX6) (by decide +kernel)) (hts (.instantiable RX6 12) (by decide +kernel)) (hts (.initialized RX6) (by decide +kernel)) hK hP hD hS hA rfl (fun j hj => by rcases (show j = 0 ∨ j = 1 ∨ j = 2 ∨ j = 3 ∨ j = 4 ∨ j = 5 ∨ j = 6 ∨ j = 7 ∨ j = 8 ∨ j = 9 ∨ j = 10 ∨ j = 11 by omega) with rfl | rfl | rfl | rfl | rfl | rfl | rfl | rfl | rfl | rfl | rfl | rfl <;> rfl) (Nat.le_of_ble_eq_true rfl) (Nat.le_of_ble_eq_true rfl) dL_build_0 (fun hs H hP hD hS => ?_)
  refine lv_dup hx hb dL_build_3 rfl ?_
  have hn91 : va_Nw (.methodLinkNest RL 91 yX6_init "RagVatsLaw") s := hG.1.1 _ (by decide +kernel)
  replace hF := bnd_some hF
  obtain ⟨z0, hz_0, hF⟩ := hF
  refine zc_V (P := zx_W cy h X) (kNN (As := []) ⟨hx, hb, hml, hown, hts⟩ (kX6_init l D cy sa hs z0 hz_0 _) ⟨va_cnB (host := "RagVatsLaw") 0 hts gL_build_X6_init_n91 rfl rfl rfl hn91 (hts (.initialized RX6) (by decide +kernel)) (by decide +kernel) ⟨Nat.le_of_ble_eq_true rfl, Nat.le_of_ble_eq_true rfl⟩, rfl, hts (.instanceMethod yX6_init) (by decide +kernel)⟩ hK hP hD hS hA hG _ (zp_map2 _ _) (zp_nd2 _ _) rfl hl.1 [.ref hs] rfl (Nat.le_of_ble_eq_true rfl) dL_build_4 ⟨(Nat.le_of_ble_eq_true rfl), (Nat.le_of_ble_eq_true rfl)⟩) hP hD hS hA (fun ad0 H locs hq hP hD hS => ?_)
  rw [← zw_l] at hP hD
  obtain ⟨hw, hf⟩ := hq
  refine lv_astore_n (lv' := [(2, .ref hs), (0, .ref (h 0)), (1, .ref (sa.1 3))]) hx hb dL_build_7 rfl hl (by decide) rfl (fun ls hl => ?_)
  refine lv_iconst (v := 0) hx hb dL_build_8 (by decide) ?_
  refine lv_istore_n (lv' := [(3, .int 0), (2, .ref hs), (0, .ref (h 0)), (1, .ref (sa.1 3))]) hx hb dL_build_9 rfl hl (by decide) rfl (fun ls hl => ?_)
  replace hF := bnd_some hF
  obtain ⟨o1, hz_1, hF⟩ := hF
  refine L10 hs 37 X zs_G0 z0.1 z0.2 0 o1 hz_1 ad0 (22) (78) (3907) (334336) (Nat.le_of_ble_eq_true rfl) (Nat.le_of_ble_eq_true rfl) (Nat.le_of_ble_eq_true rfl) (Nat.le_of_ble_eq_true rfl) _ _ _ hw hf hP hD hS (lv_sub hl [2, 3, 1, 0] rfl) (fun ad1_0 H locs ls hw1_0 hf1_0 hP hD hS hl => ?_)
  refine lv_aload_n hx hb dL_build_118 rfl (lv_at hl 0 rfl) ?_
  cases hF
  exact hQ _ _ _ _ _ _ (hs, ad1_0) dL_build_119 ⟨hw1_0, hf1_0⟩ hP hD hS (Nat.le_of_ble_eq_true rfl) (Nat.le_of_ble_eq_true rfl)
