def fLX6_pass_13 (p_13 : zs_H) (q2_13 : Nat) (x3_13 : Int32) : Nat → Int32 → Int32 → Option (Int32)
  | 0, _, _ => none
  | k + 1, x1_13, x4_13 => if x3_13 ≤ x4_13 then some x1_13 else (zs_ldr p_13 q2_13 x4_13).bind fun x4 => (zs_ld p_13 x4 0).bind fun x5 => (if x5 ≤ 0 then some 0 else some 1 : Option (Int32)).bind fun (t6 : Int32) => fLX6_pass_13 p_13 q2_13 x3_13 k (x1_13 + t6) (x4_13 + 1)
def fLX6_pass_57 (G_57 : FN) (F_57 : Nat → Nat) (x1_57 : Int32) (q2_57 : Nat) (x3_57 : Int32) : Nat → zs_H → Int32 → Option (zs_H)
  | 0, _, _ => none
  | k + 1, p_57, x4_57 => if x3_57 ≤ x4_57 then some p_57 else (zs_ldr p_57 q2_57 x4_57).bind fun x10 => (zs_ld p_57 x10 0).bind fun x11 => (if x11 ≤ 0 then some p_57 else (zs_ld p_57 x10 1).bind fun x13 => (zs_ld p_57 (F_57 5) ((G_57 0) - (G_57 0) / 7 * 7)).bind fun x14 => ckZ x1_57 ((zs_st p_57 x10 1 (if (x13 + ((x14 * 3) / x1_57)) < 99 then (x13 + ((x14 * 3) / x1_57)) else 99)).bind fun p16 => some p16) : Option (zs_H)).bind fun (t12 : zs_H) => fLX6_pass_57 G_57 F_57 x1_57 q2_57 x3_57 k t12 (x4_57 + 1)
def fLX6_pass_126 (q3_126 : Nat) (x4_126 : Int32) : Nat → FN → (Nat → Nat) → zs_H → Int32 → Int32 → Option (FN × (Nat → Nat) × zs_H × Int32)
  | 0, _, _, _, _, _ => none
  | k + 1, G_126, F_126, p_126, x2_126, x5_126 => if x4_126 ≤ x5_126 then some (G_126, F_126, p_126, x2_126) else (zs_ldr p_126 q3_126 x5_126).bind fun x20 => (fX6_makes G_126 F_126 p_126 x20).bind fun z21 => (if z21 = 0 then some (G_126, F_126, p_126, x2_126) else (zs_ld p_126 x20 1).bind fun x23 => (zs_ldr p_126 (F_126 7) x23).bind fun x24 => (zs_ld p_126 x20 2).bind fun x25 => (zs_ldr p_126 (F_126 8) x25).bind fun x26 => (zs_ld p_126 x24 1).bind fun x27 => (zs_ld p_126 x24 2).bind fun x28 => (zs_ld p_126 x26 2).bind fun x29 => (if 7 ≤ ((((x27 / 10) + 6) - (3 * x28)) - (x29 / 10)) then if 12 ≤ ((((x27 / 10) + 6) - (3 * x28)) - (x29 / 10)) then some 0 else some 1 else some 2 : Option (Int32)).bind fun (t30 : Int32) => (zs_nwi p_126 3 3).bind fun p32 => (zs_ld p32 x26 0).bind fun x33 => (zs_st p32 p_126.1 0 x33).bind fun p34 => (zs_st p34 p_126.1 1 t30).bind fun p35 => (zs_st p35 p_126.1 2 z21).bind fun p36 => (fX6_more p36 (F_126 10) p_126.1).bind fun z37 => (zs_ld z37.2 x24 0).bind fun x39 => (zs_ld z37.2 x26 1).bind fun x40 => (zs_st z37.2 x24 0 (x39 - (z21 * x40))).bind fun p41 => (zs_ld p41 x24 0).bind fun x42 => (if x42 = 0 then (zs_st p41 x24 1 0).bind fun p44 => (zs_st p44 x24 2 (-1)).bind fun p45 => some p45 else some p41 : Option (zs_H)).bind fun (t43 : zs_H) => (zs_ld t43 x26 2).bind fun x46 => (zs_st t43 x26 2 (if ((x46 + (z21 / 2)) + (z21 - z21 / 2 * 2)) < 50 then ((x46 + (z21 / 2)) + (z21 - z21 / 2 * 2)) else 50)).bind fun p47 => (fX6_worth t30).bind fun z48 => some (upd G_126 4 ((G_126 4) + (z21 * z48)), va_up F_126 10 z37.1, p47, x2_126 + z21) : Option (FN × (Nat → Nat) × zs_H × Int32)).bind fun (t22 : FN × (Nat → Nat) × zs_H × Int32) => fLX6_pass_126 q3_126 x4_126 k t22.1 t22.2.1 t22.2.2.1 t22.2.2.2 (x5_126 + 1)
def fLX6_pass_369 (F_369 : Nat → Nat) (q4_369 : Nat) (x5_369 : Int32) : Nat → zs_H → Int32 → Int32 → Option (zs_H)
  | 0, _, _, _ => none
  | k + 1, p_369, x3_369, x6_369 => if x5_369 ≤ x6_369 then some p_369 else (zs_ldr p_369 q4_369 x6_369).bind fun x52 => (zs_ld p_369 x52 2).bind fun x53 => (if x3_369 ≤ x53 then some x3_369 else (zs_ld p_369 x52 2).bind fun x55 => some x55 : Option (Int32)).bind fun (t54 : Int32) => (zs_ld p_369 x52 0).bind fun x56 => (zs_ldr p_369 (F_369 11) x56).bind fun x57 => (zs_ld p_369 x52 1).bind fun x58 => (zs_ld p_369 x57 x58).bind fun x59 => (zs_st p_369 x57 x58 (x59 + t54)).bind fun p60 => (zs_ld p60 x52 2).bind fun x61 => (zs_st p60 x52 2 (x61 - t54)).bind fun p62 => fLX6_pass_369 F_369 q4_369 x5_369 k p62 (x3_369 - t54) (x6_369 + 1)
def fLX6_pass_460 (q5_460 : Nat) (x6_460 : Int32) : Nat → zs_H → Nat → Int32 → Option (zs_H × Nat)
  | 0, _, _, _ => none
  | k + 1, p_460, q4_460, x7_460 => if x6_460 ≤ x7_460 then some (p_460, q4_460) else (zs_ldr p_460 q5_460 x7_460).bind fun x67 => (zs_ld p_460 x67 2).bind fun x68 => (if x68 ≤ 0 then some (p_460, q4_460) else (fX6_more p_460 q4_460 x67).bind fun z70 => some (z70.2, z70.1) : Option (zs_H × Nat)).bind fun (t69 : zs_H × Nat) => fLX6_pass_460 q5_460 x6_460 k t69.1 t69.2 (x7_460 + 1)
def fX6_pass (G : FN) (F : Nat → Nat) (p : zs_H) : Option (Int32 × FN × (Nat → Nat) × zs_H) := (zs_len p (F 7)).bind fun x1 => (fLX6_pass_13 p (F 7) x1 300 0 0).bind fun (o2 : Int32) => (zs_len p (F 7)).bind fun x7 => (fLX6_pass_57 G F o2 (F 7) x7 300 p 0).bind fun (o8 : zs_H) => (zs_len o8 (F 9)).bind fun x17 => (fLX6_pass_126 (F 9) x17 5 G F o8 0 0).bind fun (o18 : FN × (Nat → Nat) × zs_H × Int32) => (zs_len o18.2.2.1 (o18.2.1 10)).bind fun x49 => (fLX6_pass_369 o18.2.1 (o18.2.1 10) x49 300 o18.2.2.1 24 0).bind fun (o50 : zs_H) => (zs_nwr o50 0 0).bind fun p63 => (zs_len p63 (o18.2.1 10)).bind fun x64 => (fLX6_pass_460 (o18.2.1 10) x64 92 p63 o50.1 0).bind fun (o65 : zs_H × Nat) => some (o18.2.2.2, upd (upd o18.1 3 ((o18.1 3) + o18.2.2.2)) 0 ((o18.1 0) + 1), va_up o18.2.1 10 o65.2, o65.1)
abbrev rX6_pass : Room := { frames := 2, cells := 103, slots := 8939, locals := 47 }
set_option maxHeartbeats 40000000 in
set_option maxRecDepth 100000 in
theorem kX6_pass (l : Launch) (D : va_G) (cy : Nat → ClassId) (sa : SAT) (hs : Nat) (ad : Nat → Nat) (G : FN) (F : Nat → Nat) (p : zs_H) (hw : zs_wf p) (hf : zs_fs F p) (z : Int32 × FN × (Nat → Nat) × zs_H) (hF : fX6_pass G F p = some z) : zg_I l D (tyW cy) sa yX6_pass wsX6_pass rX6_pass [.ref hs] (zs_W [] cy hs ad G F p) (fun r u => r = z.1 ∧ zs_ok p z.2.2.1 z.2.2.2 ad u) (fun u => zs_W [] cy hs u z.2.1 z.2.2.1 z.2.2.2) 103 8939 := by
  refine zg_I.of (cc := cX6_pass) (maxL := 12) (by decide +kernel) rfl (Nat.le_of_ble_eq_true rfl) ?_
  intro pg e s m args below meth c A ls Q hE hQ
  obtain ⟨hx, hb, hml, hown, hts, hA, hP, hK, hD, hG, hl, hnm⟩ := hE
  replace hown : s.vm.findClass RX6 = some m.cls := hown
  have hiX6 : ∀ w ∈ u_ws RX6 TX6 12, w ∈ wsX6_pass := by decide +kernel
  have hf16 : (Cond.fieldLink RX6 16 "RagVatsLaw$Sim" "water" "[I").before args s = true := hts _ (by decide +kernel)
  have hf24 : (Cond.fieldLink RX6 24 "RagVatsLaw$Sim" "vats" "[[I").before args s = true := hts _ (by decide +kernel)
  have hf28 : (Cond.fieldLink RX6 28 "RagVatsLaw$Sim" "pairs" "[[I").before args s = true := hts _ (by decide +kernel)
  have hf31 : (Cond.fieldLink RX6 31 "RagVatsLaw$Sim" "teams" "[[I").before args s = true := hts _ (by decide +kernel)
  have hf34 : (Cond.fieldLink RX6 34 "RagVatsLaw$Sim" "posts" "[[I").before args s = true := hts _ (by decide +kernel)
  have hf38 : (Cond.fieldLink RX6 38 "RagVatsLaw$Sim" "loft" "[[I").before args s = true := hts _ (by decide +kernel)
  have hf46 : (Cond.fieldLink RX6 46 "RagVatsLaw$Sim" "day" "I").before args s = true := hts _ (by decide +kernel)
  have hf49 : (Cond.fieldLink RX6 49 "RagVatsLaw$Sim" "made" "I").before args s = true := hts _ (by decide +kernel)
  have hf52 : (Cond.fieldLink RX6 52 "RagVatsLaw$Sim" "worth" "I").before args s = true := hts _ (by decide +kernel)
  replace hl : lv_has ls 12 [(0, .ref hs)] := hl
  have hS : va_S A s.heap s.heap [] := va_S.rf
  have L13 : ∀ (k : Nat) (G_13 : FN) (F_13 : Nat → Nat) (p_13 : zs_H) (x1_13 : Int32) (q2_13 : Nat) (x3_13 : Int32) (x4_13 : Int32) (o : Int32), fLX6_pass_13 p_13 q2_13 x3_13 k x1_13 x4_13 = some o → ∀ (ad_13 : Nat → Nat) (cu_13 su_13 T_ TS_ : Nat), cu_13 + 0 * k ≤ T_ → su_13 + 0 * k ≤ TS_ → T_ ≤ 103 → TS_ ≤ 8939 → ∀ (H : Heap) (locs : List Loc) (ls : Array Slot), zs_wf p_13 → zs_fs F_13 p_13 → p.1 ≤ (p_13).1 → (∀ i, i < p.1 → ad_13 i = ad i) → q2_13 < (p_13).1 → va_P D vwCl (zs_W [] cy hs ad_13 G_13 F_13 p_13) H → va_D A (zs_W [] cy hs ad_13 G_13 F_13 p_13) → va_S A s.heap H locs → lv_has ls 12 [(0, .ref hs), (1, .int x1_13), (2, .ref (ad_13 q2_13)), (3, .int x3_13), (4, .int x4_13)] → (∀ (H : Heap) (locs : List Loc) (ls : Array Slot), zs_wf p_13 → zs_fs F_13 p_13 → p.1 ≤ (p_13).1 → (∀ i, i < p.1 → ad_13 i = ad i) → va_P D vwCl (zs_W [] cy hs ad_13 G_13 F_13 p_13) H → va_D A (zs_W [] cy hs ad_13 G_13 F_13 p_13) → va_S A s.heap H locs → lv_has ls 12 [(0, .ref hs), (1, .int o)] → W pg l e rX6_pass s m args below meth c H locs T_ TS_ Q (F0 m 46 ls [])) → W pg l e rX6_pass s m args below meth c H locs cu_13 su_13 Q (F0 m 13 ls []) := by
      intro k
      induction k with
      | zero =>
          intro G_13 F_13 p_13 x1_13 q2_13 x3_13 x4_13 o hF
          rw [fLX6_pass_13] at hF
          cases hF
      | succ k ih =>
          intro G_13 F_13 p_13 x1_13 q2_13 x3_13 x4_13 o hF ad_13 cu_13 su_13 T_ TS_ hcu_ hsu_ hT_ hTS_ H locs ls hw_13 hf_13 le_13 ha_13 fq2_13 hP hD hS hl kk0
          rw [fLX6_pass_13] at hF
          refine lv_iload hx hb dX6_pass_13 (lv_at hl 4 rfl) ?_
          refine lv_iload_n hx hb dX6_pass_15 rfl (lv_at hl 3 rfl) ?_
          refine lv_icmp_ge (tgt := 46) hx hb dX6_pass_16 (by decide) (fun c_3 => ?_) (fun c_3 => ?_)
          ·   replace hF := if_t hF c_3
              cases hF
              refine W.widen (k := T_) (n := TS_) (by omega) (by omega) ?_
              exact kk0 _ _ _ hw_13 hf_13 le_13 ha_13 hP hD hS (lv_sub hl [0, 1] rfl)
          ·   replace hF := if_f hF c_3
              refine lv_aload_n hx hb dX6_pass_19 rfl (lv_at hl 2 rfl) ?_
              refine lv_iload hx hb dX6_pass_20 (lv_at hl 4 rfl) ?_
              replace hF := bnd_some hF
              obtain ⟨x4, hz_4, hF⟩ := hF
              refine sx_ldr hx hb hK hP hz_4 dX6_pass_22 ?_
              have fx4 : x4 < (p_13).1 := zs_ldr_lt hw_13 hz_4
              refine lv_astore (lv' := [(5, .ref (ad_13 x4)), (0, .ref hs), (1, .int x1_13), (2, .ref (ad_13 q2_13)), (3, .int x3_13), (4, .int x4_13)]) hx hb dX6_pass_23 hl (by decide) rfl (fun ls hl => ?_)
              refine lv_iload_n hx hb dX6_pass_25 rfl (lv_at hl 2 rfl) ?_
              refine lv_aload hx hb dX6_pass_26 (lv_at hl 0 rfl) ?_
              refine lv_iconst (v := 0) hx hb dX6_pass_28 (by decide) ?_
              replace hF := bnd_some hF
              obtain ⟨x5, hz_5, hF⟩ := hF
              refine sx_ld hx hb hK hP hz_5 dX6_pass_29 ?_
              replace hF := bnd_some hF
              obtain ⟨t6, hz_6, hF⟩ := hF
              have J6 : ∀ (H : Heap) (locs : List Loc) (ls : Array Slot), va_P D vwCl (zs_W [] cy hs ad_13 G_13 F_13 p_13) H → va_D A (zs_W [] cy hs ad_13 G_13 F_13 p_13) → va_S A s.heap H locs → lv_has ls 12 [(0, .ref hs), (2, .ref (ad_13 q2_13)), (3, .int x3_13), (4, .int x4_13)] → W pg l e rX6_pass s m args below meth c H locs (cu_13) (su_13) Q (F0 m 38 ls [.int t6, .int x1_13]) := by
                  intro H locs ls hP hD hS hl
                  refine lv_iadd hx hb dX6_pass_38 ?_
                  refine lv_istore_n (lv' := [(1, .int (x1_13 + t6)), (0, .ref hs), (2, .ref (ad_13 q2_13)), (3, .int x3_13), (4, .int x4_13)]) hx hb dX6_pass_39 rfl hl (by decide) rfl (fun ls hl => ?_)
                  refine lv_iinc (v := x4_13 + 1) (lv' := [(4, .int (x4_13 + 1)), (1, .int (x1_13 + t6)), (0, .ref hs), (2, .ref (ad_13 q2_13)), (3, .int x3_13)]) hx hb dX6_pass_40 hl (k := 4) rfl rfl (by decide) rfl (fun ls hl => ?_)
                  refine lv_goto (tgt := 13) hx hb dX6_pass_43 (by decide) ?_
                  exact ih G_13 F_13 p_13 (x1_13 + t6) q2_13 x3_13 (x4_13 + 1) o hF ad_13 (cu_13) (su_13) T_ TS_ (by omega) (by omega) hT_ hTS_ _ _ _ hw_13 hf_13 le_13 ha_13 fq2_13 hP hD hS (lv_sub hl [2, 1, 3, 4, 0] rfl) kk0
              replace hF := hz_6
              refine lv_if_le (tgt := 37) hx hb dX6_pass_30 (by decide) (fun c_6 => ?_) (fun c_6 => ?_)
              ·   replace hF := if_t hF c_6
                  refine lv_iconst (v := 0) hx hb dX6_pass_37 (by decide) ?_
                  cases hF
                  exact J6 _ _ _ hP hD hS (lv_sub hl [1, 3, 4, 5] rfl)
              ·   replace hF := if_f hF c_6
                  refine lv_iconst (v := 1) hx hb dX6_pass_33 (by decide) ?_
                  refine lv_goto (tgt := 38) hx hb dX6_pass_34 (by decide) ?_
                  cases hF
                  exact J6 _ _ _ hP hD hS (lv_sub hl [1, 3, 4, 5] rfl)
  have L57 : ∀ (k : Nat) (G_57 : FN) (F_57 : Nat → Nat) (p_57 : zs_H) (x1_57 : Int32) (q2_57 : Nat) (x3_57 : Int32) (x4_57 : Int32) (o : zs_H), fLX6_pass_57 G_57 F_57 x1_57 q2_57 x3_57 k p_57 x4_57 = some o → ∀ (ad_57 : Nat → Nat) (cu_57 su_57 T_ TS_ : Nat), cu_57 + 0 * k ≤ T_ → su_57 + 0 * k ≤ TS_ → T_ ≤ 103 → TS_ ≤ 8939 → ∀ (H : Heap) (locs : List Loc) (ls : Array Slot), zs_wf p_57 → zs_fs F_57 p_57 → p.1 ≤ (p_57).1 → (∀ i, i < p.1 → ad_57 i = ad i) → q2_57 < (p_57).1 → va_P D vwCl (zs_W [] cy hs ad_57 G_57 F_57 p_57) H → va_D A (zs_W [] cy hs ad_57 G_57 F_57 p_57) → va_S A s.heap H locs → lv_has ls 12 [(0, .ref hs), (1, .int x1_57), (2, .ref (ad_57 q2_57)), (3, .int x3_57), (4, .int x4_57)] → (∀ (H : Heap) (locs : List Loc) (ls : Array Slot), zs_wf o → zs_fs F_57 o → p.1 ≤ (o).1 → (∀ i, i < p.1 → ad_57 i = ad i) → va_P D vwCl (zs_W [] cy hs ad_57 G_57 F_57 o) H → va_D A (zs_W [] cy hs ad_57 G_57 F_57 o) → va_S A s.heap H locs → lv_has ls 12 [(0, .ref hs)] → W pg l e rX6_pass s m args below meth c H locs T_ TS_ Q (F0 m 112 ls [])) → W pg l e rX6_pass s m args below meth c H locs cu_57 su_57 Q (F0 m 57 ls []) := by
      intro k
      induction k with
      | zero =>
          intro G_57 F_57 p_57 x1_57 q2_57 x3_57 x4_57 o hF
          rw [fLX6_pass_57] at hF
          cases hF
      | succ k ih =>
          intro G_57 F_57 p_57 x1_57 q2_57 x3_57 x4_57 o hF ad_57 cu_57 su_57 T_ TS_ hcu_ hsu_ hT_ hTS_ H locs ls hw_57 hf_57 le_57 ha_57 fq2_57 hP hD hS hl kk0
          rw [fLX6_pass_57] at hF
          refine lv_iload hx hb dX6_pass_57 (lv_at hl 4 rfl) ?_
          refine lv_iload_n hx hb dX6_pass_59 rfl (lv_at hl 3 rfl) ?_
          refine lv_icmp_ge (tgt := 112) hx hb dX6_pass_60 (by decide) (fun c_9 => ?_) (fun c_9 => ?_)
          ·   replace hF := if_t hF c_9
              cases hF
              refine W.widen (k := T_) (n := TS_) (by omega) (by omega) ?_
              exact kk0 _ _ _ hw_57 hf_57 le_57 ha_57 hP hD hS (lv_sub hl [0] rfl)
          ·   replace hF := if_f hF c_9
              refine lv_aload_n hx hb dX6_pass_63 rfl (lv_at hl 2 rfl) ?_
              refine lv_iload hx hb dX6_pass_64 (lv_at hl 4 rfl) ?_
              replace hF := bnd_some hF
              obtain ⟨x10, hz_10, hF⟩ := hF
              refine sx_ldr hx hb hK hP hz_10 dX6_pass_66 ?_
              have fx10 : x10 < (p_57).1 := zs_ldr_lt hw_57 hz_10
              refine lv_astore (lv' := [(5, .ref (ad_57 x10)), (0, .ref hs), (1, .int x1_57), (2, .ref (ad_57 q2_57)), (3, .int x3_57), (4, .int x4_57)]) hx hb dX6_pass_67 hl (by decide) rfl (fun ls hl => ?_)
              refine lv_aload hx hb dX6_pass_69 (lv_at hl 0 rfl) ?_
              refine lv_iconst (v := 0) hx hb dX6_pass_71 (by decide) ?_
              replace hF := bnd_some hF
              obtain ⟨x11, hz_11, hF⟩ := hF
              refine sx_ld hx hb hK hP hz_11 dX6_pass_72 ?_
              replace hF := bnd_some hF
              obtain ⟨t12, hz_12, hF⟩ := hF
              have J12 : ∀ (H : Heap) (locs : List Loc) (ls : Array Slot), (zs_wf t12) → (zs_fs F_57 t12) → (p.1 ≤ (t12).1) → (q2_57 < (t12).1) → va_P D vwCl (zs_W [] cy hs ad_57 G_57 F_57 t12) H → va_D A (zs_W [] cy hs ad_57 G_57 F_57 t12) → va_S A s.heap H locs → lv_has ls 12 [(0, .ref hs), (1, .int x1_57), (2, .ref (ad_57 q2_57)), (3, .int x3_57), (4, .int x4_57)] → W pg l e rX6_pass s m args below meth c H locs (cu_57) (su_57) Q (F0 m 106 ls []) := by
                  intro H locs ls hw12j hf12j le12j fj12_0 hP hD hS hl
                  refine lv_iinc (v := x4_57 + 1) (lv' := [(4, .int (x4_57 + 1)), (0, .ref hs), (1, .int x1_57), (2, .ref (ad_57 q2_57)), (3, .int x3_57)]) hx hb dX6_pass_106 hl (k := 4) rfl rfl (by decide) rfl (fun ls hl => ?_)
                  refine lv_goto (tgt := 57) hx hb dX6_pass_109 (by decide) ?_
                  exact ih G_57 F_57 t12 x1_57 q2_57 x3_57 (x4_57 + 1) o hF ad_57 (cu_57) (su_57) T_ TS_ (by omega) (by omega) hT_ hTS_ _ _ _ hw12j hf12j le12j ha_57 fj12_0 hP hD hS (lv_sub hl [1, 2, 3, 4, 0] rfl) kk0
              replace hF := hz_12
              refine lv_if_le (tgt := 106) hx hb dX6_pass_73 (by decide) (fun c_12 => ?_) (fun c_12 => ?_)
              ·   replace hF := if_t hF c_12
                  cases hF
                  exact J12 _ _ _ hw_57 hf_57 le_57 fq2_57 hP hD hS (lv_sub hl [1, 2, 3, 4, 5] rfl)
              ·   replace hF := if_f hF c_12
                  refine lv_aload hx hb dX6_pass_76 (lv_at hl 0 rfl) ?_
                  refine lv_iconst (v := 1) hx hb dX6_pass_78 (by decide) ?_
                  refine lv_bipush (v := 99) hx hb dX6_pass_79 (by decide) ?_
                  refine lv_aload hx hb dX6_pass_81 (lv_at hl 0 rfl) ?_
                  refine lv_iconst (v := 1) hx hb dX6_pass_83 (by decide) ?_
                  replace hF := bnd_some hF
                  obtain ⟨x13, hz_13, hF⟩ := hF
                  refine sx_ld hx hb hK hP hz_13 dX6_pass_84 ?_
                  refine lv_aload_n hx hb dX6_pass_85 rfl (lv_at hl 1 rfl) ?_
                  refine va_get (D := D) (C := RX6) (T := TX6) (N := 12) hx hb hts hiX6 hown hK hP _ zs_at rfl 5 (by decide) hf16 (fun _ h9 => h9) rfl dX6_pass_86 ?_
                  refine lv_aload_n hx hb dX6_pass_89 rfl (lv_at hl 1 rfl) ?_
                  refine va_get (D := D) (C := RX6) (T := TX6) (N := 12) hx hb hts hiX6 hown hK hP _ zs_at rfl 0 (by decide) hf46 (fun _ h9 => h9) rfl dX6_pass_90 ?_
                  refine lv_bipush (v := 7) hx hb dX6_pass_93 (by decide) ?_
                  refine lv_irem hx hb dX6_pass_95 (by decide) ?_
                  replace hF := bnd_some hF
                  obtain ⟨x14, hz_14, hF⟩ := hF
                  refine sx_ld hx hb hK hP hz_14 dX6_pass_96 ?_
                  refine lv_iconst (v := 3) hx hb dX6_pass_97 (by decide) ?_
                  refine lv_imul hx hb dX6_pass_98 ?_
                  refine lv_iload_n hx hb dX6_pass_99 rfl (lv_at hl 2 rfl) ?_
                  replace hF := ckZ_some hF
                  obtain ⟨hz_15, hF⟩ := hF
                  refine lv_idiv hx hb dX6_pass_100 hz_15 ?_
                  refine lv_iadd hx hb dX6_pass_101 ?_
                  refine va_mmin hx hb (hml.trans hl.1.symm) hown (hts (.methodLink RX6 63 Lib.Math.min.name) (by decide +kernel)) (hts (.static Lib.Math.min.name) (by decide +kernel)) (hts (.initialized "java/lang/Math") (by decide +kernel)) (hts (.code Lib.Math.min.name Lib.Math.min.code 2 (some .int)) (by decide +kernel)) (Nat.le_of_ble_eq_true rfl) (Nat.le_of_ble_eq_true rfl) (by show _ ≤ (103 : Nat); omega) (by show _ ≤ (8939 : Nat); omega) dX6_pass_102 ?_
                  replace hF := bnd_some hF
                  obtain ⟨p16, hz_16, hF⟩ := hF
                  refine sx_st hx hb hK hP hD hS hz_16 dX6_pass_105 (fun H locs hP hD hS => ?_)
                  obtain ⟨hw16, hn16⟩ := zs_st_wf hw_57 hz_16
                  have lf16 : (p_57).1 ≤ p16.1 := Nat.le_of_eq hn16.symm
                  have hf_16 := zs_fs_le hf_57 lf16
                  have fr16_0 : q2_57 < (p16).1 := Nat.lt_of_lt_of_le fq2_57 lf16
                  have le16 : p.1 ≤ (p16).1 := Nat.le_trans le_57 lf16
                  replace hP : va_P D vwCl (zs_W [] cy hs ad_57 G_57 F_57 p16) H := hP
                  replace hD : va_D A (zs_W [] cy hs ad_57 G_57 F_57 p16) := hD
                  cases hF
                  exact J12 _ _ _ hw16 hf_16 le16 fr16_0 hP hD hS (lv_sub hl [1, 2, 3, 4, 5] rfl)
  have L126 : ∀ (k : Nat) (G_126 : FN) (F_126 : Nat → Nat) (p_126 : zs_H) (x2_126 : Int32) (q3_126 : Nat) (x4_126 : Int32) (x5_126 : Int32) (o : FN × (Nat → Nat) × zs_H × Int32), fLX6_pass_126 q3_126 x4_126 k G_126 F_126 p_126 x2_126 x5_126 = some o → ∀ (ad_126 : Nat → Nat) (cu_126 su_126 T_ TS_ : Nat), cu_126 + 2 * k ≤ T_ → su_126 + 95 * k ≤ TS_ → T_ ≤ 103 → TS_ ≤ 8939 → ∀ (H : Heap) (locs : List Loc) (ls : Array Slot), zs_wf p_126 → zs_fs F_126 p_126 → p.1 ≤ (p_126).1 → (∀ i, i < p.1 → ad_126 i = ad i) → q3_126 < (p_126).1 → va_P D vwCl (zs_W [] cy hs ad_126 G_126 F_126 p_126) H → va_D A (zs_W [] cy hs ad_126 G_126 F_126 p_126) → va_S A s.heap H locs → lv_has ls 12 [(0, .ref hs), (2, .int x2_126), (3, .ref (ad_126 q3_126)), (4, .int x4_126), (5, .int x5_126)] → (∀ (ad2 : Nat → Nat) (H : Heap) (locs : List Loc) (ls : Array Slot), zs_wf o.2.2.1 → zs_fs o.2.1 o.2.2.1 → p.1 ≤ (o.2.2.1).1 → (∀ i, i < p.1 → ad2 i = ad i) → va_P D vwCl (zs_W [] cy hs ad2 o.1 o.2.1 o.2.2.1) H → va_D A (zs_W [] cy hs ad2 o.1 o.2.1 o.2.2.1) → va_S A s.heap H locs → lv_has ls 12 [(0, .ref hs), (2, .int o.2.2.2)] → W pg l e rX6_pass s m args below meth c H locs T_ TS_ Q (F0 m 342 ls [])) → W pg l e rX6_pass s m args below meth c H locs cu_126 su_126 Q (F0 m 126 ls []) := by
      intro k
      induction k with
      | zero =>
          intro G_126 F_126 p_126 x2_126 q3_126 x4_126 x5_126 o hF
          rw [fLX6_pass_126] at hF
          cases hF
      | succ k ih =>
          intro G_126 F_126 p_126 x2_126 q3_126 x4_126 x5_126 o hF ad_126 cu_126 su_126 T_ TS_ hcu_ hsu_ hT_ hTS_ H locs ls hw_126 hf_126 le_126 ha_126 fq3_126 hP hD hS hl kk0
          rw [fLX6_pass_126] at hF
          refine lv_iload hx hb dX6_pass_126 (lv_at hl 4 rfl) ?_
          refine lv_iload hx hb dX6_pass_128 (lv_at hl 3 rfl) ?_
          refine lv_icmp_ge (tgt := 342) hx hb dX6_pass_130 (by decide) (fun c_19 => ?_) (fun c_19 => ?_)
          ·   replace hF := if_t hF c_19
              cases hF
              refine W.widen (k := T_) (n := TS_) (by omega) (by omega) ?_
              exact kk0 ad_126 _ _ _ hw_126 hf_126 le_126 ha_126 hP hD hS (lv_sub hl [0, 1] rfl)
          ·   replace hF := if_f hF c_19
              refine lv_aload_n hx hb dX6_pass_133 rfl (lv_at hl 2 rfl) ?_
              refine lv_iload hx hb dX6_pass_134 (lv_at hl 4 rfl) ?_
              replace hF := bnd_some hF
              obtain ⟨x20, hz_20, hF⟩ := hF
              refine sx_ldr hx hb hK hP hz_20 dX6_pass_136 ?_
              have fx20 : x20 < (p_126).1 := zs_ldr_lt hw_126 hz_20
              refine lv_astore (lv' := [(6, .ref (ad_126 x20)), (0, .ref hs), (2, .int x2_126), (3, .ref (ad_126 q3_126)), (4, .int x4_126), (5, .int x5_126)]) hx hb dX6_pass_137 hl (by decide) rfl (fun ls hl => ?_)
              refine lv_aload_n hx hb dX6_pass_139 rfl (lv_at hl 1 rfl) ?_
              refine lv_aload hx hb dX6_pass_140 (lv_at hl 0 rfl) ?_
              replace hF := bnd_some hF
              obtain ⟨z21, hz_21, hF⟩ := hF
              refine zw_rI (kV (As := [.ref (ad_126 x20)]) ⟨hx, hb, hml, hown, hts⟩ (kX6_makes l D cy sa hs ad_126 G_126 F_126 p_126 x20 z21 hz_21 _) (cwV 1 hts gX6_pass_X6_makes rfl rfl rfl (by decide +kernel) ⟨Nat.le_of_ble_eq_true rfl, Nat.le_of_ble_eq_true rfl⟩) hK hP hD hS hA hG (List.range' ([] : va_W).length (zs_W [] cy hs ad_126 G_126 F_126 p_126).length) zw_map2 (zp_nd2 _ _) (zs_at (P := [])) rfl rfl rfl hl.1 [] rfl (Nat.le_of_ble_eq_true rfl) dX6_pass_142 ⟨(by show _ ≤ (103 : Nat); omega), (by show _ ≤ (8939 : Nat); omega)⟩) hP hD hS hA (fun H locs hP hS => ?_)
              refine lv_istore (lv' := [(7, .int z21), (6, .ref (ad_126 x20)), (0, .ref hs), (2, .int x2_126), (3, .ref (ad_126 q3_126)), (4, .int x4_126), (5, .int x5_126)]) hx hb dX6_pass_145 hl (by decide) rfl (fun ls hl => ?_)
              refine lv_iload hx hb dX6_pass_147 (lv_at hl 0 rfl) ?_
              replace hF := bnd_some hF
              obtain ⟨t22, hz_22, hF⟩ := hF
              have J22 : ∀ (ad22 : Nat → Nat) (H : Heap) (locs : List Loc) (ls : Array Slot), (zs_wf t22.2.2.1) → (zs_fs t22.2.1 t22.2.2.1) → (p.1 ≤ (t22.2.2.1).1) → (∀ i, i < p.1 → ad22 i = ad i) → (q3_126 < (t22.2.2.1).1) → va_P D vwCl (zs_W [] cy hs ad22 t22.1 t22.2.1 t22.2.2.1) H → va_D A (zs_W [] cy hs ad22 t22.1 t22.2.1 t22.2.2.1) → va_S A s.heap H locs → lv_has ls 12 [(0, .ref hs), (2, .int t22.2.2.2), (3, .ref (ad22 q3_126)), (4, .int x4_126), (5, .int x5_126)] → W pg l e rX6_pass s m args below meth c H locs (cu_126 + 2) (su_126 + 95) Q (F0 m 336 ls []) := by
                  intro ad22 H locs ls hw22j hf22j le22j ha22j fj22_0 hP hD hS hl
                  refine lv_iinc (v := x5_126 + 1) (lv' := [(5, .int (x5_126 + 1)), (0, .ref hs), (2, .int t22.2.2.2), (3, .ref (ad22 q3_126)), (4, .int x4_126)]) hx hb dX6_pass_336 hl (k := 4) rfl rfl (by decide) rfl (fun ls hl => ?_)
                  refine lv_goto (tgt := 126) hx hb dX6_pass_339 (by decide) ?_
                  exact ih t22.1 t22.2.1 t22.2.2.1 t22.2.2.2 q3_126 x4_126 (x5_126 + 1) o hF ad22 (cu_126 + 2) (su_126 + 95) T_ TS_ (by omega) (by omega) hT_ hTS_ _ _ _ hw22j hf22j le22j ha22j fj22_0 hP hD hS (lv_sub hl [1, 2, 3, 4, 0] rfl) kk0
              replace hF := hz_22
              refine lv_if_ne (tgt := 155) hx hb dX6_pass_149 (by decide) (fun c_22 => ?_) (fun c_22 => ?_)
              ·   replace hF := if_f hF c_22
                  refine lv_aload_n hx hb dX6_pass_155 rfl (lv_at hl 2 rfl) ?_
                  refine va_get (D := D) (C := RX6) (T := TX6) (N := 12) hx hb hts hiX6 hown hK hP _ zs_at rfl 7 (by decide) hf24 (fun _ h9 => h9) rfl dX6_pass_156 ?_
                  refine lv_aload hx hb dX6_pass_159 (lv_at hl 1 rfl) ?_
                  refine lv_iconst (v := 1) hx hb dX6_pass_161 (by decide) ?_
                  replace hF := bnd_some hF
                  obtain ⟨x23, hz_23, hF⟩ := hF
                  refine sx_ld hx hb hK hP hz_23 dX6_pass_162 ?_
                  replace hF := bnd_some hF
                  obtain ⟨x24, hz_24, hF⟩ := hF
                  refine sx_ldr hx hb hK hP hz_24 dX6_pass_163 ?_
                  have fx24 : x24 < (p_126).1 := zs_ldr_lt hw_126 hz_24
                  refine lv_astore (lv' := [(8, .ref (ad_126 x24)), (7, .int z21), (6, .ref (ad_126 x20)), (0, .ref hs), (2, .int x2_126), (3, .ref (ad_126 q3_126)), (4, .int x4_126), (5, .int x5_126)]) hx hb dX6_pass_164 hl (by decide) rfl (fun ls hl => ?_)
                  refine lv_aload_n hx hb dX6_pass_166 rfl (lv_at hl 3 rfl) ?_
                  refine va_get (D := D) (C := RX6) (T := TX6) (N := 12) hx hb hts hiX6 hown hK hP _ zs_at rfl 8 (by decide) hf28 (fun _ h9 => h9) rfl dX6_pass_167 ?_
                  refine lv_aload hx hb dX6_pass_170 (lv_at hl 2 rfl) ?_
                  refine lv_iconst (v := 2) hx hb dX6_pass_172 (by decide) ?_
                  replace hF := bnd_some hF
                  obtain ⟨x25, hz_25, hF⟩ := hF
                  refine sx_ld hx hb hK hP hz_25 dX6_pass_173 ?_
                  replace hF := bnd_some hF
                  obtain ⟨x26, hz_26, hF⟩ := hF
                  refine sx_ldr hx hb hK hP hz_26 dX6_pass_174 ?_
                  have fx26 : x26 < (p_126).1 := zs_ldr_lt hw_126 hz_26
                  refine lv_astore (lv' := [(9, .ref (ad_126 x26)), (8, .ref (ad_126 x24)), (7, .int z21), (6, .ref (ad_126 x20)), (0, .ref hs), (2, .int x2_126), (3, .ref (ad_126 q3_126)), (4, .int x4_126), (5, .int x5_126)]) hx hb dX6_pass_175 hl (by decide) rfl (fun ls hl => ?_)
                  refine lv_aload hx hb dX6_pass_177 (lv_at hl 1 rfl) ?_
                  refine lv_iconst (v := 1) hx hb dX6_pass_179 (by decide) ?_
                  replace hF := bnd_some hF
                  obtain ⟨x27, hz_27, hF⟩ := hF
                  refine sx_ld hx hb hK hP hz_27 dX6_pass_180 ?_
                  refine lv_bipush (v := 10) hx hb dX6_pass_181 (by decide) ?_
                  refine lv_idiv hx hb dX6_pass_183 (by decide) ?_
                  refine lv_bipush (v := 6) hx hb dX6_pass_184 (by decide) ?_
                  refine lv_iadd hx hb dX6_pass_186 ?_
                  refine lv_iconst (v := 3) hx hb dX6_pass_187 (by decide) ?_
                  refine lv_aload hx hb dX6_pass_188 (lv_at hl 1 rfl) ?_
                  refine lv_iconst (v := 2) hx hb dX6_pass_190 (by decide) ?_
                  replace hF := bnd_some hF
                  obtain ⟨x28, hz_28, hF⟩ := hF
                  refine sx_ld hx hb hK hP hz_28 dX6_pass_191 ?_
                  refine lv_imul hx hb dX6_pass_192 ?_
                  refine lv_isub hx hb dX6_pass_193 ?_
                  refine lv_aload hx hb dX6_pass_194 (lv_at hl 0 rfl) ?_
                  refine lv_iconst (v := 2) hx hb dX6_pass_196 (by decide) ?_
                  replace hF := bnd_some hF
                  obtain ⟨x29, hz_29, hF⟩ := hF
                  refine sx_ld hx hb hK hP hz_29 dX6_pass_197 ?_
                  refine lv_bipush (v := 10) hx hb dX6_pass_198 (by decide) ?_
                  refine lv_idiv hx hb dX6_pass_200 (by decide) ?_
                  refine lv_isub hx hb dX6_pass_201 ?_
                  refine lv_istore (lv' := [(10, .int ((((x27 / 10) + 6) - (3 * x28)) - (x29 / 10))), (9, .ref (ad_126 x26)), (8, .ref (ad_126 x24)), (7, .int z21), (6, .ref (ad_126 x20)), (0, .ref hs), (2, .int x2_126), (3, .ref (ad_126 q3_126)), (4, .int x4_126), (5, .int x5_126)]) hx hb dX6_pass_202 hl (by decide) rfl (fun ls hl => ?_)
                  refine lv_iload hx hb dX6_pass_204 (lv_at hl 0 rfl) ?_
                  refine lv_bipush (v := 7) hx hb dX6_pass_206 (by decide) ?_
                  replace hF := bnd_some hF
                  obtain ⟨t30, hz_30, hF⟩ := hF
                  have J30 : ∀ (H : Heap) (locs : List Loc) (ls : Array Slot), va_P D vwCl (zs_W [] cy hs ad_126 G_126 F_126 p_126) H → va_D A (zs_W [] cy hs ad_126 G_126 F_126 p_126) → va_S A s.heap H locs → lv_has ls 12 [(0, .ref hs), (2, .int x2_126), (3, .ref (ad_126 q3_126)), (4, .int x4_126), (5, .int x5_126), (7, .int z21), (8, .ref (ad_126 x24)), (9, .ref (ad_126 x26))] → W pg l e rX6_pass s m args below meth c H locs (cu_126) (su_126) Q (F0 m 227 ls [.int t30]) := by
                      intro H locs ls hP hD hS hl
                      refine lv_istore (lv' := [(11, .int t30), (0, .ref hs), (2, .int x2_126), (3, .ref (ad_126 q3_126)), (4, .int x4_126), (5, .int x5_126), (7, .int z21), (8, .ref (ad_126 x24)), (9, .ref (ad_126 x26))]) hx hb dX6_pass_227 hl (by decide) rfl (fun ls hl => ?_)
                      refine lv_aload_n hx hb dX6_pass_229 rfl (lv_at hl 1 rfl) ?_
                      refine lv_aload_n hx hb dX6_pass_230 rfl (lv_at hl 1 rfl) ?_
                      refine va_get (D := D) (C := RX6) (T := TX6) (N := 12) hx hb hts hiX6 hown hK hP _ zs_at rfl 10 (by decide) hf34 (fun _ h9 => h9) rfl dX6_pass_231 ?_
                      refine lv_iconst (v := 3) hx hb dX6_pass_234 (by decide) ?_
                      replace hF := bnd_some hF
                      obtain ⟨p32, hz_32, hF⟩ := hF
                      refine sx_nwi hx hb (hts (.arrayClass .int) (by decide +kernel)) hK hw_126 hP hD hS hA hz_32 (Nat.le_of_ble_eq_true rfl) (by show _ ≤ (103 : Nat); omega) (by show _ ≤ (8939 : Nat); omega) dX6_pass_235 (fun ad32 H ha32 hP hD hS => ?_)
                      obtain ⟨hw32, hn32⟩ := zs_nwi_wf hw_126 hz_32
                      have lf32 : (p_126).1 ≤ p32.1 := by rw [hn32]; exact Nat.le_succ _
                      have fn32 : (p_126).1 < p32.1 := by rw [hn32]; exact Nat.lt_succ_self _
                      rw [zs_W_up hf_126 ha32] at hP hD
                      have hf_32 := zs_fs_le hf_126 lf32
                      rw [← ha32 q3_126 fq3_126] at hl
                      rw [← ha32 x24 fx24] at hl
                      rw [← ha32 x26 fx26] at hl
                      rw [← ha32 (F_126 10) (hf_126 10)]
                      have fr32_0 : q3_126 < (p32).1 := Nat.lt_of_lt_of_le fq3_126 lf32
                      have fr32_1 : x24 < (p32).1 := Nat.lt_of_lt_of_le fx24 lf32
                      have fr32_2 : x26 < (p32).1 := Nat.lt_of_lt_of_le fx26 lf32
                      have fr32_3 : (F_126 10) < (p32).1 := Nat.lt_of_lt_of_le (hf_126 10) lf32
                      have le32 : p.1 ≤ (p32).1 := Nat.le_trans le_126 lf32
                      have hb32 : ∀ i, i < p.1 → ad32 i = ad i := fun i hi => (ha32 i (Nat.lt_of_lt_of_le hi le_126)).trans (ha_126 i hi)
                      replace hP : va_P D vwCl (zs_W [] cy hs ad32 G_126 F_126 p32) H := hP
                      replace hD : va_D A (zs_W [] cy hs ad32 G_126 F_126 p32) := hD
                      refine lv_dup hx hb dX6_pass_237 rfl ?_
                      refine lv_iconst (v := 0) hx hb dX6_pass_238 (by decide) ?_
                      refine lv_aload hx hb dX6_pass_239 (lv_at hl 8 rfl) ?_
                      refine lv_iconst (v := 0) hx hb dX6_pass_241 (by decide) ?_
                      replace hF := bnd_some hF
                      obtain ⟨x33, hz_33, hF⟩ := hF
                      refine sx_ld hx hb hK hP hz_33 dX6_pass_242 ?_
                      replace hF := bnd_some hF
                      obtain ⟨p34, hz_34, hF⟩ := hF
                      refine sx_st hx hb hK hP hD hS hz_34 dX6_pass_243 (fun H locs hP hD hS => ?_)
                      obtain ⟨hw34, hn34⟩ := zs_st_wf hw32 hz_34
                      have lf34 : (p32).1 ≤ p34.1 := Nat.le_of_eq hn34.symm
                      have hf_34 := zs_fs_le hf_32 lf34
                      have fr34_0 : q3_126 < (p34).1 := Nat.lt_of_lt_of_le fr32_0 lf34
                      have fr34_1 : x24 < (p34).1 := Nat.lt_of_lt_of_le fr32_1 lf34
                      have fr34_2 : x26 < (p34).1 := Nat.lt_of_lt_of_le fr32_2 lf34
                      have fr34_3 : (F_126 10) < (p34).1 := Nat.lt_of_lt_of_le fr32_3 lf34
                      have fr34_4 : p_126.1 < (p34).1 := Nat.lt_of_lt_of_le fn32 lf34
                      have le34 : p.1 ≤ (p34).1 := Nat.le_trans le32 lf34
                      replace hP : va_P D vwCl (zs_W [] cy hs ad32 G_126 F_126 p34) H := hP
                      replace hD : va_D A (zs_W [] cy hs ad32 G_126 F_126 p34) := hD
                      refine lv_dup hx hb dX6_pass_244 rfl ?_
                      refine lv_iconst (v := 1) hx hb dX6_pass_245 (by decide) ?_
                      refine lv_iload hx hb dX6_pass_246 (lv_at hl 0 rfl) ?_
                      replace hF := bnd_some hF
                      obtain ⟨p35, hz_35, hF⟩ := hF
                      refine sx_st hx hb hK hP hD hS hz_35 dX6_pass_248 (fun H locs hP hD hS => ?_)
                      obtain ⟨hw35, hn35⟩ := zs_st_wf hw34 hz_35
                      have lf35 : (p34).1 ≤ p35.1 := Nat.le_of_eq hn35.symm
                      have hf_35 := zs_fs_le hf_34 lf35
                      have fr35_0 : q3_126 < (p35).1 := Nat.lt_of_lt_of_le fr34_0 lf35
                      have fr35_1 : x24 < (p35).1 := Nat.lt_of_lt_of_le fr34_1 lf35
                      have fr35_2 : x26 < (p35).1 := Nat.lt_of_lt_of_le fr34_2 lf35
                      have fr35_3 : (F_126 10) < (p35).1 := Nat.lt_of_lt_of_le fr34_3 lf35
                      have fr35_4 : p_126.1 < (p35).1 := Nat.lt_of_lt_of_le fr34_4 lf35
                      have le35 : p.1 ≤ (p35).1 := Nat.le_trans le34 lf35
                      replace hP : va_P D vwCl (zs_W [] cy hs ad32 G_126 F_126 p35) H := hP
                      replace hD : va_D A (zs_W [] cy hs ad32 G_126 F_126 p35) := hD
                      refine lv_dup hx hb dX6_pass_249 rfl ?_
                      refine lv_iconst (v := 2) hx hb dX6_pass_250 (by decide) ?_
                      refine lv_iload hx hb dX6_pass_251 (lv_at hl 6 rfl) ?_
                      replace hF := bnd_some hF
                      obtain ⟨p36, hz_36, hF⟩ := hF
                      refine sx_st hx hb hK hP hD hS hz_36 dX6_pass_253 (fun H locs hP hD hS => ?_)
                      obtain ⟨hw36, hn36⟩ := zs_st_wf hw35 hz_36
                      have lf36 : (p35).1 ≤ p36.1 := Nat.le_of_eq hn36.symm
                      have hf_36 := zs_fs_le hf_35 lf36
                      have fr36_0 : q3_126 < (p36).1 := Nat.lt_of_lt_of_le fr35_0 lf36
                      have fr36_1 : x24 < (p36).1 := Nat.lt_of_lt_of_le fr35_1 lf36
                      have fr36_2 : x26 < (p36).1 := Nat.lt_of_lt_of_le fr35_2 lf36
                      have fr36_3 : (F_126 10) < (p36).1 := Nat.lt_of_lt_of_le fr35_3 lf36
                      have fr36_4 : p_126.1 < (p36).1 := Nat.lt_of_lt_of_le fr35_4 lf36
                      have le36 : p.1 ≤ (p36).1 := Nat.le_trans le35 lf36
                      replace hP : va_P D vwCl (zs_W [] cy hs ad32 G_126 F_126 p36) H := hP
                      replace hD : va_D A (zs_W [] cy hs ad32 G_126 F_126 p36) := hD
                      replace hF := bnd_some hF
                      obtain ⟨z37, hz_37, hF⟩ := hF
                      refine zw_R (kS (As := [.ref (ad32 (F_126 10)), .ref (ad32 p_126.1)]) ⟨hx, hb, hml, hown, hts⟩ (kX6_more l D cy sa hs ad32 G_126 F_126 p36 (F_126 10) p_126.1 hw36 hf_36 fr36_3 fr36_4 z37 hz_37 _) (va_cwS 2 hts gX6_pass_X6_more rfl rfl rfl (by decide +kernel) ⟨Nat.le_of_ble_eq_true rfl, Nat.le_of_ble_eq_true rfl⟩) hK hP hD hS hA hG (List.range' ([] : va_W).length (zs_W [] cy hs ad32 G_126 F_126 p36).length) zw_map2 (zp_nd2 _ _) rfl hl.1 [.ref hs] rfl (Nat.le_of_ble_eq_true rfl) dX6_pass_254 ⟨(by show _ ≤ (103 : Nat); omega), (by show _ ≤ (8939 : Nat); omega)⟩) hP hD hS hA (fun ad37 H locs hq37 hP hD hS => ?_)
                      obtain ⟨⟨hw37, hf_37, lf37, ha37⟩, fn37⟩ := hq37
                      rw [← ha37 q3_126 fr36_0] at hl
                      rw [← ha37 x24 fr36_1] at hl
                      rw [← ha37 x26 fr36_2] at hl
                      have fr37_0 : q3_126 < (z37.2).1 := Nat.lt_of_lt_of_le fr36_0 lf37
                      have fr37_1 : x24 < (z37.2).1 := Nat.lt_of_lt_of_le fr36_1 lf37
                      have fr37_2 : x26 < (z37.2).1 := Nat.lt_of_lt_of_le fr36_2 lf37
                      have le37 : p.1 ≤ (z37.2).1 := Nat.le_trans le36 lf37
                      have hb37 : ∀ i, i < p.1 → ad37 i = ad i := fun i hi => (ha37 i (Nat.lt_of_lt_of_le hi le36)).trans (hb32 i hi)
                      replace hP : va_P D vwCl (zs_W [] cy hs ad37 G_126 F_126 z37.2) H := hP
                      replace hD : va_D A (zs_W [] cy hs ad37 G_126 F_126 z37.2) := hD
                      refine va_put (D := D) (v := .ref (ad37 z37.1)) (ty := .array (.array .int)) (C := RX6) (T := TX6) (N := 12) hx hb hts hiX6 tyX6 tyX6_ok nmX6 hown hK hP hD hS _ zs_at rfl 10 (by decide) hf34 (fun _ h9 => h9) rfl (by decide +kernel) rfl rfl (Nat.le_of_ble_eq_true rfl) dX6_pass_257 (fun H locs hP hD hS => ?_)
                      have hg38 := zs_fs_up (k := 10) hf_37 fn37
                      replace hg38 : zs_fs (va_up F_126 10 z37.1) z37.2 := hg38
                      rw [zs_set (vs := (zs_obj ad37 G_126 F_126).set 10 (.ref (ad37 z37.1))) (G2 := G_126) (F2 := va_up F_126 10 z37.1) rfl] at hP hD
                      refine lv_aload hx hb dX6_pass_260 (lv_at hl 7 rfl) ?_
                      refine lv_iconst (v := 0) hx hb dX6_pass_262 (by decide) ?_
                      refine lv_dup2_11 hx hb dX6_pass_263 rfl rfl ?_
                      replace hF := bnd_some hF
                      obtain ⟨x39, hz_39, hF⟩ := hF
                      refine sx_ld hx hb hK hP hz_39 dX6_pass_264 ?_
                      refine lv_iload hx hb dX6_pass_265 (lv_at hl 6 rfl) ?_
                      refine lv_aload hx hb dX6_pass_267 (lv_at hl 8 rfl) ?_
                      refine lv_iconst (v := 1) hx hb dX6_pass_269 (by decide) ?_
                      replace hF := bnd_some hF
                      obtain ⟨x40, hz_40, hF⟩ := hF
                      refine sx_ld hx hb hK hP hz_40 dX6_pass_270 ?_
                      refine lv_imul hx hb dX6_pass_271 ?_
                      refine lv_isub hx hb dX6_pass_272 ?_
                      replace hF := bnd_some hF
                      obtain ⟨p41, hz_41, hF⟩ := hF
                      refine sx_st hx hb hK hP hD hS hz_41 dX6_pass_273 (fun H locs hP hD hS => ?_)
                      obtain ⟨hw41, hn41⟩ := zs_st_wf hw37 hz_41
                      have lf41 : (z37.2).1 ≤ p41.1 := Nat.le_of_eq hn41.symm
                      have hf_41 := zs_fs_le hg38 lf41
                      have fr41_0 : q3_126 < (p41).1 := Nat.lt_of_lt_of_le fr37_0 lf41
                      have fr41_1 : x24 < (p41).1 := Nat.lt_of_lt_of_le fr37_1 lf41
                      have fr41_2 : x26 < (p41).1 := Nat.lt_of_lt_of_le fr37_2 lf41
                      have le41 : p.1 ≤ (p41).1 := Nat.le_trans le37 lf41
                      replace hP : va_P D vwCl (zs_W [] cy hs ad37 G_126 (va_up F_126 10 z37.1) p41) H := hP
                      replace hD : va_D A (zs_W [] cy hs ad37 G_126 (va_up F_126 10 z37.1) p41) := hD
                      refine lv_aload hx hb dX6_pass_274 (lv_at hl 7 rfl) ?_
                      refine lv_iconst (v := 0) hx hb dX6_pass_276 (by decide) ?_
                      replace hF := bnd_some hF
                      obtain ⟨x42, hz_42, hF⟩ := hF
                      refine sx_ld hx hb hK hP hz_42 dX6_pass_277 ?_
                      replace hF := bnd_some hF
                      obtain ⟨t43, hz_43, hF⟩ := hF
                      have J43 : ∀ (H : Heap) (locs : List Loc) (ls : Array Slot), (zs_wf t43) → (zs_fs (va_up F_126 10 z37.1) t43) → (p.1 ≤ (t43).1) → (q3_126 < (t43).1) → (x26 < (t43).1) → va_P D vwCl (zs_W [] cy hs ad37 G_126 (va_up F_126 10 z37.1) t43) H → va_D A (zs_W [] cy hs ad37 G_126 (va_up F_126 10 z37.1) t43) → va_S A s.heap H locs → lv_has ls 12 [(0, .ref hs), (2, .int x2_126), (3, .ref (ad37 q3_126)), (4, .int x4_126), (5, .int x5_126), (7, .int z21), (9, .ref (ad37 x26)), (11, .int t30)] → W pg l e rX6_pass s m args below meth c H locs (cu_126 + 2) (su_126 + 95) Q (F0 m 291 ls []) := by
                          intro H locs ls hw43j hf43j le43j fj43_0 fj43_1 hP hD hS hl
                          refine lv_aload hx hb dX6_pass_291 (lv_at hl 6 rfl) ?_
                          refine lv_iconst (v := 2) hx hb dX6_pass_293 (by decide) ?_
                          refine lv_bipush (v := 50) hx hb dX6_pass_294 (by decide) ?_
                          refine lv_aload hx hb dX6_pass_296 (lv_at hl 6 rfl) ?_
                          refine lv_iconst (v := 2) hx hb dX6_pass_298 (by decide) ?_
                          replace hF := bnd_some hF
                          obtain ⟨x46, hz_46, hF⟩ := hF
                          refine sx_ld hx hb hK hP hz_46 dX6_pass_299 ?_
                          refine lv_iload hx hb dX6_pass_300 (lv_at hl 5 rfl) ?_
                          refine lv_iconst (v := 2) hx hb dX6_pass_302 (by decide) ?_
                          refine lv_idiv hx hb dX6_pass_303 (by decide) ?_
                          refine lv_iadd hx hb dX6_pass_304 ?_
                          refine lv_iload hx hb dX6_pass_305 (lv_at hl 5 rfl) ?_
                          refine lv_iconst (v := 2) hx hb dX6_pass_307 (by decide) ?_
                          refine lv_irem hx hb dX6_pass_308 (by decide) ?_
                          refine lv_iadd hx hb dX6_pass_309 ?_
                          refine va_mmin hx hb (hml.trans hl.1.symm) hown (hts (.methodLink RX6 63 Lib.Math.min.name) (by decide +kernel)) (hts (.static Lib.Math.min.name) (by decide +kernel)) (hts (.initialized "java/lang/Math") (by decide +kernel)) (hts (.code Lib.Math.min.name Lib.Math.min.code 2 (some .int)) (by decide +kernel)) (Nat.le_of_ble_eq_true rfl) (Nat.le_of_ble_eq_true rfl) (by show _ ≤ (103 : Nat); omega) (by show _ ≤ (8939 : Nat); omega) dX6_pass_310 ?_
                          replace hF := bnd_some hF
                          obtain ⟨p47, hz_47, hF⟩ := hF
                          refine sx_st hx hb hK hP hD hS hz_47 dX6_pass_313 (fun H locs hP hD hS => ?_)
                          obtain ⟨hw47, hn47⟩ := zs_st_wf hw43j hz_47
                          have lf47 : (t43).1 ≤ p47.1 := Nat.le_of_eq hn47.symm
                          have hf_47 := zs_fs_le hf43j lf47
                          have fr47_0 : q3_126 < (p47).1 := Nat.lt_of_lt_of_le fj43_0 lf47
                          have le47 : p.1 ≤ (p47).1 := Nat.le_trans le43j lf47
                          replace hP : va_P D vwCl (zs_W [] cy hs ad37 G_126 (va_up F_126 10 z37.1) p47) H := hP
                          replace hD : va_D A (zs_W [] cy hs ad37 G_126 (va_up F_126 10 z37.1) p47) := hD
                          refine lv_iload_n hx hb dX6_pass_314 rfl (lv_at hl 1 rfl) ?_
                          refine lv_iload hx hb dX6_pass_315 (lv_at hl 5 rfl) ?_
                          refine lv_iadd hx hb dX6_pass_317 ?_
                          refine lv_istore_n (lv' := [(2, .int (x2_126 + z21)), (0, .ref hs), (3, .ref (ad37 q3_126)), (4, .int x4_126), (5, .int x5_126), (7, .int z21), (9, .ref (ad37 x26)), (11, .int t30)]) hx hb dX6_pass_318 rfl hl (by decide) rfl (fun ls hl => ?_)
                          refine lv_aload_n hx hb dX6_pass_319 rfl (lv_at hl 1 rfl) ?_
                          refine lv_dup hx hb dX6_pass_320 rfl ?_
                          refine va_get (D := D) (C := RX6) (T := TX6) (N := 12) hx hb hts hiX6 hown hK hP _ zs_at rfl 4 (by decide) hf52 (fun _ h9 => h9) rfl dX6_pass_321 ?_
                          refine lv_iload hx hb dX6_pass_324 (lv_at hl 5 rfl) ?_
                          refine lv_iload hx hb dX6_pass_326 (lv_at hl 7 rfl) ?_
                          replace hF := bnd_some hF
                          obtain ⟨z48, hz_48, hF⟩ := hF
                          refine krI (kS (As := [.int t30]) ⟨hx, hb, hml, hown, hts⟩ (kX6_worth l D cy sa t30 z48 hz_48 _) (va_cwS 1 hts gX6_pass_X6_worth rfl rfl rfl (by decide +kernel) ⟨Nat.le_of_ble_eq_true rfl, Nat.le_of_ble_eq_true rfl⟩) hK hP hD hS hA hG [] rfl rfl rfl hl.1 [.int z21, .int (G_126 4), .ref hs] rfl (Nat.le_of_ble_eq_true rfl) dX6_pass_328 ⟨(by show _ ≤ (103 : Nat); omega), (by show _ ≤ (8939 : Nat); omega)⟩) hP hD hS hA [] rfl (fun H locs hP hS => ?_)
                          refine lv_imul hx hb dX6_pass_331 ?_
                          refine lv_iadd hx hb dX6_pass_332 ?_
                          refine va_put (D := D) (v := .int ((G_126 4) + (z21 * z48))) (ty := .int) (C := RX6) (T := TX6) (N := 12) hx hb hts hiX6 tyX6 tyX6_ok nmX6 hown hK hP hD hS _ zs_at rfl 4 (by decide) hf52 (fun _ h9 => h9) rfl (by decide +kernel) rfl rfl (Nat.le_of_ble_eq_true rfl) dX6_pass_333 (fun H locs hP hD hS => ?_)
                          rw [zs_set (vs := (zs_obj ad37 G_126 (va_up F_126 10 z37.1)).set 4 (.int ((G_126 4) + (z21 * z48)))) (G2 := upd G_126 4 ((G_126 4) + (z21 * z48))) (F2 := va_up F_126 10 z37.1) rfl] at hP hD
                          cases hF
                          exact J22 ad37 _ _ _ hw47 hf_47 le47 hb37 fr47_0 hP hD hS (lv_sub hl [1, 0, 2, 3, 4] rfl)
                      replace hF := hz_43
                      refine lv_if_ne (tgt := 291) hx hb dX6_pass_278 (by decide) (fun c_43 => ?_) (fun c_43 => ?_)
                      ·   replace hF := if_f hF c_43
                          cases hF
                          exact J43 _ _ _ hw41 hf_41 le41 fr41_0 fr41_2 hP hD hS (lv_sub hl [1, 2, 3, 4, 5, 6, 8, 0] rfl)
                      ·   replace hF := if_t hF c_43
                          refine lv_aload hx hb dX6_pass_281 (lv_at hl 7 rfl) ?_
                          refine lv_iconst (v := 1) hx hb dX6_pass_283 (by decide) ?_
                          refine lv_iconst (v := 0) hx hb dX6_pass_284 (by decide) ?_
                          replace hF := bnd_some hF
                          obtain ⟨p44, hz_44, hF⟩ := hF
                          refine sx_st hx hb hK hP hD hS hz_44 dX6_pass_285 (fun H locs hP hD hS => ?_)
                          obtain ⟨hw44, hn44⟩ := zs_st_wf hw41 hz_44
                          have lf44 : (p41).1 ≤ p44.1 := Nat.le_of_eq hn44.symm
                          have hf_44 := zs_fs_le hf_41 lf44
                          have fr44_0 : q3_126 < (p44).1 := Nat.lt_of_lt_of_le fr41_0 lf44
                          have fr44_1 : x24 < (p44).1 := Nat.lt_of_lt_of_le fr41_1 lf44
                          have fr44_2 : x26 < (p44).1 := Nat.lt_of_lt_of_le fr41_2 lf44
                          have le44 : p.1 ≤ (p44).1 := Nat.le_trans le41 lf44
                          replace hP : va_P D vwCl (zs_W [] cy hs ad37 G_126 (va_up F_126 10 z37.1) p44) H := hP
                          replace hD : va_D A (zs_W [] cy hs ad37 G_126 (va_up F_126 10 z37.1) p44) := hD
                          refine lv_aload hx hb dX6_pass_286 (lv_at hl 7 rfl) ?_
                          refine lv_iconst (v := 2) hx hb dX6_pass_288 (by decide) ?_
                          refine lv_iconst (v := -1) hx hb dX6_pass_289 (by decide) ?_
                          replace hF := bnd_some hF
                          obtain ⟨p45, hz_45, hF⟩ := hF
                          refine sx_st hx hb hK hP hD hS hz_45 dX6_pass_290 (fun H locs hP hD hS => ?_)
                          obtain ⟨hw45, hn45⟩ := zs_st_wf hw44 hz_45
                          have lf45 : (p44).1 ≤ p45.1 := Nat.le_of_eq hn45.symm
                          have hf_45 := zs_fs_le hf_44 lf45
                          have fr45_0 : q3_126 < (p45).1 := Nat.lt_of_lt_of_le fr44_0 lf45
                          have fr45_1 : x26 < (p45).1 := Nat.lt_of_lt_of_le fr44_2 lf45
                          have le45 : p.1 ≤ (p45).1 := Nat.le_trans le44 lf45
                          replace hP : va_P D vwCl (zs_W [] cy hs ad37 G_126 (va_up F_126 10 z37.1) p45) H := hP
                          replace hD : va_D A (zs_W [] cy hs ad37 G_126 (va_up F_126 10 z37.1) p45) := hD
                          cases hF
                          exact J43 _ _ _ hw45 hf_45 le45 fr45_0 fr45_1 hP hD hS (lv_sub hl [1, 2, 3, 4, 5, 6, 8, 0] rfl)
                  replace hF := hz_30
                  refine lv_icmp_ge (tgt := 215) hx hb dX6_pass_208 (by decide) (fun c_30 => ?_) (fun c_30 => ?_)
                  ·   replace hF := if_t hF c_30
                      refine lv_iload hx hb dX6_pass_215 (lv_at hl 0 rfl) ?_
                      refine lv_bipush (v := 12) hx hb dX6_pass_217 (by decide) ?_
                      refine lv_icmp_ge (tgt := 226) hx hb dX6_pass_219 (by decide) (fun c_31 => ?_) (fun c_31 => ?_)
                      ·   replace hF := if_t hF c_31
                          refine lv_iconst (v := 0) hx hb dX6_pass_226 (by decide) ?_
                          cases hF
                          exact J30 _ _ _ hP hD hS (lv_sub hl [5, 6, 7, 8, 9, 3, 2, 1] rfl)
                      ·   replace hF := if_f hF c_31
                          refine lv_iconst (v := 1) hx hb dX6_pass_222 (by decide) ?_
                          refine lv_goto (tgt := 227) hx hb dX6_pass_223 (by decide) ?_
                          cases hF
                          exact J30 _ _ _ hP hD hS (lv_sub hl [5, 6, 7, 8, 9, 3, 2, 1] rfl)
                  ·   replace hF := if_f hF c_30
                      refine lv_iconst (v := 2) hx hb dX6_pass_211 (by decide) ?_
                      refine lv_goto (tgt := 227) hx hb dX6_pass_212 (by decide) ?_
                      cases hF
                      exact J30 _ _ _ hP hD hS (lv_sub hl [5, 6, 7, 8, 9, 3, 2, 1] rfl)
              ·   replace hF := if_t hF c_22
                  refine lv_goto (tgt := 336) hx hb dX6_pass_152 (by decide) ?_
                  cases hF
                  refine W.widen (k := cu_126 + 2) (n := su_126 + 95) (by omega) (by omega) ?_
                  exact J22 ad_126 _ _ _ hw_126 hf_126 le_126 ha_126 fq3_126 hP hD hS (lv_sub hl [2, 3, 4, 5, 6] rfl)
  have L369 : ∀ (k : Nat) (G_369 : FN) (F_369 : Nat → Nat) (p_369 : zs_H) (x2_369 : Int32) (x3_369 : Int32) (q4_369 : Nat) (x5_369 : Int32) (x6_369 : Int32) (o : zs_H), fLX6_pass_369 F_369 q4_369 x5_369 k p_369 x3_369 x6_369 = some o → ∀ (ad_369 : Nat → Nat) (cu_369 su_369 T_ TS_ : Nat), cu_369 + 0 * k ≤ T_ → su_369 + 0 * k ≤ TS_ → T_ ≤ 103 → TS_ ≤ 8939 → ∀ (H : Heap) (locs : List Loc) (ls : Array Slot), zs_wf p_369 → zs_fs F_369 p_369 → p.1 ≤ (p_369).1 → (∀ i, i < p.1 → ad_369 i = ad i) → q4_369 < (p_369).1 → va_P D vwCl (zs_W [] cy hs ad_369 G_369 F_369 p_369) H → va_D A (zs_W [] cy hs ad_369 G_369 F_369 p_369) → va_S A s.heap H locs → lv_has ls 12 [(0, .ref hs), (2, .int x2_369), (3, .int x3_369), (4, .ref (ad_369 q4_369)), (5, .int x5_369), (6, .int x6_369)] → (∀ (H : Heap) (locs : List Loc) (ls : Array Slot), zs_wf o → zs_fs F_369 o → p.1 ≤ (o).1 → (∀ i, i < p.1 → ad_369 i = ad i) → va_P D vwCl (zs_W [] cy hs ad_369 G_369 F_369 o) H → va_D A (zs_W [] cy hs ad_369 G_369 F_369 o) → va_S A s.heap H locs → lv_has ls 12 [(0, .ref hs), (2, .int x2_369)] → W pg l e rX6_pass s m args below meth c H locs T_ TS_ Q (F0 m 440 ls [])) → W pg l e rX6_pass s m args below meth c H locs cu_369 su_369 Q (F0 m 369 ls []) := by
      intro k
      induction k with
      | zero =>
          intro G_369 F_369 p_369 x2_369 x3_369 q4_369 x5_369 x6_369 o hF
          rw [fLX6_pass_369] at hF
          cases hF
      | succ k ih =>
          intro G_369 F_369 p_369 x2_369 x3_369 q4_369 x5_369 x6_369 o hF ad_369 cu_369 su_369 T_ TS_ hcu_ hsu_ hT_ hTS_ H locs ls hw_369 hf_369 le_369 ha_369 fq4_369 hP hD hS hl kk0
          rw [fLX6_pass_369] at hF
          refine lv_iload hx hb dX6_pass_369 (lv_at hl 5 rfl) ?_
          refine lv_iload hx hb dX6_pass_371 (lv_at hl 4 rfl) ?_
          refine lv_icmp_ge (tgt := 440) hx hb dX6_pass_373 (by decide) (fun c_51 => ?_) (fun c_51 => ?_)
          ·   replace hF := if_t hF c_51
              cases hF
              refine W.widen (k := T_) (n := TS_) (by omega) (by omega) ?_
              exact kk0 _ _ _ hw_369 hf_369 le_369 ha_369 hP hD hS (lv_sub hl [0, 1] rfl)
          ·   replace hF := if_f hF c_51
              refine lv_aload hx hb dX6_pass_376 (lv_at hl 3 rfl) ?_
              refine lv_iload hx hb dX6_pass_378 (lv_at hl 5 rfl) ?_
              replace hF := bnd_some hF
              obtain ⟨x52, hz_52, hF⟩ := hF
              refine sx_ldr hx hb hK hP hz_52 dX6_pass_380 ?_
              have fx52 : x52 < (p_369).1 := zs_ldr_lt hw_369 hz_52
              refine lv_astore (lv' := [(7, .ref (ad_369 x52)), (0, .ref hs), (2, .int x2_369), (3, .int x3_369), (4, .ref (ad_369 q4_369)), (5, .int x5_369), (6, .int x6_369)]) hx hb dX6_pass_381 hl (by decide) rfl (fun ls hl => ?_)
              refine lv_aload hx hb dX6_pass_383 (lv_at hl 0 rfl) ?_
              refine lv_iconst (v := 2) hx hb dX6_pass_385 (by decide) ?_
              replace hF := bnd_some hF
              obtain ⟨x53, hz_53, hF⟩ := hF
              refine sx_ld hx hb hK hP hz_53 dX6_pass_386 ?_
              refine lv_iload_n hx hb dX6_pass_387 rfl (lv_at hl 3 rfl) ?_
              replace hF := bnd_some hF
              obtain ⟨t54, hz_54, hF⟩ := hF
              have J54 : ∀ (H : Heap) (locs : List Loc) (ls : Array Slot), va_P D vwCl (zs_W [] cy hs ad_369 G_369 F_369 p_369) H → va_D A (zs_W [] cy hs ad_369 G_369 F_369 p_369) → va_S A s.heap H locs → lv_has ls 12 [(0, .ref hs), (2, .int x2_369), (3, .int x3_369), (4, .ref (ad_369 q4_369)), (5, .int x5_369), (6, .int x6_369), (7, .ref (ad_369 x52))] → W pg l e rX6_pass s m args below meth c H locs (cu_369) (su_369) Q (F0 m 399 ls [.int t54]) := by
                  intro H locs ls hP hD hS hl
                  refine lv_istore (lv' := [(8, .int t54), (0, .ref hs), (2, .int x2_369), (3, .int x3_369), (4, .ref (ad_369 q4_369)), (5, .int x5_369), (6, .int x6_369), (7, .ref (ad_369 x52))]) hx hb dX6_pass_399 hl (by decide) rfl (fun ls hl => ?_)
                  refine lv_aload_n hx hb dX6_pass_401 rfl (lv_at hl 1 rfl) ?_
                  refine va_get (D := D) (C := RX6) (T := TX6) (N := 12) hx hb hts hiX6 hown hK hP _ zs_at rfl 11 (by decide) hf38 (fun _ h9 => h9) rfl dX6_pass_402 ?_
                  refine lv_aload hx hb dX6_pass_405 (lv_at hl 7 rfl) ?_
                  refine lv_iconst (v := 0) hx hb dX6_pass_407 (by decide) ?_
                  replace hF := bnd_some hF
                  obtain ⟨x56, hz_56, hF⟩ := hF
                  refine sx_ld hx hb hK hP hz_56 dX6_pass_408 ?_
                  replace hF := bnd_some hF
                  obtain ⟨x57, hz_57, hF⟩ := hF
                  refine sx_ldr hx hb hK hP hz_57 dX6_pass_409 ?_
                  have fx57 : x57 < (p_369).1 := zs_ldr_lt hw_369 hz_57
                  refine lv_aload hx hb dX6_pass_410 (lv_at hl 7 rfl) ?_
                  refine lv_iconst (v := 1) hx hb dX6_pass_412 (by decide) ?_
                  replace hF := bnd_some hF
                  obtain ⟨x58, hz_58, hF⟩ := hF
                  refine sx_ld hx hb hK hP hz_58 dX6_pass_413 ?_
                  refine lv_dup2_11 hx hb dX6_pass_414 rfl rfl ?_
                  replace hF := bnd_some hF
                  obtain ⟨x59, hz_59, hF⟩ := hF
                  refine sx_ld hx hb hK hP hz_59 dX6_pass_415 ?_
                  refine lv_iload hx hb dX6_pass_416 (lv_at hl 0 rfl) ?_
                  refine lv_iadd hx hb dX6_pass_418 ?_
                  replace hF := bnd_some hF
                  obtain ⟨p60, hz_60, hF⟩ := hF
                  refine sx_st hx hb hK hP hD hS hz_60 dX6_pass_419 (fun H locs hP hD hS => ?_)
                  obtain ⟨hw60, hn60⟩ := zs_st_wf hw_369 hz_60
                  have lf60 : (p_369).1 ≤ p60.1 := Nat.le_of_eq hn60.symm
                  have hf_60 := zs_fs_le hf_369 lf60
                  have fr60_0 : q4_369 < (p60).1 := Nat.lt_of_lt_of_le fq4_369 lf60
                  have fr60_1 : x52 < (p60).1 := Nat.lt_of_lt_of_le fx52 lf60
                  have le60 : p.1 ≤ (p60).1 := Nat.le_trans le_369 lf60
                  replace hP : va_P D vwCl (zs_W [] cy hs ad_369 G_369 F_369 p60) H := hP
                  replace hD : va_D A (zs_W [] cy hs ad_369 G_369 F_369 p60) := hD
                  refine lv_aload hx hb dX6_pass_420 (lv_at hl 7 rfl) ?_
                  refine lv_iconst (v := 2) hx hb dX6_pass_422 (by decide) ?_
                  refine lv_dup2_11 hx hb dX6_pass_423 rfl rfl ?_
                  replace hF := bnd_some hF
                  obtain ⟨x61, hz_61, hF⟩ := hF
                  refine sx_ld hx hb hK hP hz_61 dX6_pass_424 ?_
                  refine lv_iload hx hb dX6_pass_425 (lv_at hl 0 rfl) ?_
                  refine lv_isub hx hb dX6_pass_427 ?_
                  replace hF := bnd_some hF
                  obtain ⟨p62, hz_62, hF⟩ := hF
                  refine sx_st hx hb hK hP hD hS hz_62 dX6_pass_428 (fun H locs hP hD hS => ?_)
                  obtain ⟨hw62, hn62⟩ := zs_st_wf hw60 hz_62
                  have lf62 : (p60).1 ≤ p62.1 := Nat.le_of_eq hn62.symm
                  have hf_62 := zs_fs_le hf_60 lf62
                  have fr62_0 : q4_369 < (p62).1 := Nat.lt_of_lt_of_le fr60_0 lf62
                  have le62 : p.1 ≤ (p62).1 := Nat.le_trans le60 lf62
                  replace hP : va_P D vwCl (zs_W [] cy hs ad_369 G_369 F_369 p62) H := hP
                  replace hD : va_D A (zs_W [] cy hs ad_369 G_369 F_369 p62) := hD
                  refine lv_iload_n hx hb dX6_pass_429 rfl (lv_at hl 3 rfl) ?_
                  refine lv_iload hx hb dX6_pass_430 (lv_at hl 0 rfl) ?_
                  refine lv_isub hx hb dX6_pass_432 ?_
                  refine lv_istore_n (lv' := [(3, .int (x3_369 - t54)), (8, .int t54), (0, .ref hs), (2, .int x2_369), (4, .ref (ad_369 q4_369)), (5, .int x5_369), (6, .int x6_369), (7, .ref (ad_369 x52))]) hx hb dX6_pass_433 rfl hl (by decide) rfl (fun ls hl => ?_)
                  refine lv_iinc (v := x6_369 + 1) (lv' := [(6, .int (x6_369 + 1)), (3, .int (x3_369 - t54)), (8, .int t54), (0, .ref hs), (2, .int x2_369), (4, .ref (ad_369 q4_369)), (5, .int x5_369), (7, .ref (ad_369 x52))]) hx hb dX6_pass_434 hl (k := 6) rfl rfl (by decide) rfl (fun ls hl => ?_)
                  refine lv_goto (tgt := 369) hx hb dX6_pass_437 (by decide) ?_
                  exact ih G_369 F_369 p62 x2_369 (x3_369 - t54) q4_369 x5_369 (x6_369 + 1) o hF ad_369 (cu_369) (su_369) T_ TS_ (by omega) (by omega) hT_ hTS_ _ _ _ hw62 hf_62 le62 ha_369 fr62_0 hP hD hS (lv_sub hl [3, 4, 1, 5, 6, 0] rfl) kk0
              replace hF := hz_54
              refine lv_icmp_ge (tgt := 398) hx hb dX6_pass_388 (by decide) (fun c_54 => ?_) (fun c_54 => ?_)
              ·   replace hF := if_t hF c_54
                  refine lv_iload_n hx hb dX6_pass_398 rfl (lv_at hl 3 rfl) ?_
                  cases hF
                  exact J54 _ _ _ hP hD hS (lv_sub hl [1, 2, 3, 4, 5, 6, 0] rfl)
              ·   replace hF := if_f hF c_54
                  refine lv_aload hx hb dX6_pass_391 (lv_at hl 0 rfl) ?_
                  refine lv_iconst (v := 2) hx hb dX6_pass_393 (by decide) ?_
                  replace hF := bnd_some hF
                  obtain ⟨x55, hz_55, hF⟩ := hF
                  refine sx_ld hx hb hK hP hz_55 dX6_pass_394 ?_
                  refine lv_goto (tgt := 399) hx hb dX6_pass_395 (by decide) ?_
                  cases hF
                  exact J54 _ _ _ hP hD hS (lv_sub hl [1, 2, 3, 4, 5, 6, 0] rfl)
  have L460 : ∀ (k : Nat) (G_460 : FN) (F_460 : Nat → Nat) (p_460 : zs_H) (x2_460 : Int32) (q4_460 : Nat) (q5_460 : Nat) (x6_460 : Int32) (x7_460 : Int32) (o : zs_H × Nat), fLX6_pass_460 q5_460 x6_460 k p_460 q4_460 x7_460 = some o → ∀ (ad_460 : Nat → Nat) (cu_460 su_460 T_ TS_ : Nat), cu_460 + 1 * k ≤ T_ → su_460 + 92 * k ≤ TS_ → T_ ≤ 103 → TS_ ≤ 8939 → ∀ (H : Heap) (locs : List Loc) (ls : Array Slot), zs_wf p_460 → zs_fs F_460 p_460 → p.1 ≤ (p_460).1 → (∀ i, i < p.1 → ad_460 i = ad i) → q4_460 < (p_460).1 → q5_460 < (p_460).1 → va_P D vwCl (zs_W [] cy hs ad_460 G_460 F_460 p_460) H → va_D A (zs_W [] cy hs ad_460 G_460 F_460 p_460) → va_S A s.heap H locs → lv_has ls 12 [(0, .ref hs), (2, .int x2_460), (4, .ref (ad_460 q4_460)), (5, .ref (ad_460 q5_460)), (6, .int x6_460), (7, .int x7_460)] → (∀ (ad2 : Nat → Nat) (H : Heap) (locs : List Loc) (ls : Array Slot), zs_wf o.1 → zs_fs F_460 o.1 → p.1 ≤ (o.1).1 → (∀ i, i < p.1 → ad2 i = ad i) → o.2 < (o.1).1 → va_P D vwCl (zs_W [] cy hs ad2 G_460 F_460 o.1) H → va_D A (zs_W [] cy hs ad2 G_460 F_460 o.1) → va_S A s.heap H locs → lv_has ls 12 [(0, .ref hs), (2, .int x2_460), (4, .ref (ad2 o.2))] → W pg l e rX6_pass s m args below meth c H locs T_ TS_ Q (F0 m 496 ls [])) → W pg l e rX6_pass s m args below meth c H locs cu_460 su_460 Q (F0 m 460 ls []) := by
      intro k
      induction k with
      | zero =>
          intro G_460 F_460 p_460 x2_460 q4_460 q5_460 x6_460 x7_460 o hF
          rw [fLX6_pass_460] at hF
          cases hF
      | succ k ih =>
          intro G_460 F_460 p_460 x2_460 q4_460 q5_460 x6_460 x7_460 o hF ad_460 cu_460 su_460 T_ TS_ hcu_ hsu_ hT_ hTS_ H locs ls hw_460 hf_460 le_460 ha_460 fq4_460 fq5_460 hP hD hS hl kk0
          rw [fLX6_pass_460] at hF
          refine lv_iload hx hb dX6_pass_460 (lv_at hl 5 rfl) ?_
          refine lv_iload hx hb dX6_pass_462 (lv_at hl 4 rfl) ?_
          refine lv_icmp_ge (tgt := 496) hx hb dX6_pass_464 (by decide) (fun c_66 => ?_) (fun c_66 => ?_)
          ·   replace hF := if_t hF c_66
              cases hF
              refine W.widen (k := T_) (n := TS_) (by omega) (by omega) ?_
              exact kk0 ad_460 _ _ _ hw_460 hf_460 le_460 ha_460 fq4_460 hP hD hS (lv_sub hl [0, 1, 2] rfl)
          ·   replace hF := if_f hF c_66
              refine lv_aload hx hb dX6_pass_467 (lv_at hl 3 rfl) ?_
              refine lv_iload hx hb dX6_pass_469 (lv_at hl 5 rfl) ?_
              replace hF := bnd_some hF
              obtain ⟨x67, hz_67, hF⟩ := hF
              refine sx_ldr hx hb hK hP hz_67 dX6_pass_471 ?_
              have fx67 : x67 < (p_460).1 := zs_ldr_lt hw_460 hz_67
              refine lv_astore (lv' := [(8, .ref (ad_460 x67)), (0, .ref hs), (2, .int x2_460), (4, .ref (ad_460 q4_460)), (5, .ref (ad_460 q5_460)), (6, .int x6_460), (7, .int x7_460)]) hx hb dX6_pass_472 hl (by decide) rfl (fun ls hl => ?_)
              refine lv_aload hx hb dX6_pass_474 (lv_at hl 0 rfl) ?_
              refine lv_iconst (v := 2) hx hb dX6_pass_476 (by decide) ?_
              replace hF := bnd_some hF
              obtain ⟨x68, hz_68, hF⟩ := hF
              refine sx_ld hx hb hK hP hz_68 dX6_pass_477 ?_
              replace hF := bnd_some hF
              obtain ⟨t69, hz_69, hF⟩ := hF
              have J69 : ∀ (ad69 : Nat → Nat) (H : Heap) (locs : List Loc) (ls : Array Slot), (zs_wf t69.1) → (zs_fs F_460 t69.1) → (p.1 ≤ (t69.1).1) → (∀ i, i < p.1 → ad69 i = ad i) → (t69.2 < (t69.1).1) → (q5_460 < (t69.1).1) → va_P D vwCl (zs_W [] cy hs ad69 G_460 F_460 t69.1) H → va_D A (zs_W [] cy hs ad69 G_460 F_460 t69.1) → va_S A s.heap H locs → lv_has ls 12 [(0, .ref hs), (2, .int x2_460), (4, .ref (ad69 t69.2)), (5, .ref (ad69 q5_460)), (6, .int x6_460), (7, .int x7_460)] → W pg l e rX6_pass s m args below meth c H locs (cu_460 + 1) (su_460 + 92) Q (F0 m 490 ls []) := by
                  intro ad69 H locs ls hw69j hf69j le69j ha69j fj69_0 fj69_1 hP hD hS hl
                  refine lv_iinc (v := x7_460 + 1) (lv' := [(7, .int (x7_460 + 1)), (0, .ref hs), (2, .int x2_460), (4, .ref (ad69 t69.2)), (5, .ref (ad69 q5_460)), (6, .int x6_460)]) hx hb dX6_pass_490 hl (k := 5) rfl rfl (by decide) rfl (fun ls hl => ?_)
                  refine lv_goto (tgt := 460) hx hb dX6_pass_493 (by decide) ?_
                  exact ih G_460 F_460 t69.1 x2_460 t69.2 q5_460 x6_460 (x7_460 + 1) o hF ad69 (cu_460 + 1) (su_460 + 92) T_ TS_ (by omega) (by omega) hT_ hTS_ _ _ _ hw69j hf69j le69j ha69j fj69_0 fj69_1 hP hD hS (lv_sub hl [1, 2, 3, 4, 5, 0] rfl) kk0
              replace hF := hz_69
              refine lv_if_le (tgt := 490) hx hb dX6_pass_478 (by decide) (fun c_69 => ?_) (fun c_69 => ?_)
              ·   replace hF := if_t hF c_69
                  cases hF
                  refine W.widen (k := cu_460 + 1) (n := su_460 + 92) (by omega) (by omega) ?_
                  exact J69 ad_460 _ _ _ hw_460 hf_460 le_460 ha_460 fq4_460 fq5_460 hP hD hS (lv_sub hl [1, 2, 3, 4, 5, 6] rfl)
              ·   replace hF := if_f hF c_69
                  refine lv_aload hx hb dX6_pass_481 (lv_at hl 3 rfl) ?_
                  refine lv_aload hx hb dX6_pass_483 (lv_at hl 0 rfl) ?_
                  replace hF := bnd_some hF
                  obtain ⟨z70, hz_70, hF⟩ := hF
                  refine zw_R (kS (As := [.ref (ad_460 q4_460), .ref (ad_460 x67)]) ⟨hx, hb, hml, hown, hts⟩ (kX6_more l D cy sa hs ad_460 G_460 F_460 p_460 q4_460 x67 hw_460 hf_460 fq4_460 fx67 z70 hz_70 _) (va_cwS 2 hts gX6_pass_X6_more rfl rfl rfl (by decide +kernel) ⟨Nat.le_of_ble_eq_true rfl, Nat.le_of_ble_eq_true rfl⟩) hK hP hD hS hA hG (List.range' ([] : va_W).length (zs_W [] cy hs ad_460 G_460 F_460 p_460).length) zw_map2 (zp_nd2 _ _) rfl hl.1 [] rfl (Nat.le_of_ble_eq_true rfl) dX6_pass_485 ⟨(by show _ ≤ (103 : Nat); omega), (by show _ ≤ (8939 : Nat); omega)⟩) hP hD hS hA (fun ad70 H locs hq70 hP hD hS => ?_)
                  obtain ⟨⟨hw70, hf_70, lf70, ha70⟩, fn70⟩ := hq70
                  replace hl := lv_sub (l' := [(0, .ref hs), (2, .int x2_460), (5, .ref (ad_460 q5_460)), (6, .int x6_460), (7, .int x7_460)]) hl [1, 2, 4, 5, 6] rfl
                  rw [← ha70 q5_460 fq5_460] at hl
                  have fr70_0 : q5_460 < (z70.2).1 := Nat.lt_of_lt_of_le fq5_460 lf70
                  have le70 : p.1 ≤ (z70.2).1 := Nat.le_trans le_460 lf70
                  have hb70 : ∀ i, i < p.1 → ad70 i = ad i := fun i hi => (ha70 i (Nat.lt_of_lt_of_le hi le_460)).trans (ha_460 i hi)
                  replace hP : va_P D vwCl (zs_W [] cy hs ad70 G_460 F_460 z70.2) H := hP
                  replace hD : va_D A (zs_W [] cy hs ad70 G_460 F_460 z70.2) := hD
                  refine lv_astore (lv' := [(4, .ref (ad70 z70.1)), (0, .ref hs), (2, .int x2_460), (5, .ref (ad70 q5_460)), (6, .int x6_460), (7, .int x7_460)]) hx hb dX6_pass_488 hl (by decide) rfl (fun ls hl => ?_)
                  cases hF
                  exact J69 ad70 _ _ _ hw70 hf_70 le70 hb70 fn70 fr70_0 hP hD hS (lv_sub hl [1, 2, 0, 3, 4, 5] rfl)
  unfold fX6_pass at hF
  refine lv_iconst (v := 0) hx hb dX6_pass_0 (by decide) ?_
  refine lv_istore_n (lv' := [(1, .int 0), (0, .ref hs)]) hx hb dX6_pass_1 rfl hl (by decide) rfl (fun ls hl => ?_)
  refine lv_aload_n hx hb dX6_pass_2 rfl (lv_at hl 1 rfl) ?_
  refine va_get (D := D) (C := RX6) (T := TX6) (N := 12) hx hb hts hiX6 hown hK hP _ zs_at rfl 7 (by decide) hf24 (fun _ h9 => h9) rfl dX6_pass_3 ?_
  refine lv_astore_n (lv' := [(2, .ref (ad (F 7))), (1, .int 0), (0, .ref hs)]) hx hb dX6_pass_6 rfl hl (by decide) rfl (fun ls hl => ?_)
  refine lv_aload_n hx hb dX6_pass_7 rfl (lv_at hl 0 rfl) ?_
  replace hF := bnd_some hF
  obtain ⟨x1, hz_1, hF⟩ := hF
  refine sx_len hx hb hK hP hz_1 dX6_pass_8 ?_
  refine lv_istore_n (lv' := [(3, .int x1), (2, .ref (ad (F 7))), (1, .int 0), (0, .ref hs)]) hx hb dX6_pass_9 rfl hl (by decide) rfl (fun ls hl => ?_)
  refine lv_iconst (v := 0) hx hb dX6_pass_10 (by decide) ?_
  refine lv_istore (lv' := [(4, .int 0), (3, .int x1), (2, .ref (ad (F 7))), (1, .int 0), (0, .ref hs)]) hx hb dX6_pass_11 hl (by decide) rfl (fun ls hl => ?_)
  replace hF := bnd_some hF
  obtain ⟨o2, hz_2, hF⟩ := hF
  refine L13 300 G F p 0 (F 7) x1 0 o2 hz_2 ad (0) (0) (0) (0) (Nat.le_of_ble_eq_true rfl) (Nat.le_of_ble_eq_true rfl) (Nat.le_of_ble_eq_true rfl) (Nat.le_of_ble_eq_true rfl) _ _ _ hw hf (Nat.le_refl _) (fun _ _ => rfl) (hf 7) hP hD hS (lv_sub hl [4, 3, 2, 1, 0] rfl) (fun H locs ls hw2_0 hf2_0 le2_0 ha2_0 hP hD hS hl => ?_)
  refine lv_aload_n hx hb dX6_pass_46 rfl (lv_at hl 0 rfl) ?_
  refine va_get (D := D) (C := RX6) (T := TX6) (N := 12) hx hb hts hiX6 hown hK hP _ zs_at rfl 7 (by decide) hf24 (fun _ h9 => h9) rfl dX6_pass_47 ?_
  refine lv_astore_n (lv' := [(2, .ref (ad (F 7))), (0, .ref hs), (1, .int o2)]) hx hb dX6_pass_50 rfl hl (by decide) rfl (fun ls hl => ?_)
  refine lv_aload_n hx hb dX6_pass_51 rfl (lv_at hl 0 rfl) ?_
  replace hF := bnd_some hF
  obtain ⟨x7, hz_7, hF⟩ := hF
  refine sx_len hx hb hK hP hz_7 dX6_pass_52 ?_
  refine lv_istore_n (lv' := [(3, .int x7), (2, .ref (ad (F 7))), (0, .ref hs), (1, .int o2)]) hx hb dX6_pass_53 rfl hl (by decide) rfl (fun ls hl => ?_)
  refine lv_iconst (v := 0) hx hb dX6_pass_54 (by decide) ?_
  refine lv_istore (lv' := [(4, .int 0), (3, .int x7), (2, .ref (ad (F 7))), (0, .ref hs), (1, .int o2)]) hx hb dX6_pass_55 hl (by decide) rfl (fun ls hl => ?_)
  replace hF := bnd_some hF
  obtain ⟨o8, hz_8, hF⟩ := hF
  refine L57 300 G F p o2 (F 7) x7 0 o8 hz_8 ad (0) (0) (0) (0) (Nat.le_of_ble_eq_true rfl) (Nat.le_of_ble_eq_true rfl) (Nat.le_of_ble_eq_true rfl) (Nat.le_of_ble_eq_true rfl) _ _ _ hw2_0 hf2_0 le2_0 ha2_0 (hf2_0 7) hP hD hS (lv_sub hl [3, 4, 2, 1, 0] rfl) (fun H locs ls hw8_0 hf8_0 le8_0 ha8_0 hP hD hS hl => ?_)
  refine lv_iconst (v := 0) hx hb dX6_pass_112 (by decide) ?_
  refine lv_istore_n (lv' := [(2, .int 0), (0, .ref hs)]) hx hb dX6_pass_113 rfl hl (by decide) rfl (fun ls hl => ?_)
  refine lv_aload_n hx hb dX6_pass_114 rfl (lv_at hl 1 rfl) ?_
  refine va_get (D := D) (C := RX6) (T := TX6) (N := 12) hx hb hts hiX6 hown hK hP _ zs_at rfl 9 (by decide) hf31 (fun _ h9 => h9) rfl dX6_pass_115 ?_
  refine lv_astore_n (lv' := [(3, .ref (ad (F 9))), (2, .int 0), (0, .ref hs)]) hx hb dX6_pass_118 rfl hl (by decide) rfl (fun ls hl => ?_)
  refine lv_aload_n hx hb dX6_pass_119 rfl (lv_at hl 0 rfl) ?_
  replace hF := bnd_some hF
  obtain ⟨x17, hz_17, hF⟩ := hF
  refine sx_len hx hb hK hP hz_17 dX6_pass_120 ?_
  refine lv_istore (lv' := [(4, .int x17), (3, .ref (ad (F 9))), (2, .int 0), (0, .ref hs)]) hx hb dX6_pass_121 hl (by decide) rfl (fun ls hl => ?_)
  refine lv_iconst (v := 0) hx hb dX6_pass_123 (by decide) ?_
  refine lv_istore (lv' := [(5, .int 0), (4, .int x17), (3, .ref (ad (F 9))), (2, .int 0), (0, .ref hs)]) hx hb dX6_pass_124 hl (by decide) rfl (fun ls hl => ?_)
  replace hF := bnd_some hF
  obtain ⟨o18, hz_18, hF⟩ := hF
  refine L126 5 G F o8 0 (F 9) x17 0 o18 hz_18 ad (0) (0) (10) (475) (Nat.le_of_ble_eq_true rfl) (Nat.le_of_ble_eq_true rfl) (Nat.le_of_ble_eq_true rfl) (Nat.le_of_ble_eq_true rfl) _ _ _ hw8_0 hf8_0 le8_0 ha8_0 (hf8_0 9) hP hD hS (lv_sub hl [4, 3, 2, 1, 0] rfl) (fun ad18_0 H locs ls hw18_0 hf18_0 le18_0 ha18_0 hP hD hS hl => ?_)
  refine lv_aload_n hx hb dX6_pass_342 rfl (lv_at hl 0 rfl) ?_
  refine lv_dup hx hb dX6_pass_343 rfl ?_
  refine va_get (D := D) (C := RX6) (T := TX6) (N := 12) hx hb hts hiX6 hown hK hP _ zs_at rfl 3 (by decide) hf49 (fun _ h9 => h9) rfl dX6_pass_344 ?_
  refine lv_iload_n hx hb dX6_pass_347 rfl (lv_at hl 1 rfl) ?_
  refine lv_iadd hx hb dX6_pass_348 ?_
  refine va_put (D := D) (v := .int ((o18.1 3) + o18.2.2.2)) (ty := .int) (C := RX6) (T := TX6) (N := 12) hx hb hts hiX6 tyX6 tyX6_ok nmX6 hown hK hP hD hS _ zs_at rfl 3 (by decide) hf49 (fun _ h9 => h9) rfl (by decide +kernel) rfl rfl (Nat.le_of_ble_eq_true rfl) dX6_pass_349 (fun H locs hP hD hS => ?_)
  rw [zs_set (vs := (zs_obj ad18_0 o18.1 o18.2.1).set 3 (.int ((o18.1 3) + o18.2.2.2))) (G2 := upd o18.1 3 ((o18.1 3) + o18.2.2.2)) (F2 := o18.2.1) rfl] at hP hD
  refine lv_bipush (v := 24) hx hb dX6_pass_352 (by decide) ?_
  refine lv_istore_n (lv' := [(3, .int 24), (0, .ref hs), (2, .int o18.2.2.2)]) hx hb dX6_pass_354 rfl hl (by decide) rfl (fun ls hl => ?_)
  refine lv_aload_n hx hb dX6_pass_355 rfl (lv_at hl 1 rfl) ?_
  refine va_get (D := D) (C := RX6) (T := TX6) (N := 12) hx hb hts hiX6 hown hK hP _ zs_at rfl 10 (by decide) hf34 (fun _ h9 => h9) rfl dX6_pass_356 ?_
  refine lv_astore (lv' := [(4, .ref (ad18_0 (o18.2.1 10))), (3, .int 24), (0, .ref hs), (2, .int o18.2.2.2)]) hx hb dX6_pass_359 hl (by decide) rfl (fun ls hl => ?_)
  refine lv_aload hx hb dX6_pass_361 (lv_at hl 0 rfl) ?_
  replace hF := bnd_some hF
  obtain ⟨x49, hz_49, hF⟩ := hF
  refine sx_len hx hb hK hP hz_49 dX6_pass_363 ?_
  refine lv_istore (lv' := [(5, .int x49), (4, .ref (ad18_0 (o18.2.1 10))), (3, .int 24), (0, .ref hs), (2, .int o18.2.2.2)]) hx hb dX6_pass_364 hl (by decide) rfl (fun ls hl => ?_)
  refine lv_iconst (v := 0) hx hb dX6_pass_366 (by decide) ?_
  refine lv_istore (lv' := [(6, .int 0), (5, .int x49), (4, .ref (ad18_0 (o18.2.1 10))), (3, .int 24), (0, .ref hs), (2, .int o18.2.2.2)]) hx hb dX6_pass_367 hl (by decide) rfl (fun ls hl => ?_)
  replace hF := bnd_some hF
  obtain ⟨o50, hz_50, hF⟩ := hF
  refine L369 300 (upd o18.1 3 ((o18.1 3) + o18.2.2.2)) o18.2.1 o18.2.2.1 o18.2.2.2 24 (o18.2.1 10) x49 0 o50 hz_50 ad18_0 (10) (475) (10) (475) (Nat.le_of_ble_eq_true rfl) (Nat.le_of_ble_eq_true rfl) (Nat.le_of_ble_eq_true rfl) (Nat.le_of_ble_eq_true rfl) _ _ _ hw18_0 hf18_0 le18_0 ha18_0 (hf18_0 10) hP hD hS (lv_sub hl [4, 5, 3, 2, 1, 0] rfl) (fun H locs ls hw50_0 hf50_0 le50_0 ha50_0 hP hD hS hl => ?_)
  refine lv_iconst (v := 0) hx hb dX6_pass_440 (by decide) ?_
  replace hF := bnd_some hF
  obtain ⟨p63, hz_63, hF⟩ := hF
  refine sx_nwr hx hb hown (hts (.classLink RX6 23 "[I") (by decide +kernel)) hG.1.2.2.2 hK hw50_0 hP hD hS hA hz_63 (Nat.le_of_ble_eq_true rfl) (Nat.le_of_ble_eq_true rfl) (Nat.le_of_ble_eq_true rfl) dX6_pass_441 (fun ad63 H ha63 hP hD hS => ?_)
  obtain ⟨hw63, hn63⟩ := zs_nwr_wf hw50_0 hz_63
  have lf63 : (o50).1 ≤ p63.1 := by rw [hn63]; exact Nat.le_succ _
  have fn63 : (o50).1 < p63.1 := by rw [hn63]; exact Nat.lt_succ_self _
  rw [zs_W_up hf50_0 ha63] at hP hD
  have hf_63 := zs_fs_le hf50_0 lf63
  have le63 : p.1 ≤ (p63).1 := Nat.le_trans le50_0 lf63
  have hb63 : ∀ i, i < p.1 → ad63 i = ad i := fun i hi => (ha63 i (Nat.lt_of_lt_of_le hi le50_0)).trans (ha50_0 i hi)
  replace hP : va_P D vwCl (zs_W [] cy hs ad63 (upd o18.1 3 ((o18.1 3) + o18.2.2.2)) o18.2.1 p63) H := hP
  replace hD : va_D A (zs_W [] cy hs ad63 (upd o18.1 3 ((o18.1 3) + o18.2.2.2)) o18.2.1 p63) := hD
  refine lv_astore (lv' := [(4, .ref (ad63 o50.1)), (0, .ref hs), (2, .int o18.2.2.2)]) hx hb dX6_pass_444 hl (by decide) rfl (fun ls hl => ?_)
  refine lv_aload_n hx hb dX6_pass_446 rfl (lv_at hl 1 rfl) ?_
  refine va_get (D := D) (C := RX6) (T := TX6) (N := 12) hx hb hts hiX6 hown hK hP _ zs_at rfl 10 (by decide) hf34 (fun _ h9 => h9) rfl dX6_pass_447 ?_
  refine lv_astore (lv' := [(5, .ref (ad63 (o18.2.1 10))), (4, .ref (ad63 o50.1)), (0, .ref hs), (2, .int o18.2.2.2)]) hx hb dX6_pass_450 hl (by decide) rfl (fun ls hl => ?_)
  refine lv_aload hx hb dX6_pass_452 (lv_at hl 0 rfl) ?_
  replace hF := bnd_some hF
  obtain ⟨x64, hz_64, hF⟩ := hF
  refine sx_len hx hb hK hP hz_64 dX6_pass_454 ?_
  refine lv_istore (lv' := [(6, .int x64), (5, .ref (ad63 (o18.2.1 10))), (4, .ref (ad63 o50.1)), (0, .ref hs), (2, .int o18.2.2.2)]) hx hb dX6_pass_455 hl (by decide) rfl (fun ls hl => ?_)
  refine lv_iconst (v := 0) hx hb dX6_pass_457 (by decide) ?_
  refine lv_istore (lv' := [(7, .int 0), (6, .int x64), (5, .ref (ad63 (o18.2.1 10))), (4, .ref (ad63 o50.1)), (0, .ref hs), (2, .int o18.2.2.2)]) hx hb dX6_pass_458 hl (by decide) rfl (fun ls hl => ?_)
  replace hF := bnd_some hF
  obtain ⟨o65, hz_65, hF⟩ := hF
  refine L460 92 (upd o18.1 3 ((o18.1 3) + o18.2.2.2)) o18.2.1 p63 o18.2.2.2 o50.1 (o18.2.1 10) x64 0 o65 hz_65 ad63 (11) (475) (103) (8939) (Nat.le_of_ble_eq_true rfl) (Nat.le_of_ble_eq_true rfl) (Nat.le_of_ble_eq_true rfl) (Nat.le_of_ble_eq_true rfl) _ _ _ hw63 hf_63 le63 hb63 fn63 (hf_63 10) hP hD hS (lv_sub hl [4, 5, 3, 2, 1, 0] rfl) (fun ad65_0 H locs ls hw65_0 hf65_0 le65_0 ha65_0 fk65_0_4 hP hD hS hl => ?_)
  refine lv_aload_n hx hb dX6_pass_496 rfl (lv_at hl 0 rfl) ?_
  refine lv_aload hx hb dX6_pass_497 (lv_at hl 2 rfl) ?_
  refine va_put (D := D) (v := .ref (ad65_0 o65.2)) (ty := .array (.array .int)) (C := RX6) (T := TX6) (N := 12) hx hb hts hiX6 tyX6 tyX6_ok nmX6 hown hK hP hD hS _ zs_at rfl 10 (by decide) hf34 (fun _ h9 => h9) rfl (by decide +kernel) rfl rfl (Nat.le_of_ble_eq_true rfl) dX6_pass_499 (fun H locs hP hD hS => ?_)
  have hg71 := zs_fs_up (k := 10) hf65_0 fk65_0_4
  replace hg71 : zs_fs (va_up o18.2.1 10 o65.2) o65.1 := hg71
  rw [zs_set (vs := (zs_obj ad65_0 (upd o18.1 3 ((o18.1 3) + o18.2.2.2)) o18.2.1).set 10 (.ref (ad65_0 o65.2))) (G2 := upd o18.1 3 ((o18.1 3) + o18.2.2.2)) (F2 := va_up o18.2.1 10 o65.2) rfl] at hP hD
  refine lv_aload_n hx hb dX6_pass_502 rfl (lv_at hl 0 rfl) ?_
  refine lv_dup hx hb dX6_pass_503 rfl ?_
  refine va_get (D := D) (C := RX6) (T := TX6) (N := 12) hx hb hts hiX6 hown hK hP _ zs_at rfl 0 (by decide) hf46 (fun _ h9 => h9) rfl dX6_pass_504 ?_
  refine lv_iconst (v := 1) hx hb dX6_pass_507 (by decide) ?_
  refine lv_iadd hx hb dX6_pass_508 ?_
  refine va_put (D := D) (v := .int ((o18.1 0) + 1)) (ty := .int) (C := RX6) (T := TX6) (N := 12) hx hb hts hiX6 tyX6 tyX6_ok nmX6 hown hK hP hD hS _ zs_at rfl 0 (by decide) hf46 (fun _ h9 => h9) rfl (by decide +kernel) rfl rfl (Nat.le_of_ble_eq_true rfl) dX6_pass_509 (fun H locs hP hD hS => ?_)
  rw [zs_set (vs := (zs_obj ad65_0 (upd o18.1 3 ((o18.1 3) + o18.2.2.2)) (va_up o18.2.1 10 o65.2)).set 0 (.int ((o18.1 0) + 1))) (G2 := upd (upd o18.1 3 ((o18.1 3) + o18.2.2.2)) 0 ((o18.1 0) + 1)) (F2 := va_up o18.2.1 10 o65.2) rfl] at hP hD
  refine lv_iload_n hx hb dX6_pass_512 rfl (lv_at hl 1 rfl) ?_
  cases hF
  exact hQ _ _ _ _ _ _ _ ad65_0 dX6_pass_513 ⟨rfl, ⟨hw65_0, hg71, le65_0, ha65_0⟩⟩ hP hD hS (Nat.le_of_ble_eq_true rfl) (Nat.le_of_ble_eq_true rfl)

def fLX6_told_14 (p_14 : zs_H) (q3_14 : Nat) (x4_14 : Int32) : Nat → Int32 → Int32 → Option (Int32)
  | 0, _, _ => none
  | k + 1, x2_14, x5_14 => if x4_14 ≤ x5_14 then some x2_14 else (zs_ldr p_14 q3_14 x5_14).bind fun x4 => (zs_ld p_14 x4 0).bind fun x5 => (zs_ld p_14 x4 1).bind fun x6 => (zs_ld p_14 x4 2).bind fun x7 => fLX6_told_14 p_14 q3_14 x4_14 k (x2_14 + ((x5 + x6) + x7)) (x5_14 + 1)
def fLX6_told_66 (p_66 : zs_H) (q4_66 : Nat) (x5_66 : Int32) : Nat → Int32 → Int32 → Option (Int32)
  | 0, _, _ => none
  | k + 1, x3_66, x6_66 => if x5_66 ≤ x6_66 then some x3_66 else (zs_ldr p_66 q4_66 x6_66).bind fun x11 => (zs_ld p_66 x11 0).bind fun x12 => fLX6_told_66 p_66 q4_66 x5_66 k (x3_66 + x12) (x6_66 + 1)
def fX6_told (G : FN) (F : Nat → Nat) (p : zs_H) (a1 : Int32) : Option (Int32 × zs_H) := (zs_len p (F 11)).bind fun x1 => (fLX6_told_14 p (F 11) x1 300 0 0).bind fun (o2 : Int32) => (zs_len p (F 7)).bind fun x8 => (fLX6_told_66 p (F 7) x8 300 0 0).bind fun (o9 : Int32) => (zs_nwi p 12 12).bind fun p13 => (zs_st p13 p.1 0 (G 0)).bind fun p14 => (zs_st p14 p.1 1 (G 1)).bind fun p15 => (zs_st p15 p.1 2 (G 2)).bind fun p16 => (fX6_free G F p16).bind fun z17 => (zs_st p16 p.1 3 z17).bind fun p18 => (zs_st p18 p.1 4 (G 3)).bind fun p19 => (zs_st p19 p.1 5 (G 4)).bind fun p20 => (zs_len p20 (F 10)).bind fun x21 => (zs_st p20 p.1 6 x21).bind fun p22 => (zs_st p22 p.1 7 o2).bind fun p23 => (zs_st p23 p.1 8 o9).bind fun p24 => (zs_ld p24 (F 6) 0).bind fun x25 => (zs_st p24 p.1 9 x25).bind fun p26 => (zs_ld p26 (F 6) 1).bind fun x27 => (zs_st p26 p.1 10 x27).bind fun p28 => (zs_ld p28 (F 6) 2).bind fun x29 => (zs_st p28 p.1 11 x29).bind fun p30 => (zs_ld p30 p.1 a1).bind fun x31 => some (x31, p30)
abbrev rX6_told : Room := { frames := 1, cells := 1, slots := 12, locals := 25 }
set_option maxHeartbeats 40000000 in
set_option maxRecDepth 100000 in
theorem kX6_told (l : Launch) (D : va_G) (cy : Nat → ClassId) (sa : SAT) (hs : Nat) (ad : Nat → Nat) (G : FN) (F : Nat → Nat) (p : zs_H) (a1 : Int32) (hw : zs_wf p) (hf : zs_fs F p) (z : Int32 × zs_H) (hF : fX6_told G F p a1 = some z) : zg_I l D (tyW cy) sa yX6_told wsX6_told rX6_told [.ref hs, .int a1] (zs_W [] cy hs ad G F p) (fun r u => r = z.1 ∧ zs_ok p F z.2 ad u) (fun u => zs_W [] cy hs u G F z.2) 1 12 := by
  refine zg_I.of (cc := cX6_told) (maxL := 8) (by decide +kernel) rfl (Nat.le_of_ble_eq_true rfl) ?_
  intro pg e s m args below meth c A ls Q hE hQ
  obtain ⟨hx, hb, hml, hown, hts, hA, hP, hK, hD, hG, hl, hnm⟩ := hE
  replace hown : s.vm.findClass RX6 = some m.cls := hown
  have hiX6 : ∀ w ∈ u_ws RX6 TX6 12, w ∈ wsX6_told := by decide +kernel
  have hf7 : (Cond.fieldLink RX6 7 "RagVatsLaw$Sim" "coins" "I").before args s = true := hts _ (by decide +kernel)
  have hf13 : (Cond.fieldLink RX6 13 "RagVatsLaw$Sim" "felts" "I").before args s = true := hts _ (by decide +kernel)
  have hf20 : (Cond.fieldLink RX6 20 "RagVatsLaw$Sim" "rags" "[I").before args s = true := hts _ (by decide +kernel)
  have hf24 : (Cond.fieldLink RX6 24 "RagVatsLaw$Sim" "vats" "[[I").before args s = true := hts _ (by decide +kernel)
  have hf34 : (Cond.fieldLink RX6 34 "RagVatsLaw$Sim" "posts" "[[I").before args s = true := hts _ (by decide +kernel)
  have hf38 : (Cond.fieldLink RX6 38 "RagVatsLaw$Sim" "loft" "[[I").before args s = true := hts _ (by decide +kernel)
  have hf46 : (Cond.fieldLink RX6 46 "RagVatsLaw$Sim" "day" "I").before args s = true := hts _ (by decide +kernel)
  have hf49 : (Cond.fieldLink RX6 49 "RagVatsLaw$Sim" "made" "I").before args s = true := hts _ (by decide +kernel)
  have hf52 : (Cond.fieldLink RX6 52 "RagVatsLaw$Sim" "worth" "I").before args s = true := hts _ (by decide +kernel)
  replace hl : lv_has ls 8 [(0, .ref hs), (1, .int a1)] := hl
  have hS : va_S A s.heap s.heap [] := va_S.rf
  have L14 : ∀ (k : Nat) (G_14 : FN) (F_14 : Nat → Nat) (p_14 : zs_H) (x1_14 : Int32) (x2_14 : Int32) (q3_14 : Nat) (x4_14 : Int32) (x5_14 : Int32) (o : Int32), fLX6_told_14 p_14 q3_14 x4_14 k x2_14 x5_14 = some o → ∀ (ad_14 : Nat → Nat) (cu_14 su_14 T_ TS_ : Nat), cu_14 + 0 * k ≤ T_ → su_14 + 0 * k ≤ TS_ → T_ ≤ 1 → TS_ ≤ 12 → ∀ (H : Heap) (locs : List Loc) (ls : Array Slot), zs_wf p_14 → zs_fs F_14 p_14 → p.1 ≤ (p_14).1 → (∀ i, i < p.1 → ad_14 i = ad i) → q3_14 < (p_14).1 → va_P D vwCl (zs_W [] cy hs ad_14 G_14 F_14 p_14) H → va_D A (zs_W [] cy hs ad_14 G_14 F_14 p_14) → va_S A s.heap H locs → lv_has ls 8 [(0, .ref hs), (1, .int x1_14), (2, .int x2_14), (3, .ref (ad_14 q3_14)), (4, .int x4_14), (5, .int x5_14)] → (∀ (H : Heap) (locs : List Loc) (ls : Array Slot), zs_wf p_14 → zs_fs F_14 p_14 → p.1 ≤ (p_14).1 → (∀ i, i < p.1 → ad_14 i = ad i) → va_P D vwCl (zs_W [] cy hs ad_14 G_14 F_14 p_14) H → va_D A (zs_W [] cy hs ad_14 G_14 F_14 p_14) → va_S A s.heap H locs → lv_has ls 8 [(0, .ref hs), (1, .int x1_14), (2, .int o)] → W pg l e rX6_told s m args below meth c H locs T_ TS_ Q (F0 m 50 ls [])) → W pg l e rX6_told s m args below meth c H locs cu_14 su_14 Q (F0 m 14 ls []) := by
      intro k
      induction k with
      | zero =>
          intro G_14 F_14 p_14 x1_14 x2_14 q3_14 x4_14 x5_14 o hF
          rw [fLX6_told_14] at hF
          cases hF
      | succ k ih =>
          intro G_14 F_14 p_14 x1_14 x2_14 q3_14 x4_14 x5_14 o hF ad_14 cu_14 su_14 T_ TS_ hcu_ hsu_ hT_ hTS_ H locs ls hw_14 hf_14 le_14 ha_14 fq3_14 hP hD hS hl kk0
          rw [fLX6_told_14] at hF
          refine lv_iload hx hb dX6_told_14 (lv_at hl 5 rfl) ?_
          refine lv_iload hx hb dX6_told_16 (lv_at hl 4 rfl) ?_
          refine lv_icmp_ge (tgt := 50) hx hb dX6_told_18 (by decide) (fun c_3 => ?_) (fun c_3 => ?_)
          ·   replace hF := if_t hF c_3
              cases hF
              refine W.widen (k := T_) (n := TS_) (by omega) (by omega) ?_
              exact kk0 _ _ _ hw_14 hf_14 le_14 ha_14 hP hD hS (lv_sub hl [0, 1, 2] rfl)
          ·   replace hF := if_f hF c_3
              refine lv_aload_n hx hb dX6_told_21 rfl (lv_at hl 3 rfl) ?_
              refine lv_iload hx hb dX6_told_22 (lv_at hl 5 rfl) ?_
              replace hF := bnd_some hF
              obtain ⟨x4, hz_4, hF⟩ := hF
              refine sx_ldr hx hb hK hP hz_4 dX6_told_24 ?_
              have fx4 : x4 < (p_14).1 := zs_ldr_lt hw_14 hz_4
              refine lv_astore (lv' := [(6, .ref (ad_14 x4)), (0, .ref hs), (1, .int x1_14), (2, .int x2_14), (3, .ref (ad_14 q3_14)), (4, .int x4_14), (5, .int x5_14)]) hx hb dX6_told_25 hl (by decide) rfl (fun ls hl => ?_)
              refine lv_iload_n hx hb dX6_told_27 rfl (lv_at hl 3 rfl) ?_
              refine lv_aload hx hb dX6_told_28 (lv_at hl 0 rfl) ?_
              refine lv_iconst (v := 0) hx hb dX6_told_30 (by decide) ?_
              replace hF := bnd_some hF
              obtain ⟨x5, hz_5, hF⟩ := hF
              refine sx_ld hx hb hK hP hz_5 dX6_told_31 ?_
              refine lv_aload hx hb dX6_told_32 (lv_at hl 0 rfl) ?_
              refine lv_iconst (v := 1) hx hb dX6_told_34 (by decide) ?_
              replace hF := bnd_some hF
              obtain ⟨x6, hz_6, hF⟩ := hF
              refine sx_ld hx hb hK hP hz_6 dX6_told_35 ?_
              refine lv_iadd hx hb dX6_told_36 ?_
              refine lv_aload hx hb dX6_told_37 (lv_at hl 0 rfl) ?_
              refine lv_iconst (v := 2) hx hb dX6_told_39 (by decide) ?_
              replace hF := bnd_some hF
              obtain ⟨x7, hz_7, hF⟩ := hF
              refine sx_ld hx hb hK hP hz_7 dX6_told_40 ?_
              refine lv_iadd hx hb dX6_told_41 ?_
              refine lv_iadd hx hb dX6_told_42 ?_
              refine lv_istore_n (lv' := [(2, .int (x2_14 + ((x5 + x6) + x7))), (6, .ref (ad_14 x4)), (0, .ref hs), (1, .int x1_14), (3, .ref (ad_14 q3_14)), (4, .int x4_14), (5, .int x5_14)]) hx hb dX6_told_43 rfl hl (by decide) rfl (fun ls hl => ?_)
              refine lv_iinc (v := x5_14 + 1) (lv' := [(5, .int (x5_14 + 1)), (2, .int (x2_14 + ((x5 + x6) + x7))), (6, .ref (ad_14 x4)), (0, .ref hs), (1, .int x1_14), (3, .ref (ad_14 q3_14)), (4, .int x4_14)]) hx hb dX6_told_44 hl (k := 6) rfl rfl (by decide) rfl (fun ls hl => ?_)
              refine lv_goto (tgt := 14) hx hb dX6_told_47 (by decide) ?_
              exact ih G_14 F_14 p_14 x1_14 (x2_14 + ((x5 + x6) + x7)) q3_14 x4_14 (x5_14 + 1) o hF ad_14 (cu_14) (su_14) T_ TS_ (by omega) (by omega) hT_ hTS_ _ _ _ hw_14 hf_14 le_14 ha_14 fq3_14 hP hD hS (lv_sub hl [3, 4, 1, 5, 6, 0] rfl) kk0
  have L66 : ∀ (k : Nat) (G_66 : FN) (F_66 : Nat → Nat) (p_66 : zs_H) (x1_66 : Int32) (x2_66 : Int32) (x3_66 : Int32) (q4_66 : Nat) (x5_66 : Int32) (x6_66 : Int32) (o : Int32), fLX6_told_66 p_66 q4_66 x5_66 k x3_66 x6_66 = some o → ∀ (ad_66 : Nat → Nat) (cu_66 su_66 T_ TS_ : Nat), cu_66 + 0 * k ≤ T_ → su_66 + 0 * k ≤ TS_ → T_ ≤ 1 → TS_ ≤ 12 → ∀ (H : Heap) (locs : List Loc) (ls : Array Slot), zs_wf p_66 → zs_fs F_66 p_66 → p.1 ≤ (p_66).1 → (∀ i, i < p.1 → ad_66 i = ad i) → q4_66 < (p_66).1 → va_P D vwCl (zs_W [] cy hs ad_66 G_66 F_66 p_66) H → va_D A (zs_W [] cy hs ad_66 G_66 F_66 p_66) → va_S A s.heap H locs → lv_has ls 8 [(0, .ref hs), (1, .int x1_66), (2, .int x2_66), (3, .int x3_66), (4, .ref (ad_66 q4_66)), (5, .int x5_66), (6, .int x6_66)] → (∀ (H : Heap) (locs : List Loc) (ls : Array Slot), zs_wf p_66 → zs_fs F_66 p_66 → p.1 ≤ (p_66).1 → (∀ i, i < p.1 → ad_66 i = ad i) → va_P D vwCl (zs_W [] cy hs ad_66 G_66 F_66 p_66) H → va_D A (zs_W [] cy hs ad_66 G_66 F_66 p_66) → va_S A s.heap H locs → lv_has ls 8 [(0, .ref hs), (1, .int x1_66), (2, .int x2_66), (3, .int o)] → W pg l e rX6_told s m args below meth c H locs T_ TS_ Q (F0 m 93 ls [])) → W pg l e rX6_told s m args below meth c H locs cu_66 su_66 Q (F0 m 66 ls []) := by
      intro k
      induction k with
      | zero =>
          intro G_66 F_66 p_66 x1_66 x2_66 x3_66 q4_66 x5_66 x6_66 o hF
          rw [fLX6_told_66] at hF
          cases hF
      | succ k ih =>
          intro G_66 F_66 p_66 x1_66 x2_66 x3_66 q4_66 x5_66 x6_66 o hF ad_66 cu_66 su_66 T_ TS_ hcu_ hsu_ hT_ hTS_ H locs ls hw_66 hf_66 le_66 ha_66 fq4_66 hP hD hS hl kk0
          rw [fLX6_told_66] at hF
          refine lv_iload hx hb dX6_told_66 (lv_at hl 6 rfl) ?_
          refine lv_iload hx hb dX6_told_68 (lv_at hl 5 rfl) ?_
          refine lv_icmp_ge (tgt := 93) hx hb dX6_told_70 (by decide) (fun c_10 => ?_) (fun c_10 => ?_)
          ·   replace hF := if_t hF c_10
              cases hF
              refine W.widen (k := T_) (n := TS_) (by omega) (by omega) ?_
              exact kk0 _ _ _ hw_66 hf_66 le_66 ha_66 hP hD hS (lv_sub hl [0, 1, 2, 3] rfl)
          ·   replace hF := if_f hF c_10
              refine lv_aload hx hb dX6_told_73 (lv_at hl 4 rfl) ?_
              refine lv_iload hx hb dX6_told_75 (lv_at hl 6 rfl) ?_
              replace hF := bnd_some hF
              obtain ⟨x11, hz_11, hF⟩ := hF
              refine sx_ldr hx hb hK hP hz_11 dX6_told_77 ?_
              have fx11 : x11 < (p_66).1 := zs_ldr_lt hw_66 hz_11
              refine lv_astore (lv' := [(7, .ref (ad_66 x11)), (0, .ref hs), (1, .int x1_66), (2, .int x2_66), (3, .int x3_66), (4, .ref (ad_66 q4_66)), (5, .int x5_66), (6, .int x6_66)]) hx hb dX6_told_78 hl (by decide) rfl (fun ls hl => ?_)
              refine lv_iload_n hx hb dX6_told_80 rfl (lv_at hl 4 rfl) ?_
              refine lv_aload hx hb dX6_told_81 (lv_at hl 0 rfl) ?_
              refine lv_iconst (v := 0) hx hb dX6_told_83 (by decide) ?_
              replace hF := bnd_some hF
              obtain ⟨x12, hz_12, hF⟩ := hF
              refine sx_ld hx hb hK hP hz_12 dX6_told_84 ?_
              refine lv_iadd hx hb dX6_told_85 ?_
              refine lv_istore_n (lv' := [(3, .int (x3_66 + x12)), (7, .ref (ad_66 x11)), (0, .ref hs), (1, .int x1_66), (2, .int x2_66), (4, .ref (ad_66 q4_66)), (5, .int x5_66), (6, .int x6_66)]) hx hb dX6_told_86 rfl hl (by decide) rfl (fun ls hl => ?_)
              refine lv_iinc (v := x6_66 + 1) (lv' := [(6, .int (x6_66 + 1)), (3, .int (x3_66 + x12)), (7, .ref (ad_66 x11)), (0, .ref hs), (1, .int x1_66), (2, .int x2_66), (4, .ref (ad_66 q4_66)), (5, .int x5_66)]) hx hb dX6_told_87 hl (k := 7) rfl rfl (by decide) rfl (fun ls hl => ?_)
              refine lv_goto (tgt := 66) hx hb dX6_told_90 (by decide) ?_
              exact ih G_66 F_66 p_66 x1_66 x2_66 (x3_66 + x12) q4_66 x5_66 (x6_66 + 1) o hF ad_66 (cu_66) (su_66) T_ TS_ (by omega) (by omega) hT_ hTS_ _ _ _ hw_66 hf_66 le_66 ha_66 fq4_66 hP hD hS (lv_sub hl [3, 4, 5, 1, 6, 7, 0] rfl) kk0
  unfold fX6_told at hF
  refine lv_iconst (v := 0) hx hb dX6_told_0 (by decide) ?_
  refine lv_istore_n (lv' := [(2, .int 0), (0, .ref hs), (1, .int a1)]) hx hb dX6_told_1 rfl hl (by decide) rfl (fun ls hl => ?_)
  refine lv_aload_n hx hb dX6_told_2 rfl (lv_at hl 1 rfl) ?_
  refine va_get (D := D) (C := RX6) (T := TX6) (N := 12) hx hb hts hiX6 hown hK hP _ zs_at rfl 11 (by decide) hf38 (fun _ h9 => h9) rfl dX6_told_3 ?_
  refine lv_astore_n (lv' := [(3, .ref (ad (F 11))), (2, .int 0), (0, .ref hs), (1, .int a1)]) hx hb dX6_told_6 rfl hl (by decide) rfl (fun ls hl => ?_)
  refine lv_aload_n hx hb dX6_told_7 rfl (lv_at hl 0 rfl) ?_
  replace hF := bnd_some hF
  obtain ⟨x1, hz_1, hF⟩ := hF
  refine sx_len hx hb hK hP hz_1 dX6_told_8 ?_
  refine lv_istore (lv' := [(4, .int x1), (3, .ref (ad (F 11))), (2, .int 0), (0, .ref hs), (1, .int a1)]) hx hb dX6_told_9 hl (by decide) rfl (fun ls hl => ?_)
  refine lv_iconst (v := 0) hx hb dX6_told_11 (by decide) ?_
  refine lv_istore (lv' := [(5, .int 0), (4, .int x1), (3, .ref (ad (F 11))), (2, .int 0), (0, .ref hs), (1, .int a1)]) hx hb dX6_told_12 hl (by decide) rfl (fun ls hl => ?_)
  replace hF := bnd_some hF
  obtain ⟨o2, hz_2, hF⟩ := hF
  refine L14 300 G F p a1 0 (F 11) x1 0 o2 hz_2 ad (0) (0) (0) (0) (Nat.le_of_ble_eq_true rfl) (Nat.le_of_ble_eq_true rfl) (Nat.le_of_ble_eq_true rfl) (Nat.le_of_ble_eq_true rfl) _ _ _ hw hf (Nat.le_refl _) (fun _ _ => rfl) (hf 11) hP hD hS (lv_sub hl [4, 5, 3, 2, 1, 0] rfl) (fun H locs ls hw2_0 hf2_0 le2_0 ha2_0 hP hD hS hl => ?_)
  refine lv_iconst (v := 0) hx hb dX6_told_50 (by decide) ?_
  refine lv_istore_n (lv' := [(3, .int 0), (0, .ref hs), (1, .int a1), (2, .int o2)]) hx hb dX6_told_51 rfl hl (by decide) rfl (fun ls hl => ?_)
  refine lv_aload_n hx hb dX6_told_52 rfl (lv_at hl 1 rfl) ?_
  refine va_get (D := D) (C := RX6) (T := TX6) (N := 12) hx hb hts hiX6 hown hK hP _ zs_at rfl 7 (by decide) hf24 (fun _ h9 => h9) rfl dX6_told_53 ?_
  refine lv_astore (lv' := [(4, .ref (ad (F 7))), (3, .int 0), (0, .ref hs), (1, .int a1), (2, .int o2)]) hx hb dX6_told_56 hl (by decide) rfl (fun ls hl => ?_)
  refine lv_aload hx hb dX6_told_58 (lv_at hl 0 rfl) ?_
  replace hF := bnd_some hF
  obtain ⟨x8, hz_8, hF⟩ := hF
  refine sx_len hx hb hK hP hz_8 dX6_told_60 ?_
  refine lv_istore (lv' := [(5, .int x8), (4, .ref (ad (F 7))), (3, .int 0), (0, .ref hs), (1, .int a1), (2, .int o2)]) hx hb dX6_told_61 hl (by decide) rfl (fun ls hl => ?_)
  refine lv_iconst (v := 0) hx hb dX6_told_63 (by decide) ?_
  refine lv_istore (lv' := [(6, .int 0), (5, .int x8), (4, .ref (ad (F 7))), (3, .int 0), (0, .ref hs), (1, .int a1), (2, .int o2)]) hx hb dX6_told_64 hl (by decide) rfl (fun ls hl => ?_)
  replace hF := bnd_some hF
  obtain ⟨o9, hz_9, hF⟩ := hF
  refine L66 300 G F p a1 o2 0 (F 7) x8 0 o9 hz_9 ad (0) (0) (0) (0) (Nat.le_of_ble_eq_true rfl) (Nat.le_of_ble_eq_true rfl) (Nat.le_of_ble_eq_true rfl) (Nat.le_of_ble_eq_true rfl) _ _ _ hw2_0 hf2_0 le2_0 ha2_0 (hf2_0 7) hP hD hS (lv_sub hl [4, 5, 6, 3, 2, 1, 0] rfl) (fun H locs ls hw9_0 hf9_0 le9_0 ha9_0 hP hD hS hl => ?_)
  refine lv_bipush (v := 12) hx hb dX6_told_93 (by decide) ?_
  replace hF := bnd_some hF
  obtain ⟨p13, hz_13, hF⟩ := hF
  refine sx_nwi hx hb (hts (.arrayClass .int) (by decide +kernel)) hK hw9_0 hP hD hS hA hz_13 (Nat.le_of_ble_eq_true rfl) (Nat.le_of_ble_eq_true rfl) (Nat.le_of_ble_eq_true rfl) dX6_told_95 (fun ad13 H ha13 hP hD hS => ?_)
  obtain ⟨hw13, hn13⟩ := zs_nwi_wf hw9_0 hz_13
  have lf13 : (p).1 ≤ p13.1 := by rw [hn13]; exact Nat.le_succ _
  have fn13 : (p).1 < p13.1 := by rw [hn13]; exact Nat.lt_succ_self _
  rw [zs_W_up hf9_0 ha13] at hP hD
  have hf_13 := zs_fs_le hf9_0 lf13
  have le13 : p.1 ≤ (p13).1 := Nat.le_trans le9_0 lf13
  have hb13 : ∀ i, i < p.1 → ad13 i = ad i := fun i hi => (ha13 i (Nat.lt_of_lt_of_le hi le9_0)).trans (ha9_0 i hi)
  replace hP : va_P D vwCl (zs_W [] cy hs ad13 G F p13) H := hP
  replace hD : va_D A (zs_W [] cy hs ad13 G F p13) := hD
  refine lv_dup hx hb dX6_told_97 rfl ?_
  refine lv_iconst (v := 0) hx hb dX6_told_98 (by decide) ?_
  refine lv_aload_n hx hb dX6_told_99 rfl (lv_at hl 0 rfl) ?_
  refine va_get (D := D) (C := RX6) (T := TX6) (N := 12) hx hb hts hiX6 hown hK hP _ zs_at rfl 0 (by decide) hf46 (fun _ h9 => h9) rfl dX6_told_100 ?_
  replace hF := bnd_some hF
  obtain ⟨p14, hz_14, hF⟩ := hF
  refine sx_st hx hb hK hP hD hS hz_14 dX6_told_103 (fun H locs hP hD hS => ?_)
  obtain ⟨hw14, hn14⟩ := zs_st_wf hw13 hz_14
  have lf14 : (p13).1 ≤ p14.1 := Nat.le_of_eq hn14.symm
  have hf_14 := zs_fs_le hf_13 lf14
  have fr14_0 : p.1 < (p14).1 := Nat.lt_of_lt_of_le fn13 lf14
  have le14 : p.1 ≤ (p14).1 := Nat.le_trans le13 lf14
  replace hP : va_P D vwCl (zs_W [] cy hs ad13 G F p14) H := hP
  replace hD : va_D A (zs_W [] cy hs ad13 G F p14) := hD
  refine lv_dup hx hb dX6_told_104 rfl ?_
  refine lv_iconst (v := 1) hx hb dX6_told_105 (by decide) ?_
  refine lv_aload_n hx hb dX6_told_106 rfl (lv_at hl 0 rfl) ?_
  refine va_get (D := D) (C := RX6) (T := TX6) (N := 12) hx hb hts hiX6 hown hK hP _ zs_at rfl 1 (by decide) hf7 (fun _ h9 => h9) rfl dX6_told_107 ?_
  replace hF := bnd_some hF
  obtain ⟨p15, hz_15, hF⟩ := hF
  refine sx_st hx hb hK hP hD hS hz_15 dX6_told_110 (fun H locs hP hD hS => ?_)
  obtain ⟨hw15, hn15⟩ := zs_st_wf hw14 hz_15
  have lf15 : (p14).1 ≤ p15.1 := Nat.le_of_eq hn15.symm
  have hf_15 := zs_fs_le hf_14 lf15
  have fr15_0 : p.1 < (p15).1 := Nat.lt_of_lt_of_le fr14_0 lf15
  have le15 : p.1 ≤ (p15).1 := Nat.le_trans le14 lf15
  replace hP : va_P D vwCl (zs_W [] cy hs ad13 G F p15) H := hP
  replace hD : va_D A (zs_W [] cy hs ad13 G F p15) := hD
  refine lv_dup hx hb dX6_told_111 rfl ?_
  refine lv_iconst (v := 2) hx hb dX6_told_112 (by decide) ?_
  refine lv_aload_n hx hb dX6_told_113 rfl (lv_at hl 0 rfl) ?_
  refine va_get (D := D) (C := RX6) (T := TX6) (N := 12) hx hb hts hiX6 hown hK hP _ zs_at rfl 2 (by decide) hf13 (fun _ h9 => h9) rfl dX6_told_114 ?_
  replace hF := bnd_some hF
  obtain ⟨p16, hz_16, hF⟩ := hF
  refine sx_st hx hb hK hP hD hS hz_16 dX6_told_117 (fun H locs hP hD hS => ?_)
  obtain ⟨hw16, hn16⟩ := zs_st_wf hw15 hz_16
  have lf16 : (p15).1 ≤ p16.1 := Nat.le_of_eq hn16.symm
  have hf_16 := zs_fs_le hf_15 lf16
  have fr16_0 : p.1 < (p16).1 := Nat.lt_of_lt_of_le fr15_0 lf16
  have le16 : p.1 ≤ (p16).1 := Nat.le_trans le15 lf16
  replace hP : va_P D vwCl (zs_W [] cy hs ad13 G F p16) H := hP
  replace hD : va_D A (zs_W [] cy hs ad13 G F p16) := hD
  refine lv_dup hx hb dX6_told_118 rfl ?_
  refine lv_iconst (v := 3) hx hb dX6_told_119 (by decide) ?_
  refine lv_aload_n hx hb dX6_told_120 rfl (lv_at hl 0 rfl) ?_
  replace hF := bnd_some hF
  obtain ⟨z17, hz_17, hF⟩ := hF
  refine zw_rI (kV (As := []) ⟨hx, hb, hml, hown, hts⟩ (kX6_free l D cy sa hs ad13 G F p16  z17 hz_17 _) (cwV 0 hts gX6_told_X6_free rfl rfl rfl (by decide +kernel) ⟨Nat.le_of_ble_eq_true rfl, Nat.le_of_ble_eq_true rfl⟩) hK hP hD hS hA hG (List.range' ([] : va_W).length (zs_W [] cy hs ad13 G F p16).length) zw_map2 (zp_nd2 _ _) (zs_at (P := [])) rfl rfl rfl hl.1 [.int 3, .ref (ad13 p.1), .ref (ad13 p.1)] rfl (Nat.le_of_ble_eq_true rfl) dX6_told_121 ⟨(Nat.le_of_ble_eq_true rfl), (Nat.le_of_ble_eq_true rfl)⟩) hP hD hS hA (fun H locs hP hS => ?_)
  replace hF := bnd_some hF
  obtain ⟨p18, hz_18, hF⟩ := hF
  refine sx_st hx hb hK hP hD hS hz_18 dX6_told_124 (fun H locs hP hD hS => ?_)
  obtain ⟨hw18, hn18⟩ := zs_st_wf hw16 hz_18
  have lf18 : (p16).1 ≤ p18.1 := Nat.le_of_eq hn18.symm
  have hf_18 := zs_fs_le hf_16 lf18
  have fr18_0 : p.1 < (p18).1 := Nat.lt_of_lt_of_le fr16_0 lf18
  have le18 : p.1 ≤ (p18).1 := Nat.le_trans le16 lf18
  replace hP : va_P D vwCl (zs_W [] cy hs ad13 G F p18) H := hP
  replace hD : va_D A (zs_W [] cy hs ad13 G F p18) := hD
  refine lv_dup hx hb dX6_told_125 rfl ?_
  refine lv_iconst (v := 4) hx hb dX6_told_126 (by decide) ?_
  refine lv_aload_n hx hb dX6_told_127 rfl (lv_at hl 0 rfl) ?_
  refine va_get (D := D) (C := RX6) (T := TX6) (N := 12) hx hb hts hiX6 hown hK hP _ zs_at rfl 3 (by decide) hf49 (fun _ h9 => h9) rfl dX6_told_128 ?_
  replace hF := bnd_some hF
  obtain ⟨p19, hz_19, hF⟩ := hF
  refine sx_st hx hb hK hP hD hS hz_19 dX6_told_131 (fun H locs hP hD hS => ?_)
  obtain ⟨hw19, hn19⟩ := zs_st_wf hw18 hz_19
  have lf19 : (p18).1 ≤ p19.1 := Nat.le_of_eq hn19.symm
  have hf_19 := zs_fs_le hf_18 lf19
  have fr19_0 : p.1 < (p19).1 := Nat.lt_of_lt_of_le fr18_0 lf19
  have le19 : p.1 ≤ (p19).1 := Nat.le_trans le18 lf19
  replace hP : va_P D vwCl (zs_W [] cy hs ad13 G F p19) H := hP
  replace hD : va_D A (zs_W [] cy hs ad13 G F p19) := hD
  refine lv_dup hx hb dX6_told_132 rfl ?_
  refine lv_iconst (v := 5) hx hb dX6_told_133 (by decide) ?_
  refine lv_aload_n hx hb dX6_told_134 rfl (lv_at hl 0 rfl) ?_
  refine va_get (D := D) (C := RX6) (T := TX6) (N := 12) hx hb hts hiX6 hown hK hP _ zs_at rfl 4 (by decide) hf52 (fun _ h9 => h9) rfl dX6_told_135 ?_
  replace hF := bnd_some hF
  obtain ⟨p20, hz_20, hF⟩ := hF
  refine sx_st hx hb hK hP hD hS hz_20 dX6_told_138 (fun H locs hP hD hS => ?_)
  obtain ⟨hw20, hn20⟩ := zs_st_wf hw19 hz_20
  have lf20 : (p19).1 ≤ p20.1 := Nat.le_of_eq hn20.symm
  have hf_20 := zs_fs_le hf_19 lf20
  have fr20_0 : p.1 < (p20).1 := Nat.lt_of_lt_of_le fr19_0 lf20
  have le20 : p.1 ≤ (p20).1 := Nat.le_trans le19 lf20
  replace hP : va_P D vwCl (zs_W [] cy hs ad13 G F p20) H := hP
  replace hD : va_D A (zs_W [] cy hs ad13 G F p20) := hD
  refine lv_dup hx hb dX6_told_139 rfl ?_
  refine lv_bipush (v := 6) hx hb dX6_told_140 (by decide) ?_
  refine lv_aload_n hx hb dX6_told_142 rfl (lv_at hl 0 rfl) ?_
  refine va_get (D := D) (C := RX6) (T := TX6) (N := 12) hx hb hts hiX6 hown hK hP _ zs_at rfl 10 (by decide) hf34 (fun _ h9 => h9) rfl dX6_told_143 ?_
  replace hF := bnd_some hF
  obtain ⟨x21, hz_21, hF⟩ := hF
  refine sx_len hx hb hK hP hz_21 dX6_told_146 ?_
  replace hF := bnd_some hF
  obtain ⟨p22, hz_22, hF⟩ := hF
  refine sx_st hx hb hK hP hD hS hz_22 dX6_told_147 (fun H locs hP hD hS => ?_)
  obtain ⟨hw22, hn22⟩ := zs_st_wf hw20 hz_22
  have lf22 : (p20).1 ≤ p22.1 := Nat.le_of_eq hn22.symm
  have hf_22 := zs_fs_le hf_20 lf22
  have fr22_0 : p.1 < (p22).1 := Nat.lt_of_lt_of_le fr20_0 lf22
  have le22 : p.1 ≤ (p22).1 := Nat.le_trans le20 lf22
  replace hP : va_P D vwCl (zs_W [] cy hs ad13 G F p22) H := hP
  replace hD : va_D A (zs_W [] cy hs ad13 G F p22) := hD
  refine lv_dup hx hb dX6_told_148 rfl ?_
  refine lv_bipush (v := 7) hx hb dX6_told_149 (by decide) ?_
  refine lv_iload_n hx hb dX6_told_151 rfl (lv_at hl 2 rfl) ?_
  replace hF := bnd_some hF
  obtain ⟨p23, hz_23, hF⟩ := hF
  refine sx_st hx hb hK hP hD hS hz_23 dX6_told_152 (fun H locs hP hD hS => ?_)
  obtain ⟨hw23, hn23⟩ := zs_st_wf hw22 hz_23
  have lf23 : (p22).1 ≤ p23.1 := Nat.le_of_eq hn23.symm
  have hf_23 := zs_fs_le hf_22 lf23
  have fr23_0 : p.1 < (p23).1 := Nat.lt_of_lt_of_le fr22_0 lf23
  have le23 : p.1 ≤ (p23).1 := Nat.le_trans le22 lf23
  replace hP : va_P D vwCl (zs_W [] cy hs ad13 G F p23) H := hP
  replace hD : va_D A (zs_W [] cy hs ad13 G F p23) := hD
  refine lv_dup hx hb dX6_told_153 rfl ?_
  refine lv_bipush (v := 8) hx hb dX6_told_154 (by decide) ?_
  refine lv_iload_n hx hb dX6_told_156 rfl (lv_at hl 3 rfl) ?_
  replace hF := bnd_some hF
  obtain ⟨p24, hz_24, hF⟩ := hF
  refine sx_st hx hb hK hP hD hS hz_24 dX6_told_157 (fun H locs hP hD hS => ?_)
  obtain ⟨hw24, hn24⟩ := zs_st_wf hw23 hz_24
  have lf24 : (p23).1 ≤ p24.1 := Nat.le_of_eq hn24.symm
  have hf_24 := zs_fs_le hf_23 lf24
  have fr24_0 : p.1 < (p24).1 := Nat.lt_of_lt_of_le fr23_0 lf24
  have le24 : p.1 ≤ (p24).1 := Nat.le_trans le23 lf24
  replace hP : va_P D vwCl (zs_W [] cy hs ad13 G F p24) H := hP
  replace hD : va_D A (zs_W [] cy hs ad13 G F p24) := hD
  refine lv_dup hx hb dX6_told_158 rfl ?_
  refine lv_bipush (v := 9) hx hb dX6_told_159 (by decide) ?_
  refine lv_aload_n hx hb dX6_told_161 rfl (lv_at hl 0 rfl) ?_
  refine va_get (D := D) (C := RX6) (T := TX6) (N := 12) hx hb hts hiX6 hown hK hP _ zs_at rfl 6 (by decide) hf20 (fun _ h9 => h9) rfl dX6_told_162 ?_
  refine lv_iconst (v := 0) hx hb dX6_told_165 (by decide) ?_
  replace hF := bnd_some hF
  obtain ⟨x25, hz_25, hF⟩ := hF
  refine sx_ld hx hb hK hP hz_25 dX6_told_166 ?_
  replace hF := bnd_some hF
  obtain ⟨p26, hz_26, hF⟩ := hF
  refine sx_st hx hb hK hP hD hS hz_26 dX6_told_167 (fun H locs hP hD hS => ?_)
  obtain ⟨hw26, hn26⟩ := zs_st_wf hw24 hz_26
  have lf26 : (p24).1 ≤ p26.1 := Nat.le_of_eq hn26.symm
  have hf_26 := zs_fs_le hf_24 lf26
  have fr26_0 : p.1 < (p26).1 := Nat.lt_of_lt_of_le fr24_0 lf26
  have le26 : p.1 ≤ (p26).1 := Nat.le_trans le24 lf26
  replace hP : va_P D vwCl (zs_W [] cy hs ad13 G F p26) H := hP
  replace hD : va_D A (zs_W [] cy hs ad13 G F p26) := hD
  refine lv_dup hx hb dX6_told_168 rfl ?_
  refine lv_bipush (v := 10) hx hb dX6_told_169 (by decide) ?_
  refine lv_aload_n hx hb dX6_told_171 rfl (lv_at hl 0 rfl) ?_
  refine va_get (D := D) (C := RX6) (T := TX6) (N := 12) hx hb hts hiX6 hown hK hP _ zs_at rfl 6 (by decide) hf20 (fun _ h9 => h9) rfl dX6_told_172 ?_
  refine lv_iconst (v := 1) hx hb dX6_told_175 (by decide) ?_
  replace hF := bnd_some hF
  obtain ⟨x27, hz_27, hF⟩ := hF
  refine sx_ld hx hb hK hP hz_27 dX6_told_176 ?_
  replace hF := bnd_some hF
  obtain ⟨p28, hz_28, hF⟩ := hF
  refine sx_st hx hb hK hP hD hS hz_28 dX6_told_177 (fun H locs hP hD hS => ?_)
  obtain ⟨hw28, hn28⟩ := zs_st_wf hw26 hz_28
  have lf28 : (p26).1 ≤ p28.1 := Nat.le_of_eq hn28.symm
  have hf_28 := zs_fs_le hf_26 lf28
  have fr28_0 : p.1 < (p28).1 := Nat.lt_of_lt_of_le fr26_0 lf28
  have le28 : p.1 ≤ (p28).1 := Nat.le_trans le26 lf28
  replace hP : va_P D vwCl (zs_W [] cy hs ad13 G F p28) H := hP
  replace hD : va_D A (zs_W [] cy hs ad13 G F p28) := hD
  refine lv_dup hx hb dX6_told_178 rfl ?_
  refine lv_bipush (v := 11) hx hb dX6_told_179 (by decide) ?_
  refine lv_aload_n hx hb dX6_told_181 rfl (lv_at hl 0 rfl) ?_
  refine va_get (D := D) (C := RX6) (T := TX6) (N := 12) hx hb hts hiX6 hown hK hP _ zs_at rfl 6 (by decide) hf20 (fun _ h9 => h9) rfl dX6_told_182 ?_
  refine lv_iconst (v := 2) hx hb dX6_told_185 (by decide) ?_
  replace hF := bnd_some hF
  obtain ⟨x29, hz_29, hF⟩ := hF
  refine sx_ld hx hb hK hP hz_29 dX6_told_186 ?_
  replace hF := bnd_some hF
  obtain ⟨p30, hz_30, hF⟩ := hF
  refine sx_st hx hb hK hP hD hS hz_30 dX6_told_187 (fun H locs hP hD hS => ?_)
  obtain ⟨hw30, hn30⟩ := zs_st_wf hw28 hz_30
  have lf30 : (p28).1 ≤ p30.1 := Nat.le_of_eq hn30.symm
  have hf_30 := zs_fs_le hf_28 lf30
  have fr30_0 : p.1 < (p30).1 := Nat.lt_of_lt_of_le fr28_0 lf30
  have le30 : p.1 ≤ (p30).1 := Nat.le_trans le28 lf30
  replace hP : va_P D vwCl (zs_W [] cy hs ad13 G F p30) H := hP
  replace hD : va_D A (zs_W [] cy hs ad13 G F p30) := hD
  refine lv_astore (lv' := [(4, .ref (ad13 p.1)), (0, .ref hs), (1, .int a1), (2, .int o2), (3, .int o9)]) hx hb dX6_told_188 hl (by decide) rfl (fun ls hl => ?_)
  refine lv_aload hx hb dX6_told_190 (lv_at hl 0 rfl) ?_
  refine lv_iload_n hx hb dX6_told_192 rfl (lv_at hl 2 rfl) ?_
  replace hF := bnd_some hF
  obtain ⟨x31, hz_31, hF⟩ := hF
  refine sx_ld hx hb hK hP hz_31 dX6_told_193 ?_
  cases hF
  exact hQ _ _ _ _ _ _ _ ad13 dX6_told_194 ⟨rfl, ⟨hw30, hf_30, le30, hb13⟩⟩ hP hD hS (Nat.le_of_ble_eq_true rfl) (Nat.le_of_ble_eq_true rfl)
