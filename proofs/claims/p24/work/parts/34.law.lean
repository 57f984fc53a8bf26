def zx_0 : XT := (MS.of 0 40 30 0 0 (fun _ => 60) (fun _ => 4) (fun _ => 0) (fun _ => 0) (fun _ => (-1)) 0 (fun _ => 0) (fun _ => 0) (fun _ => 0) 0 (fun _ => 0) (fun _ => 0) (fun _ => 0) 0 0 (fun _ => 0) (fun _ => 0) (fun _ => 0) (fun _ => 0), MS.of 0 40 30 0 0 (fun _ => 60) (fun _ => 4) (fun _ => 0) (fun _ => 0) (fun _ => (-1)) 0 (fun _ => 0) (fun _ => 0) (fun _ => 0) 0 (fun _ => 0) (fun _ => 0) (fun _ => 0) 0 0 (fun _ => 0) (fun _ => 0) (fun _ => 0) (fun _ => 0))
def fLL_law_54 (x4_54 : Int32) : Nat → XT → FN → (Nat → Nat) → zs_H → Int32 → Option (XT × FN × (Nat → Nat) × zs_H)
  | 0, _, _, _, _, _ => none
  | k + 1, X_54, G_54, F_54, p_54, x5_54 => if 2 ≤ x5_54 then some (X_54, G_54, F_54, p_54) else (fL_act X_54 G_54 F_54 p_54 ((x4_54 >>> ((2 * x5_54) &&& 31)) + (227 * x5_54))).bind fun z6 => fLL_law_54 x4_54 k z6.1 z6.2.1 z6.2.2.1 z6.2.2.2 (x5_54 + 1)
def fLL_law_144 (X_144 : XT) (q8_144 : Nat) (x10_144 : Int32) : Nat → zs_H → Int32 → Option (zs_H)
  | 0, _, _ => none
  | k + 1, p_144, x11_144 => if 3 ≤ x11_144 then some p_144 else (zs_ldr p_144 q8_144 x10_144).bind fun x16 => (zx_about X_144 x10_144 x11_144).bind fun z17 => (zs_st p_144 x16 x11_144 z17).bind fun p18 => fLL_law_144 X_144 q8_144 x10_144 k p18 (x11_144 + 1)
def fLL_law_135 (X_135 : XT) (q8_135 : Nat) : Nat → zs_H → Int32 → Int32 → Option (zs_H × Int32)
  | 0, _, _, _ => none
  | k + 1, p_135, x9_135, x10_135 => if 4 ≤ x10_135 then some (p_135, x9_135) else (fLL_law_144 X_135 q8_135 x10_135 300 p_135 0).bind fun (o14 : zs_H) => (zs_ldr o14 q8_135 x10_135).bind fun x19 => (zs_ld o14 x19 0).bind fun x20 => (if x20 ≤ 0 then some 0 else some 1 : Option (Int32)).bind fun (t21 : Int32) => fLL_law_135 X_135 q8_135 k o14 (x9_135 + t21) (x10_135 + 1)
def fLL_law_236 (q11_236 : Nat) : Nat → XT → zs_H → Int32 → Option (XT × zs_H)
  | 0, _, _, _ => none
  | k + 1, X_236, p_236, x12_236 => if 12 ≤ x12_236 then some (X_236, p_236) else (zx_foresee X_236 1 x12_236).bind fun z29 => (zs_st p_236 q11_236 x12_236 z29.1).bind fun p30 => fLL_law_236 q11_236 k z29.2 p30 (x12_236 + 1)
def fLL_law_281 (q8_281 : Nat) (x10_281 : Int32) (q13_281 : Nat) (q14_281 : Nat) : Nat → zs_H → Int32 → Option (zs_H)
  | 0, _, _ => none
  | k + 1, p_281, x15_281 => if 4 ≤ x15_281 then some p_281 else (zs_ldr p_281 q8_281 x15_281).bind fun x36 => (zs_ld p_281 x36 0).bind fun x37 => (zs_st p_281 q13_281 x15_281 x37).bind fun p38 => (zs_ld p38 q13_281 x15_281).bind fun x39 => (if x39 = 0 then some 0 else (zs_ldr p38 q8_281 x15_281).bind fun x41 => (zs_ld p38 x41 1).bind fun x42 => some (if (x42 + x10_281) < 99 then (x42 + x10_281) else 99) : Option (Int32)).bind fun (t40 : Int32) => (zs_st p38 q14_281 x15_281 t40).bind fun p43 => fLL_law_281 q8_281 x10_281 q13_281 q14_281 k p43 (x15_281 + 1)
def fLL_law_352 (X_352 : XT) (q16_352 : Nat) : Nat → zs_H → Int32 → Option (zs_H)
  | 0, _, _ => none
  | k + 1, p_352, x17_352 => (zs_len p_352 q16_352).bind fun x47 => if x47 ≤ x17_352 then some p_352 else (zx_mould X_352 x17_352 2).bind fun z49 => (zs_st p_352 q16_352 x17_352 z49).bind fun p50 => fLL_law_352 X_352 q16_352 k p50 (x17_352 + 1)
def fLL_law_381 (X_381 : XT) (F_381 : Nat → Nat) (q13_381 : Nat) (q14_381 : Nat) (q16_381 : Nat) : Nat → zs_H → Int32 → Int32 → Int32 → Option (zs_H × Int32 × Int32)
  | 0, _, _, _, _ => none
  | k + 1, p_381, x12_381, x15_381, x17_381 => (zs_len p_381 (F_381 9)).bind fun x52 => if x52 ≤ x17_381 then some (p_381, x12_381, x15_381) else (zx_told X_381 x17_381 1).bind fun z54 => (zx_told X_381 x17_381 2).bind fun z55 => (if z54 < 0 then some (p_381, x12_381, x15_381) else if z55 < 0 then some (p_381, x12_381, x15_381) else (zs_ld p_381 q14_381 z54).bind fun x58 => if x58 < 30 then some (p_381, x12_381, x15_381) else (zs_ld p_381 q13_381 z54).bind fun x60 => if x60 = 0 then some (p_381, x12_381, x15_381) else (zx_told X_381 x17_381 0).bind fun z62 => (zs_ld p_381 q13_381 z54).bind fun x63 => (zx_mould X_381 z55 1).bind fun z64 => ckZ z64 ((zs_ld p_381 q13_381 z54).bind fun x66 => (zx_mould X_381 z55 1).bind fun z67 => (zs_st p_381 q13_381 z54 (x66 - ((if (if (x63 / z64) < x12_381 then (x63 / z64) else x12_381) < z62 then (if (x63 / z64) < x12_381 then (x63 / z64) else x12_381) else z62) * z67))).bind fun p68 => (zs_ld p68 q16_381 z55).bind fun x69 => (zs_st p68 q16_381 z55 (if (x69 + (((if (if (x63 / z64) < x12_381 then (x63 / z64) else x12_381) < z62 then (if (x63 / z64) < x12_381 then (x63 / z64) else x12_381) else z62) + 1) / 2)) < 50 then (x69 + (((if (if (x63 / z64) < x12_381 then (x63 / z64) else x12_381) < z62 then (if (x63 / z64) < x12_381 then (x63 / z64) else x12_381) else z62) + 1) / 2)) else 50)).bind fun p70 => some (p70, x12_381 - (if (if (x63 / z64) < x12_381 then (x63 / z64) else x12_381) < z62 then (if (x63 / z64) < x12_381 then (x63 / z64) else x12_381) else z62), x15_381 + (if (if (x63 / z64) < x12_381 then (x63 / z64) else x12_381) < z62 then (if (x63 / z64) < x12_381 then (x63 / z64) else x12_381) else z62))) : Option (zs_H × Int32 × Int32)).bind fun (t56 : zs_H × Int32 × Int32) => fLL_law_381 X_381 F_381 q13_381 q14_381 q16_381 k t56.1 t56.2.1 t56.2.2 (x17_381 + 1)
def fLL_law_554 (X_554 : XT) (p_554 : zs_H) (q11_554 : Nat) : Nat → Int32 → Option (Unit)
  | 0, _ => none
  | k + 1, x17_554 => if 12 ≤ x17_554 then some () else (zx_count X_554 x17_554).bind fun z77 => (zs_ld p_554 q11_554 x17_554).bind fun x78 => if z77 = x78 then fLL_law_554 X_554 p_554 q11_554 k (x17_554 + 1) else none
def fLL_law_586 (X_586 : XT) (p_586 : zs_H) (q8_586 : Nat) (q13_586 : Nat) (q14_586 : Nat) : Nat → Int32 → Option (Unit)
  | 0, _ => none
  | k + 1, x17_586 => if 4 ≤ x17_586 then some () else (zx_about X_586 x17_586 0).bind fun z82 => (zs_ld p_586 q13_586 x17_586).bind fun x83 => if z82 = x83 then (zx_about X_586 x17_586 1).bind fun z85 => (zs_ld p_586 q13_586 x17_586).bind fun x86 => (if x86 = 0 then some 0 else (zs_ld p_586 q14_586 x17_586).bind fun x88 => some x88 : Option (Int32)).bind fun (t87 : Int32) => if z85 = t87 then (zx_about X_586 x17_586 2).bind fun z90 => (zs_ld p_586 q13_586 x17_586).bind fun x91 => (if x91 = 0 then some (-1) else (zs_ldr p_586 q8_586 x17_586).bind fun x93 => (zs_ld p_586 x93 2).bind fun x94 => some x94 : Option (Int32)).bind fun (t92 : Int32) => if z90 = t92 then fLL_law_586 X_586 p_586 q8_586 q13_586 q14_586 k (x17_586 + 1) else none else none else none
def fLL_law_674 (X_674 : XT) (p_674 : zs_H) (q16_674 : Nat) : Nat → Int32 → Option (Unit)
  | 0, _ => none
  | k + 1, x17_674 => (zs_len p_674 q16_674).bind fun x97 => if x97 ≤ x17_674 then some () else (zx_mould X_674 x17_674 2).bind fun z99 => (zs_ld p_674 q16_674 x17_674).bind fun x100 => if z99 = x100 then fLL_law_674 X_674 p_674 q16_674 k (x17_674 + 1) else none
def fLL_law_22 (sa : SAT) : Nat → XT → FN → (Nat → Nat) → zs_H → Int32 → Option (XT × FN × (Nat → Nat) × zs_H)
  | 0, _, _, _, _, _ => none
  | k + 1, X_22, G_22, F_22, p_22, x3_22 => if 34 ≤ x3_22 then some (X_22, G_22, F_22, p_22) else (fL_cell sa (x3_22 - x3_22 / 16 * 16)).bind fun z3 => (fLL_law_54 ((z3 >>> (((x3_22 / 16) * 3) &&& 31)) + (311 * x3_22)) 3 X_22 G_22 F_22 p_22 0).bind fun (o4 : XT × FN × (Nat → Nat) × zs_H) => (fL_below ((z3 >>> (((x3_22 / 16) * 3) &&& 31)) + (311 * x3_22)) 4).bind fun z8 => (fL_below (((z3 >>> (((x3_22 / 16) * 3) &&& 31)) + (311 * x3_22)) >>> (2 &&& 31)) 99).bind fun z9 => (zx_ripe o4.1 z8 (1 + z9)).bind fun z10 => (some (zs_nwm o4.2.2.2 4 3)).bind fun p11 => (fLL_law_135 z10.2 ((o4.2.2.2).1) 300 p11 0 0).bind fun (o12 : zs_H × Int32) => (if o12.2 = 0 then some 0 else (zx_count z10.2 0).bind fun z23 => (zs_ld o12.1 (o4.2.2.1 5) (z23 - z23 / 7 * 7)).bind fun x24 => ckZ o12.2 (some ((3 * x24) / o12.2)) : Option (Int32)).bind fun (t22 : Int32) => (zs_nwi o12.1 12 12).bind fun p26 => (fLL_law_236 ((o12.1).1) 300 z10.2 p26 0).bind fun (o27 : XT × zs_H) => (zx_count o27.1 3).bind fun z31 => (zs_nwi o27.2 4 4).bind fun p32 => (zs_nwi p32 4 4).bind fun p33 => (fLL_law_281 ((o4.2.2.2).1) t22 ((o27.2).1) p32.1 300 p33 0).bind fun (o34 : zs_H) => (zs_len o34 (o4.2.2.1 8)).bind fun x44 => (zs_nwi o34 x44 8).bind fun p45 => (fLL_law_352 o27.1 o34.1 300 p45 0).bind fun (o46 : zs_H) => (fLL_law_381 o27.1 o4.2.2.1 ((o27.2).1) p32.1 o34.1 300 o46 z31 0 0).bind fun (o51 : zs_H × Int32 × Int32) => (zx_pass o27.1 1).bind fun z71 => if z71.1 = o51.2.2 then (fX6_pass o4.2.1 o4.2.2.1 o51.1).bind fun z73 => if z73.1 = o51.2.2 then (fLL_law_554 z71.2 z73.2.2.2 ((o12.1).1) 300 0).bind fun (o75 : Unit) => (fLL_law_586 z71.2 z73.2.2.2 ((o4.2.2.2).1) ((o27.2).1) p32.1 300 0).bind fun (o80 : Unit) => (fLL_law_674 z71.2 z73.2.2.2 o34.1 300 0).bind fun (o96 : Unit) => (zx_count z71.2 3).bind fun z102 => (zx_count z71.2 2).bind fun z103 => if z102 = (o51.2.1 + (if (z103 - o51.2.1) < 24 then (z103 - o51.2.1) else 24)) then (if z10.1 ≤ 0 then some z71.2 else (zx_ripe z71.2 z8 (1 + z9)).bind fun z106 => if z106.1 = (z10.1 - 1) then some z106.2 else none : Option (XT)).bind fun (t105 : XT) => (if z10.1 = 0 then (zs_ldr z73.2.2.2 ((o4.2.2.2).1) z8).bind fun x109 => (zs_ld z73.2.2.2 x109 1).bind fun x110 => if (1 + z9) ≤ x110 then some () else none else some () : Option (Unit)).bind fun (t108 : Unit) => (if z10.1 = 1 then (zx_about t105 z8 1).bind fun z113 => if (1 + z9) ≤ z113 then some () else none else some () : Option (Unit)).bind fun (t112 : Unit) => fLL_law_22 sa k t105 z73.2.1 z73.2.2.1 z73.2.2.2 (x3_22 + 1) else none else none else none
def fL_law (sa : SAT) : Option Unit := (fL_build sa zx_0).bind fun z0 => (fLL_law_22 sa 35 z0.1 z0.2.1 z0.2.2.1 z0.2.2.2 0).bind fun (o1 : XT × FN × (Nat → Nat) × zs_H) => (fX6_isSame o1.1 o1.2.1 o1.2.2.1 o1.2.2.2).bind fun z115 => some ()
set_option maxHeartbeats 40000000 in
set_option maxRecDepth 100000 in
theorem kL_law {pg : Program} {l : Launch} {e : Env} {s : State} {m : MethodId} {args : Array Value} {below : List Frame} {meth : Method} {c : Code} {D : va_G} {cy : Nat → ClassId} {sa : SAT} {Q : State → Prop} {A : Nat → Prop} (hx : pg.tables.exec = Jvm.exec) (hb : c.code = cL_law) (hml : c.maxLocals = 21) (hown : s.vm.findClass RL = some m.cls) (hts : ∀ w ∈ wsL_law, w.before args s = true) (hA : ∀ q : Nat, s.heap.size ≤ q → A q) (hK : va_K D vwCl (tyW cy) s) (hG : GE sa A s s.heap)
    (hQ : ∀ (H : Heap) (locs : List Loc) (cells slots pc : Nat) (ls : Array Slot), decode cL_law pc = .ok (.ireturn, 1) → va_S A s.heap H locs → cells ≤ 600130 → slots ≤ 7301080 → W pg l e room_1 s m args below meth c H locs cells slots Q (F0 m pc ls [.int 1])) (hF : fL_law sa = some ()) (ls : Array Slot) (hl : lv_has ls 21 [(0, .ref (sa.1 3))]) :
    W pg l e room_1 s m args below meth c s.heap [] 0 0 Q (F0 m 0 ls []) := by
  have hiX5 : ∀ w ∈ u_ws RX5 TX5 2, w ∈ wsL_law := inlX5
  have hiX6 : ∀ w ∈ u_ws RX6 TX6 12, w ∈ wsL_law := inlX6
  have hf9 : (Cond.fieldLink RL 9 "RagVatsLaw$Sim" "pairs" "[[I").before args s = true := hts _ (by decide +kernel)
  have hf15 : (Cond.fieldLink RL 15 "RagVatsLaw$Sim" "teams" "[[I").before args s = true := hts _ (by decide +kernel)
  have hf73 : (Cond.fieldLink RL 73 "RagVatsLaw$Sim" "water" "[I").before args s = true := hts _ (by decide +kernel)
  replace hl : lv_has ls 21 [(0, .ref (sa.1 3))] := hl
  have hS : va_S A s.heap s.heap [] := va_S.rf
  have L54 : ∀ (h : Nat → Nat) (hs : Nat) (k : Nat) (X_54 : XT) (G_54 : FN) (F_54 : Nat → Nat) (p_54 : zs_H) (x3_54 : Int32) (x4_54 : Int32) (x5_54 : Int32) (o : XT × FN × (Nat → Nat) × zs_H), fLL_law_54 x4_54 k X_54 G_54 F_54 p_54 x5_54 = some o → ∀ (ad_54 : Nat → Nat) (cu_54 su_54 T_ TS_ : Nat), cu_54 + 2 * k ≤ T_ → su_54 + 95 * k ≤ TS_ → T_ ≤ 8091 → TS_ ≤ 659622 → ∀ (H : Heap) (locs : List Loc) (ls : Array Slot), zs_wf p_54 → zs_fs F_54 p_54 → va_P D vwCl (zs_W (zx_W cy h X_54) cy hs ad_54 G_54 F_54 p_54) H → va_D A (zs_W (zx_W cy h X_54) cy hs ad_54 G_54 F_54 p_54) → va_S A s.heap H locs → lv_has ls 21 [(0, .ref (sa.1 3)), (1, .ref (h 0)), (2, .ref hs), (3, .int x3_54), (4, .int x4_54), (5, .int x5_54)] → (∀ (ad2 : Nat → Nat) (H : Heap) (locs : List Loc) (ls : Array Slot), zs_wf o.2.2.2 → zs_fs o.2.2.1 o.2.2.2 → va_P D vwCl (zs_W (zx_W cy h o.1) cy hs ad2 o.2.1 o.2.2.1 o.2.2.2) H → va_D A (zs_W (zx_W cy h o.1) cy hs ad2 o.2.1 o.2.2.1 o.2.2.2) → va_S A s.heap H locs → lv_has ls 21 [(0, .ref (sa.1 3)), (1, .ref (h 0)), (2, .ref hs), (3, .int x3_54), (4, .int x4_54)] → W pg l e room_1 s m args below meth c H locs T_ TS_ Q (F0 m 90 ls [])) → W pg l e room_1 s m args below meth c H locs cu_54 su_54 Q (F0 m 54 ls []) := by
      intro h hs k
      induction k with
      | zero =>
          intro X_54 G_54 F_54 p_54 x3_54 x4_54 x5_54 o hF
          rw [fLL_law_54] at hF
          cases hF
      | succ k ih =>
          intro X_54 G_54 F_54 p_54 x3_54 x4_54 x5_54 o hF ad_54 cu_54 su_54 T_ TS_ hcu_ hsu_ hT_ hTS_ H locs ls hw_54 hf_54 hP hD hS hl kk0
          rw [fLL_law_54] at hF
          refine lv_iload hx hb dL_law_54 (lv_at hl 5 rfl) ?_
          refine lv_iconst (v := 2) hx hb dL_law_56 (by decide) ?_
          refine lv_icmp_ge (tgt := 90) hx hb dL_law_57 (by decide) (fun c_5 => ?_) (fun c_5 => ?_)
          ·   replace hF := if_t hF c_5
              cases hF
              refine W.widen (k := T_) (n := TS_) (by omega) (by omega) ?_
              exact kk0 ad_54 _ _ _ hw_54 hf_54 hP hD hS (lv_sub hl [0, 1, 2, 3, 4] rfl)
          ·   replace hF := if_f hF c_5
              refine lv_aload_n hx hb dL_law_60 rfl (lv_at hl 1 rfl) ?_
              refine lv_aload_n hx hb dL_law_61 rfl (lv_at hl 2 rfl) ?_
              refine lv_iload hx hb dL_law_62 (lv_at hl 4 rfl) ?_
              refine lv_iconst (v := 2) hx hb dL_law_64 (by decide) ?_
              refine lv_iload hx hb dL_law_65 (lv_at hl 5 rfl) ?_
              refine lv_imul hx hb dL_law_67 ?_
              refine lv_ishr hx hb dL_law_68 ?_
              refine lv_sipush (v := 227) hx hb dL_law_69 (by decide) ?_
              refine lv_iload hx hb dL_law_72 (lv_at hl 5 rfl) ?_
              refine lv_imul hx hb dL_law_74 ?_
              refine lv_iadd hx hb dL_law_75 ?_
              replace hF := bnd_some hF
              obtain ⟨z6, hz_6, hF⟩ := hF
              refine zc_I (P := []) (kS (As := [.ref (h 0), .ref hs, .int ((x4_54 >>> ((2 * x5_54) &&& 31)) + (227 * x5_54))]) ⟨hx, hb, hml, hown, hts⟩ (kL_act l D cy sa h hs ad_54 X_54 G_54 F_54 p_54 ((x4_54 >>> ((2 * x5_54) &&& 31)) + (227 * x5_54)) hw_54 hf_54  z6 hz_6 _) (va_cwS 3 hts gL_law_L_act rfl rfl rfl (by decide +kernel) ⟨Nat.le_of_ble_eq_true rfl, Nat.le_of_ble_eq_true rfl⟩) hK hP hD hS hA hG (List.range' ([] : va_W).length (zs_W (zx_W cy h X_54) cy hs ad_54 G_54 F_54 p_54).length) (zp_map2 [] _) (zp_nd2 _ _) rfl hl.1 [] rfl (Nat.le_of_ble_eq_true rfl) dL_law_76 ⟨(by show _ ≤ (600130 : Nat); omega), (by show _ ≤ (7301080 : Nat); omega)⟩) hP hD hS hA (fun r6 ad6 H locs hq6 hP hD hS => ?_)
              obtain ⟨rfl, hw6, hf_6, lf6, ha6⟩ := hq6
              replace hP : va_P D vwCl (zs_W (zx_W cy h z6.1) cy hs ad6 z6.2.1 z6.2.2.1 z6.2.2.2) H := hP
              replace hD : va_D A (zs_W (zx_W cy h z6.1) cy hs ad6 z6.2.1 z6.2.2.1 z6.2.2.2) := hD
              refine lv_if_ne (tgt := 84) hx hb dL_law_79 (by decide) (fun _ => ?_) (fun c9 => absurd c9 (by decide))
              refine lv_iinc (v := x5_54 + 1) (lv' := [(5, .int (x5_54 + 1)), (0, .ref (sa.1 3)), (1, .ref (h 0)), (2, .ref hs), (3, .int x3_54), (4, .int x4_54)]) hx hb dL_law_84 hl (k := 5) rfl rfl (by decide) rfl (fun ls hl => ?_)
              refine lv_goto (tgt := 54) hx hb dL_law_87 (by decide) ?_
              exact ih z6.1 z6.2.1 z6.2.2.1 z6.2.2.2 x3_54 x4_54 (x5_54 + 1) o hF ad6 (cu_54 + 2) (su_54 + 95) T_ TS_ (by omega) (by omega) hT_ hTS_ _ _ _ hw6 hf_6 hP hD hS (lv_sub hl [1, 2, 3, 4, 5, 0] rfl) kk0
  have L144 : ∀ (h : Nat → Nat) (hs : Nat) (k : Nat) (X_144 : XT) (G_144 : FN) (F_144 : Nat → Nat) (p_144 : zs_H) (x3_144 : Int32) (x5_144 : Int32) (x6_144 : Int32) (x7_144 : Int32) (q8_144 : Nat) (x9_144 : Int32) (x10_144 : Int32) (x11_144 : Int32) (o : zs_H), fLL_law_144 X_144 q8_144 x10_144 k p_144 x11_144 = some o → ∀ (ad_144 : Nat → Nat) (cu_144 su_144 T_ TS_ : Nat), cu_144 + 0 * k ≤ T_ → su_144 + 0 * k ≤ TS_ → T_ ≤ 8091 → TS_ ≤ 659622 → ∀ (H : Heap) (locs : List Loc) (ls : Array Slot), zs_wf p_144 → zs_fs F_144 p_144 → q8_144 < (p_144).1 → va_P D vwCl (zs_W (zx_W cy h X_144) cy hs ad_144 G_144 F_144 p_144) H → va_D A (zs_W (zx_W cy h X_144) cy hs ad_144 G_144 F_144 p_144) → va_S A s.heap H locs → lv_has ls 21 [(0, .ref (sa.1 3)), (1, .ref (h 0)), (2, .ref hs), (3, .int x3_144), (5, .int x5_144), (6, .int x6_144), (7, .int x7_144), (8, .ref (ad_144 q8_144)), (9, .int x9_144), (10, .int x10_144), (11, .int x11_144)] → (∀ (H : Heap) (locs : List Loc) (ls : Array Slot), zs_wf o → zs_fs F_144 o → q8_144 < (o).1 → va_P D vwCl (zs_W (zx_W cy h X_144) cy hs ad_144 G_144 F_144 o) H → va_D A (zs_W (zx_W cy h X_144) cy hs ad_144 G_144 F_144 o) → va_S A s.heap H locs → lv_has ls 21 [(0, .ref (sa.1 3)), (1, .ref (h 0)), (2, .ref hs), (3, .int x3_144), (5, .int x5_144), (6, .int x6_144), (7, .int x7_144), (8, .ref (ad_144 q8_144)), (9, .int x9_144), (10, .int x10_144)] → W pg l e room_1 s m args below meth c H locs T_ TS_ Q (F0 m 172 ls [])) → W pg l e room_1 s m args below meth c H locs cu_144 su_144 Q (F0 m 144 ls []) := by
      intro h hs k
      induction k with
      | zero =>
          intro X_144 G_144 F_144 p_144 x3_144 x5_144 x6_144 x7_144 q8_144 x9_144 x10_144 x11_144 o hF
          rw [fLL_law_144] at hF
          cases hF
      | succ k ih =>
          intro X_144 G_144 F_144 p_144 x3_144 x5_144 x6_144 x7_144 q8_144 x9_144 x10_144 x11_144 o hF ad_144 cu_144 su_144 T_ TS_ hcu_ hsu_ hT_ hTS_ H locs ls hw_144 hf_144 fq8_144 hP hD hS hl kk0
          rw [fLL_law_144] at hF
          refine lv_iload hx hb dL_law_144 (lv_at hl 10 rfl) ?_
          refine lv_iconst (v := 3) hx hb dL_law_146 (by decide) ?_
          refine lv_icmp_ge (tgt := 172) hx hb dL_law_147 (by decide) (fun c_15 => ?_) (fun c_15 => ?_)
          ·   replace hF := if_t hF c_15
              cases hF
              refine W.widen (k := T_) (n := TS_) (by omega) (by omega) ?_
              exact kk0 _ _ _ hw_144 hf_144 fq8_144 hP hD hS (lv_sub hl [0, 1, 2, 3, 4, 5, 6, 7, 8, 9] rfl)
          ·   replace hF := if_f hF c_15
              refine lv_aload hx hb dL_law_150 (lv_at hl 7 rfl) ?_
              refine lv_iload hx hb dL_law_152 (lv_at hl 9 rfl) ?_
              replace hF := bnd_some hF
              obtain ⟨x16, hz_16, hF⟩ := hF
              refine sx_ldr hx hb hK hP hz_16 dL_law_154 ?_
              have fx16 : x16 < (p_144).1 := zs_ldr_lt hw_144 hz_16
              refine lv_iload hx hb dL_law_155 (lv_at hl 10 rfl) ?_
              refine lv_aload_n hx hb dL_law_157 rfl (lv_at hl 1 rfl) ?_
              refine lv_iload hx hb dL_law_158 (lv_at hl 9 rfl) ?_
              refine lv_iload hx hb dL_law_160 (lv_at hl 10 rfl) ?_
              replace hF := bnd_some hF
              obtain ⟨z17, hz_17, hF⟩ := hF
              refine zw_xI (P2 := zx_W cy h X_144) (kV (As := [.int x10_144, .int x11_144]) ⟨hx, hb, hml, hown, hts⟩ (kzx_about l D cy sa h X_144 x10_144 x11_144 z17 hz_17 _) (cwV 2 hts gL_law_X5_about rfl rfl rfl (by decide +kernel) ⟨Nat.le_of_ble_eq_true rfl, Nat.le_of_ble_eq_true rfl⟩) hK hP hD hS hA hG (List.range (zx_W cy h X_144).length) zw_map1 (zp_nd1 _) zx_at rfl rfl rfl hl.1 [.int x11_144, .ref (ad_144 x16)] rfl (Nat.le_of_ble_eq_true rfl) dL_law_162 ⟨(by show _ ≤ (600130 : Nat); omega), (by show _ ≤ (7301080 : Nat); omega)⟩) hP hD hS hA zx_m (fun H locs hP hD hS => ?_)
              replace hF := bnd_some hF
              obtain ⟨p18, hz_18, hF⟩ := hF
              refine sx_st hx hb hK hP hD hS hz_18 dL_law_165 (fun H locs hP hD hS => ?_)
              obtain ⟨hw18, hn18⟩ := zs_st_wf hw_144 hz_18
              have lf18 : (p_144).1 ≤ p18.1 := Nat.le_of_eq hn18.symm
              have hf_18 := zs_fs_le hf_144 lf18
              have fr18_0 : q8_144 < (p18).1 := Nat.lt_of_lt_of_le fq8_144 lf18
              replace hP : va_P D vwCl (zs_W (zx_W cy h X_144) cy hs ad_144 G_144 F_144 p18) H := hP
              replace hD : va_D A (zs_W (zx_W cy h X_144) cy hs ad_144 G_144 F_144 p18) := hD
              refine lv_iinc (v := x11_144 + 1) (lv' := [(11, .int (x11_144 + 1)), (0, .ref (sa.1 3)), (1, .ref (h 0)), (2, .ref hs), (3, .int x3_144), (5, .int x5_144), (6, .int x6_144), (7, .int x7_144), (8, .ref (ad_144 q8_144)), (9, .int x9_144), (10, .int x10_144)]) hx hb dL_law_166 hl (k := 10) rfl rfl (by decide) rfl (fun ls hl => ?_)
              refine lv_goto (tgt := 144) hx hb dL_law_169 (by decide) ?_
              exact ih X_144 G_144 F_144 p18 x3_144 x5_144 x6_144 x7_144 q8_144 x9_144 x10_144 (x11_144 + 1) o hF ad_144 (cu_144) (su_144) T_ TS_ (by omega) (by omega) hT_ hTS_ _ _ _ hw18 hf_18 fr18_0 hP hD hS (lv_sub hl [1, 2, 3, 4, 5, 6, 7, 8, 9, 10, 0] rfl) kk0
  have L135 : ∀ (h : Nat → Nat) (hs : Nat) (k : Nat) (X_135 : XT) (G_135 : FN) (F_135 : Nat → Nat) (p_135 : zs_H) (x3_135 : Int32) (x5_135 : Int32) (x6_135 : Int32) (x7_135 : Int32) (q8_135 : Nat) (x9_135 : Int32) (x10_135 : Int32) (o : zs_H × Int32), fLL_law_135 X_135 q8_135 k p_135 x9_135 x10_135 = some o → ∀ (ad_135 : Nat → Nat) (cu_135 su_135 T_ TS_ : Nat), cu_135 + 0 * k ≤ T_ → su_135 + 0 * k ≤ TS_ → T_ ≤ 8091 → TS_ ≤ 659622 → ∀ (H : Heap) (locs : List Loc) (ls : Array Slot), zs_wf p_135 → zs_fs F_135 p_135 → q8_135 < (p_135).1 → va_P D vwCl (zs_W (zx_W cy h X_135) cy hs ad_135 G_135 F_135 p_135) H → va_D A (zs_W (zx_W cy h X_135) cy hs ad_135 G_135 F_135 p_135) → va_S A s.heap H locs → lv_has ls 21 [(0, .ref (sa.1 3)), (1, .ref (h 0)), (2, .ref hs), (3, .int x3_135), (5, .int x5_135), (6, .int x6_135), (7, .int x7_135), (8, .ref (ad_135 q8_135)), (9, .int x9_135), (10, .int x10_135)] → (∀ (H : Heap) (locs : List Loc) (ls : Array Slot), zs_wf o.1 → zs_fs F_135 o.1 → q8_135 < (o.1).1 → va_P D vwCl (zs_W (zx_W cy h X_135) cy hs ad_135 G_135 F_135 o.1) H → va_D A (zs_W (zx_W cy h X_135) cy hs ad_135 G_135 F_135 o.1) → va_S A s.heap H locs → lv_has ls 21 [(0, .ref (sa.1 3)), (1, .ref (h 0)), (2, .ref hs), (3, .int x3_135), (5, .int x5_135), (6, .int x6_135), (7, .int x7_135), (8, .ref (ad_135 q8_135)), (9, .int o.2)] → W pg l e room_1 s m args below meth c H locs T_ TS_ Q (F0 m 198 ls [])) → W pg l e room_1 s m args below meth c H locs cu_135 su_135 Q (F0 m 135 ls []) := by
      intro h hs k
      induction k with
      | zero =>
          intro X_135 G_135 F_135 p_135 x3_135 x5_135 x6_135 x7_135 q8_135 x9_135 x10_135 o hF
          rw [fLL_law_135] at hF
          cases hF
      | succ k ih =>
          intro X_135 G_135 F_135 p_135 x3_135 x5_135 x6_135 x7_135 q8_135 x9_135 x10_135 o hF ad_135 cu_135 su_135 T_ TS_ hcu_ hsu_ hT_ hTS_ H locs ls hw_135 hf_135 fq8_135 hP hD hS hl kk0
          rw [fLL_law_135] at hF
          refine lv_iload hx hb dL_law_135 (lv_at hl 9 rfl) ?_
          refine lv_iconst (v := 4) hx hb dL_law_137 (by decide) ?_
          refine lv_icmp_ge (tgt := 198) hx hb dL_law_138 (by decide) (fun c_13 => ?_) (fun c_13 => ?_)
          ·   replace hF := if_t hF c_13
              cases hF
              refine W.widen (k := T_) (n := TS_) (by omega) (by omega) ?_
              exact kk0 _ _ _ hw_135 hf_135 fq8_135 hP hD hS (lv_sub hl [0, 1, 2, 3, 4, 5, 6, 7, 8] rfl)
          ·   replace hF := if_f hF c_13
              refine lv_iconst (v := 0) hx hb dL_law_141 (by decide) ?_
              refine lv_istore (lv' := [(11, .int 0), (0, .ref (sa.1 3)), (1, .ref (h 0)), (2, .ref hs), (3, .int x3_135), (5, .int x5_135), (6, .int x6_135), (7, .int x7_135), (8, .ref (ad_135 q8_135)), (9, .int x9_135), (10, .int x10_135)]) hx hb dL_law_142 hl (by decide) rfl (fun ls hl => ?_)
              replace hF := bnd_some hF
              obtain ⟨o14, hz_14, hF⟩ := hF
              refine L144 h hs 300 X_135 G_135 F_135 p_135 x3_135 x5_135 x6_135 x7_135 q8_135 x9_135 x10_135 0 o14 hz_14 ad_135 (cu_135) (su_135) (cu_135) (su_135) (by omega) (by omega) (by show _ ≤ (8091 : Nat); omega) (by show _ ≤ (659622 : Nat); omega) _ _ _ hw_135 hf_135 fq8_135 hP hD hS (lv_sub hl [1, 2, 3, 4, 5, 6, 7, 8, 9, 10, 0] rfl) (fun H locs ls hw14_0 hf14_0 fk14_0_8 hP hD hS hl => ?_)
              refine lv_iload hx hb dL_law_172 (lv_at hl 8 rfl) ?_
              refine lv_aload hx hb dL_law_174 (lv_at hl 7 rfl) ?_
              refine lv_iload hx hb dL_law_176 (lv_at hl 9 rfl) ?_
              replace hF := bnd_some hF
              obtain ⟨x19, hz_19, hF⟩ := hF
              refine sx_ldr hx hb hK hP hz_19 dL_law_178 ?_
              have fx19 : x19 < (o14).1 := zs_ldr_lt hw14_0 hz_19
              refine lv_iconst (v := 0) hx hb dL_law_179 (by decide) ?_
              replace hF := bnd_some hF
              obtain ⟨x20, hz_20, hF⟩ := hF
              refine sx_ld hx hb hK hP hz_20 dL_law_180 ?_
              replace hF := bnd_some hF
              obtain ⟨t21, hz_21, hF⟩ := hF
              have J21 : ∀ (H : Heap) (locs : List Loc) (ls : Array Slot), va_P D vwCl (zs_W (zx_W cy h X_135) cy hs ad_135 G_135 F_135 o14) H → va_D A (zs_W (zx_W cy h X_135) cy hs ad_135 G_135 F_135 o14) → va_S A s.heap H locs → lv_has ls 21 [(0, .ref (sa.1 3)), (1, .ref (h 0)), (2, .ref hs), (3, .int x3_135), (5, .int x5_135), (6, .int x6_135), (7, .int x7_135), (8, .ref (ad_135 q8_135)), (10, .int x10_135)] → W pg l e room_1 s m args below meth c H locs (cu_135) (su_135) Q (F0 m 189 ls [.int t21, .int x9_135]) := by
                  intro H locs ls hP hD hS hl
                  refine lv_iadd hx hb dL_law_189 ?_
                  refine lv_istore (lv' := [(9, .int (x9_135 + t21)), (0, .ref (sa.1 3)), (1, .ref (h 0)), (2, .ref hs), (3, .int x3_135), (5, .int x5_135), (6, .int x6_135), (7, .int x7_135), (8, .ref (ad_135 q8_135)), (10, .int x10_135)]) hx hb dL_law_190 hl (by decide) rfl (fun ls hl => ?_)
                  refine lv_iinc (v := x10_135 + 1) (lv' := [(10, .int (x10_135 + 1)), (9, .int (x9_135 + t21)), (0, .ref (sa.1 3)), (1, .ref (h 0)), (2, .ref hs), (3, .int x3_135), (5, .int x5_135), (6, .int x6_135), (7, .int x7_135), (8, .ref (ad_135 q8_135))]) hx hb dL_law_192 hl (k := 9) rfl rfl (by decide) rfl (fun ls hl => ?_)
                  refine lv_goto (tgt := 135) hx hb dL_law_195 (by decide) ?_
                  exact ih X_135 G_135 F_135 o14 x3_135 x5_135 x6_135 x7_135 q8_135 (x9_135 + t21) (x10_135 + 1) o hF ad_135 (cu_135) (su_135) T_ TS_ (by omega) (by omega) hT_ hTS_ _ _ _ hw14_0 hf14_0 fk14_0_8 hP hD hS (lv_sub hl [2, 3, 4, 5, 6, 7, 8, 9, 1, 0] rfl) kk0
              replace hF := hz_21
              refine lv_if_le (tgt := 188) hx hb dL_law_181 (by decide) (fun c_21 => ?_) (fun c_21 => ?_)
              ·   replace hF := if_t hF c_21
                  refine lv_iconst (v := 0) hx hb dL_law_188 (by decide) ?_
                  cases hF
                  exact J21 _ _ _ hP hD hS (lv_sub hl [0, 1, 2, 3, 4, 5, 6, 7, 9] rfl)
              ·   replace hF := if_f hF c_21
                  refine lv_iconst (v := 1) hx hb dL_law_184 (by decide) ?_
                  refine lv_goto (tgt := 189) hx hb dL_law_185 (by decide) ?_
                  cases hF
                  exact J21 _ _ _ hP hD hS (lv_sub hl [0, 1, 2, 3, 4, 5, 6, 7, 9] rfl)
  have L236 : ∀ (h : Nat → Nat) (hs : Nat) (k : Nat) (X_236 : XT) (G_236 : FN) (F_236 : Nat → Nat) (p_236 : zs_H) (x3_236 : Int32) (x5_236 : Int32) (x6_236 : Int32) (x7_236 : Int32) (q8_236 : Nat) (x10_236 : Int32) (q11_236 : Nat) (x12_236 : Int32) (o : XT × zs_H), fLL_law_236 q11_236 k X_236 p_236 x12_236 = some o → ∀ (ad_236 : Nat → Nat) (cu_236 su_236 T_ TS_ : Nat), cu_236 + 0 * k ≤ T_ → su_236 + 0 * k ≤ TS_ → T_ ≤ 8091 → TS_ ≤ 659622 → ∀ (H : Heap) (locs : List Loc) (ls : Array Slot), zs_wf p_236 → zs_fs F_236 p_236 → q8_236 < (p_236).1 → q11_236 < (p_236).1 → va_P D vwCl (zs_W (zx_W cy h X_236) cy hs ad_236 G_236 F_236 p_236) H → va_D A (zs_W (zx_W cy h X_236) cy hs ad_236 G_236 F_236 p_236) → va_S A s.heap H locs → lv_has ls 21 [(0, .ref (sa.1 3)), (1, .ref (h 0)), (2, .ref hs), (3, .int x3_236), (5, .int x5_236), (6, .int x6_236), (7, .int x7_236), (8, .ref (ad_236 q8_236)), (10, .int x10_236), (11, .ref (ad_236 q11_236)), (12, .int x12_236)] → (∀ (H : Heap) (locs : List Loc) (ls : Array Slot), zs_wf o.2 → zs_fs F_236 o.2 → q8_236 < (o.2).1 → q11_236 < (o.2).1 → va_P D vwCl (zs_W (zx_W cy h o.1) cy hs ad_236 G_236 F_236 o.2) H → va_D A (zs_W (zx_W cy h o.1) cy hs ad_236 G_236 F_236 o.2) → va_S A s.heap H locs → lv_has ls 21 [(0, .ref (sa.1 3)), (1, .ref (h 0)), (2, .ref hs), (3, .int x3_236), (5, .int x5_236), (6, .int x6_236), (7, .int x7_236), (8, .ref (ad_236 q8_236)), (10, .int x10_236), (11, .ref (ad_236 q11_236))] → W pg l e room_1 s m args below meth c H locs T_ TS_ Q (F0 m 261 ls [])) → W pg l e room_1 s m args below meth c H locs cu_236 su_236 Q (F0 m 236 ls []) := by
      intro h hs k
      induction k with
      | zero =>
          intro X_236 G_236 F_236 p_236 x3_236 x5_236 x6_236 x7_236 q8_236 x10_236 q11_236 x12_236 o hF
          rw [fLL_law_236] at hF
          cases hF
      | succ k ih =>
          intro X_236 G_236 F_236 p_236 x3_236 x5_236 x6_236 x7_236 q8_236 x10_236 q11_236 x12_236 o hF ad_236 cu_236 su_236 T_ TS_ hcu_ hsu_ hT_ hTS_ H locs ls hw_236 hf_236 fq8_236 fq11_236 hP hD hS hl kk0
          rw [fLL_law_236] at hF
          refine lv_iload hx hb dL_law_236 (lv_at hl 10 rfl) ?_
          refine lv_bipush (v := 12) hx hb dL_law_238 (by decide) ?_
          refine lv_icmp_ge (tgt := 261) hx hb dL_law_240 (by decide) (fun c_28 => ?_) (fun c_28 => ?_)
          ·   replace hF := if_t hF c_28
              cases hF
              refine W.widen (k := T_) (n := TS_) (by omega) (by omega) ?_
              exact kk0 _ _ _ hw_236 hf_236 fq8_236 fq11_236 hP hD hS (lv_sub hl [0, 1, 2, 3, 4, 5, 6, 7, 8, 9] rfl)
          ·   replace hF := if_f hF c_28
              refine lv_aload hx hb dL_law_243 (lv_at hl 9 rfl) ?_
              refine lv_iload hx hb dL_law_245 (lv_at hl 10 rfl) ?_
              refine lv_aload_n hx hb dL_law_247 rfl (lv_at hl 1 rfl) ?_
              refine lv_iconst (v := 1) hx hb dL_law_248 (by decide) ?_
              refine lv_iload hx hb dL_law_249 (lv_at hl 10 rfl) ?_
              replace hF := bnd_some hF
              obtain ⟨z29, hz_29, hF⟩ := hF
              refine zw_xI (P2 := zx_W cy h z29.2) (kV (As := [.int 1, .int x12_236]) ⟨hx, hb, hml, hown, hts⟩ (kzx_foresee l D cy sa h X_236 1 x12_236 z29 hz_29 _) (cwV 2 hts gL_law_X5_foresee rfl rfl rfl (by decide +kernel) ⟨Nat.le_of_ble_eq_true rfl, Nat.le_of_ble_eq_true rfl⟩) hK hP hD hS hA hG (List.range (zx_W cy h X_236).length) zw_map1 (zp_nd1 _) zx_at rfl rfl rfl hl.1 [.int x12_236, .ref (ad_236 q11_236)] rfl (Nat.le_of_ble_eq_true rfl) dL_law_251 ⟨(by show _ ≤ (600130 : Nat); omega), (by show _ ≤ (7301080 : Nat); omega)⟩) hP hD hS hA zx_m (fun H locs hP hD hS => ?_)
              replace hF := bnd_some hF
              obtain ⟨p30, hz_30, hF⟩ := hF
              refine sx_st hx hb hK hP hD hS hz_30 dL_law_254 (fun H locs hP hD hS => ?_)
              obtain ⟨hw30, hn30⟩ := zs_st_wf hw_236 hz_30
              have lf30 : (p_236).1 ≤ p30.1 := Nat.le_of_eq hn30.symm
              have hf_30 := zs_fs_le hf_236 lf30
              have fr30_0 : q8_236 < (p30).1 := Nat.lt_of_lt_of_le fq8_236 lf30
              have fr30_1 : q11_236 < (p30).1 := Nat.lt_of_lt_of_le fq11_236 lf30
              replace hP : va_P D vwCl (zs_W (zx_W cy h z29.2) cy hs ad_236 G_236 F_236 p30) H := hP
              replace hD : va_D A (zs_W (zx_W cy h z29.2) cy hs ad_236 G_236 F_236 p30) := hD
              refine lv_iinc (v := x12_236 + 1) (lv' := [(12, .int (x12_236 + 1)), (0, .ref (sa.1 3)), (1, .ref (h 0)), (2, .ref hs), (3, .int x3_236), (5, .int x5_236), (6, .int x6_236), (7, .int x7_236), (8, .ref (ad_236 q8_236)), (10, .int x10_236), (11, .ref (ad_236 q11_236))]) hx hb dL_law_255 hl (k := 10) rfl rfl (by decide) rfl (fun ls hl => ?_)
              refine lv_goto (tgt := 236) hx hb dL_law_258 (by decide) ?_
              exact ih z29.2 G_236 F_236 p30 x3_236 x5_236 x6_236 x7_236 q8_236 x10_236 q11_236 (x12_236 + 1) o hF ad_236 (cu_236) (su_236) T_ TS_ (by omega) (by omega) hT_ hTS_ _ _ _ hw30 hf_30 fr30_0 fr30_1 hP hD hS (lv_sub hl [1, 2, 3, 4, 5, 6, 7, 8, 9, 10, 0] rfl) kk0
  have L281 : ∀ (h : Nat → Nat) (hs : Nat) (k : Nat) (X_281 : XT) (G_281 : FN) (F_281 : Nat → Nat) (p_281 : zs_H) (x3_281 : Int32) (x5_281 : Int32) (x6_281 : Int32) (x7_281 : Int32) (q8_281 : Nat) (x10_281 : Int32) (q11_281 : Nat) (x12_281 : Int32) (q13_281 : Nat) (q14_281 : Nat) (x15_281 : Int32) (o : zs_H), fLL_law_281 q8_281 x10_281 q13_281 q14_281 k p_281 x15_281 = some o → ∀ (ad_281 : Nat → Nat) (cu_281 su_281 T_ TS_ : Nat), cu_281 + 0 * k ≤ T_ → su_281 + 0 * k ≤ TS_ → T_ ≤ 8091 → TS_ ≤ 659622 → ∀ (H : Heap) (locs : List Loc) (ls : Array Slot), zs_wf p_281 → zs_fs F_281 p_281 → q8_281 < (p_281).1 → q11_281 < (p_281).1 → q13_281 < (p_281).1 → q14_281 < (p_281).1 → va_P D vwCl (zs_W (zx_W cy h X_281) cy hs ad_281 G_281 F_281 p_281) H → va_D A (zs_W (zx_W cy h X_281) cy hs ad_281 G_281 F_281 p_281) → va_S A s.heap H locs → lv_has ls 21 [(0, .ref (sa.1 3)), (1, .ref (h 0)), (2, .ref hs), (3, .int x3_281), (5, .int x5_281), (6, .int x6_281), (7, .int x7_281), (8, .ref (ad_281 q8_281)), (10, .int x10_281), (11, .ref (ad_281 q11_281)), (12, .int x12_281), (13, .ref (ad_281 q13_281)), (14, .ref (ad_281 q14_281)), (15, .int x15_281)] → (∀ (H : Heap) (locs : List Loc) (ls : Array Slot), zs_wf o → zs_fs F_281 o → q8_281 < (o).1 → q11_281 < (o).1 → q13_281 < (o).1 → q14_281 < (o).1 → va_P D vwCl (zs_W (zx_W cy h X_281) cy hs ad_281 G_281 F_281 o) H → va_D A (zs_W (zx_W cy h X_281) cy hs ad_281 G_281 F_281 o) → va_S A s.heap H locs → lv_has ls 21 [(0, .ref (sa.1 3)), (1, .ref (h 0)), (2, .ref hs), (3, .int x3_281), (5, .int x5_281), (6, .int x6_281), (7, .int x7_281), (8, .ref (ad_281 q8_281)), (11, .ref (ad_281 q11_281)), (12, .int x12_281), (13, .ref (ad_281 q13_281)), (14, .ref (ad_281 q14_281))] → W pg l e room_1 s m args below meth c H locs T_ TS_ Q (F0 m 337 ls [])) → W pg l e room_1 s m args below meth c H locs cu_281 su_281 Q (F0 m 281 ls []) := by
      intro h hs k
      induction k with
      | zero =>
          intro X_281 G_281 F_281 p_281 x3_281 x5_281 x6_281 x7_281 q8_281 x10_281 q11_281 x12_281 q13_281 q14_281 x15_281 o hF
          rw [fLL_law_281] at hF
          cases hF
      | succ k ih =>
          intro X_281 G_281 F_281 p_281 x3_281 x5_281 x6_281 x7_281 q8_281 x10_281 q11_281 x12_281 q13_281 q14_281 x15_281 o hF ad_281 cu_281 su_281 T_ TS_ hcu_ hsu_ hT_ hTS_ H locs ls hw_281 hf_281 fq8_281 fq11_281 fq13_281 fq14_281 hP hD hS hl kk0
          rw [fLL_law_281] at hF
          refine lv_iload hx hb dL_law_281 (lv_at hl 13 rfl) ?_
          refine lv_iconst (v := 4) hx hb dL_law_283 (by decide) ?_
          refine lv_icmp_ge (tgt := 337) hx hb dL_law_284 (by decide) (fun c_35 => ?_) (fun c_35 => ?_)
          ·   replace hF := if_t hF c_35
              cases hF
              refine W.widen (k := T_) (n := TS_) (by omega) (by omega) ?_
              exact kk0 _ _ _ hw_281 hf_281 fq8_281 fq11_281 fq13_281 fq14_281 hP hD hS (lv_sub hl [0, 1, 2, 3, 4, 5, 6, 7, 9, 10, 11, 12] rfl)
          ·   replace hF := if_f hF c_35
              refine lv_aload hx hb dL_law_287 (lv_at hl 11 rfl) ?_
              refine lv_iload hx hb dL_law_289 (lv_at hl 13 rfl) ?_
              refine lv_aload hx hb dL_law_291 (lv_at hl 7 rfl) ?_
              refine lv_iload hx hb dL_law_293 (lv_at hl 13 rfl) ?_
              replace hF := bnd_some hF
              obtain ⟨x36, hz_36, hF⟩ := hF
              refine sx_ldr hx hb hK hP hz_36 dL_law_295 ?_
              have fx36 : x36 < (p_281).1 := zs_ldr_lt hw_281 hz_36
              refine lv_iconst (v := 0) hx hb dL_law_296 (by decide) ?_
              replace hF := bnd_some hF
              obtain ⟨x37, hz_37, hF⟩ := hF
              refine sx_ld hx hb hK hP hz_37 dL_law_297 ?_
              replace hF := bnd_some hF
              obtain ⟨p38, hz_38, hF⟩ := hF
              refine sx_st hx hb hK hP hD hS hz_38 dL_law_298 (fun H locs hP hD hS => ?_)
              obtain ⟨hw38, hn38⟩ := zs_st_wf hw_281 hz_38
              have lf38 : (p_281).1 ≤ p38.1 := Nat.le_of_eq hn38.symm
              have hf_38 := zs_fs_le hf_281 lf38
              have fr38_0 : q8_281 < (p38).1 := Nat.lt_of_lt_of_le fq8_281 lf38
              have fr38_1 : q11_281 < (p38).1 := Nat.lt_of_lt_of_le fq11_281 lf38
              have fr38_2 : q13_281 < (p38).1 := Nat.lt_of_lt_of_le fq13_281 lf38
              have fr38_3 : q14_281 < (p38).1 := Nat.lt_of_lt_of_le fq14_281 lf38
              replace hP : va_P D vwCl (zs_W (zx_W cy h X_281) cy hs ad_281 G_281 F_281 p38) H := hP
              replace hD : va_D A (zs_W (zx_W cy h X_281) cy hs ad_281 G_281 F_281 p38) := hD
              refine lv_aload hx hb dL_law_299 (lv_at hl 12 rfl) ?_
              refine lv_iload hx hb dL_law_301 (lv_at hl 13 rfl) ?_
              refine lv_aload hx hb dL_law_303 (lv_at hl 11 rfl) ?_
              refine lv_iload hx hb dL_law_305 (lv_at hl 13 rfl) ?_
              replace hF := bnd_some hF
              obtain ⟨x39, hz_39, hF⟩ := hF
              refine sx_ld hx hb hK hP hz_39 dL_law_307 ?_
              replace hF := bnd_some hF
              obtain ⟨t40, hz_40, hF⟩ := hF
              have J40 : ∀ (H : Heap) (locs : List Loc) (ls : Array Slot), va_P D vwCl (zs_W (zx_W cy h X_281) cy hs ad_281 G_281 F_281 p38) H → va_D A (zs_W (zx_W cy h X_281) cy hs ad_281 G_281 F_281 p38) → va_S A s.heap H locs → lv_has ls 21 [(0, .ref (sa.1 3)), (1, .ref (h 0)), (2, .ref hs), (3, .int x3_281), (5, .int x5_281), (6, .int x6_281), (7, .int x7_281), (8, .ref (ad_281 q8_281)), (10, .int x10_281), (11, .ref (ad_281 q11_281)), (12, .int x12_281), (13, .ref (ad_281 q13_281)), (14, .ref (ad_281 q14_281)), (15, .int x15_281)] → W pg l e room_1 s m args below meth c H locs (cu_281) (su_281) Q (F0 m 330 ls [.int t40, .int x15_281, .ref (ad_281 q14_281)]) := by
                  intro H locs ls hP hD hS hl
                  replace hF := bnd_some hF
                  obtain ⟨p43, hz_43, hF⟩ := hF
                  refine sx_st hx hb hK hP hD hS hz_43 dL_law_330 (fun H locs hP hD hS => ?_)
                  obtain ⟨hw43, hn43⟩ := zs_st_wf hw38 hz_43
                  have lf43 : (p38).1 ≤ p43.1 := Nat.le_of_eq hn43.symm
                  have hf_43 := zs_fs_le hf_38 lf43
                  have fr43_0 : q8_281 < (p43).1 := Nat.lt_of_lt_of_le fr38_0 lf43
                  have fr43_1 : q11_281 < (p43).1 := Nat.lt_of_lt_of_le fr38_1 lf43
                  have fr43_2 : q13_281 < (p43).1 := Nat.lt_of_lt_of_le fr38_2 lf43
                  have fr43_3 : q14_281 < (p43).1 := Nat.lt_of_lt_of_le fr38_3 lf43
                  replace hP : va_P D vwCl (zs_W (zx_W cy h X_281) cy hs ad_281 G_281 F_281 p43) H := hP
                  replace hD : va_D A (zs_W (zx_W cy h X_281) cy hs ad_281 G_281 F_281 p43) := hD
                  refine lv_iinc (v := x15_281 + 1) (lv' := [(15, .int (x15_281 + 1)), (0, .ref (sa.1 3)), (1, .ref (h 0)), (2, .ref hs), (3, .int x3_281), (5, .int x5_281), (6, .int x6_281), (7, .int x7_281), (8, .ref (ad_281 q8_281)), (10, .int x10_281), (11, .ref (ad_281 q11_281)), (12, .int x12_281), (13, .ref (ad_281 q13_281)), (14, .ref (ad_281 q14_281))]) hx hb dL_law_331 hl (k := 13) rfl rfl (by decide) rfl (fun ls hl => ?_)
                  refine lv_goto (tgt := 281) hx hb dL_law_334 (by decide) ?_
                  exact ih X_281 G_281 F_281 p43 x3_281 x5_281 x6_281 x7_281 q8_281 x10_281 q11_281 x12_281 q13_281 q14_281 (x15_281 + 1) o hF ad_281 (cu_281) (su_281) T_ TS_ (by omega) (by omega) hT_ hTS_ _ _ _ hw43 hf_43 fr43_0 fr43_1 fr43_2 fr43_3 hP hD hS (lv_sub hl [1, 2, 3, 4, 5, 6, 7, 8, 9, 10, 11, 12, 13, 0] rfl) kk0
              replace hF := hz_40
              refine lv_if_ne (tgt := 315) hx hb dL_law_308 (by decide) (fun c_40 => ?_) (fun c_40 => ?_)
              ·   replace hF := if_f hF c_40
                  refine lv_bipush (v := 99) hx hb dL_law_315 (by decide) ?_
                  refine lv_aload hx hb dL_law_317 (lv_at hl 7 rfl) ?_
                  refine lv_iload hx hb dL_law_319 (lv_at hl 13 rfl) ?_
                  replace hF := bnd_some hF
                  obtain ⟨x41, hz_41, hF⟩ := hF
                  refine sx_ldr hx hb hK hP hz_41 dL_law_321 ?_
                  have fx41 : x41 < (p38).1 := zs_ldr_lt hw38 hz_41
                  refine lv_iconst (v := 1) hx hb dL_law_322 (by decide) ?_
                  replace hF := bnd_some hF
                  obtain ⟨x42, hz_42, hF⟩ := hF
                  refine sx_ld hx hb hK hP hz_42 dL_law_323 ?_
                  refine lv_iload hx hb dL_law_324 (lv_at hl 8 rfl) ?_
                  refine lv_iadd hx hb dL_law_326 ?_
                  refine va_mmin hx hb (hml.trans hl.1.symm) hown (hts (.methodLink RL 124 Lib.Math.min.name) (by decide +kernel)) (hts (.static Lib.Math.min.name) (by decide +kernel)) (hts (.initialized "java/lang/Math") (by decide +kernel)) (hts (.code Lib.Math.min.name Lib.Math.min.code 2 (some .int)) (by decide +kernel)) (Nat.le_of_ble_eq_true rfl) (Nat.le_of_ble_eq_true rfl) (by show _ ≤ (600130 : Nat); omega) (by show _ ≤ (7301080 : Nat); omega) dL_law_327 ?_
                  cases hF
                  exact J40 _ _ _ hP hD hS (lv_sub hl [0, 1, 2, 3, 4, 5, 6, 7, 8, 9, 10, 11, 12, 13] rfl)
              ·   replace hF := if_t hF c_40
                  refine lv_iconst (v := 0) hx hb dL_law_311 (by decide) ?_
                  refine lv_goto (tgt := 330) hx hb dL_law_312 (by decide) ?_
                  cases hF
                  exact J40 _ _ _ hP hD hS (lv_sub hl [0, 1, 2, 3, 4, 5, 6, 7, 8, 9, 10, 11, 12, 13] rfl)
  have L352 : ∀ (h : Nat → Nat) (hs : Nat) (k : Nat) (X_352 : XT) (G_352 : FN) (F_352 : Nat → Nat) (p_352 : zs_H) (x3_352 : Int32) (x5_352 : Int32) (x6_352 : Int32) (x7_352 : Int32) (q8_352 : Nat) (q11_352 : Nat) (x12_352 : Int32) (q13_352 : Nat) (q14_352 : Nat) (x15_352 : Int32) (q16_352 : Nat) (x17_352 : Int32) (o : zs_H), fLL_law_352 X_352 q16_352 k p_352 x17_352 = some o → ∀ (ad_352 : Nat → Nat) (cu_352 su_352 T_ TS_ : Nat), cu_352 + 0 * k ≤ T_ → su_352 + 0 * k ≤ TS_ → T_ ≤ 8091 → TS_ ≤ 659622 → ∀ (H : Heap) (locs : List Loc) (ls : Array Slot), zs_wf p_352 → zs_fs F_352 p_352 → q8_352 < (p_352).1 → q11_352 < (p_352).1 → q13_352 < (p_352).1 → q14_352 < (p_352).1 → q16_352 < (p_352).1 → va_P D vwCl (zs_W (zx_W cy h X_352) cy hs ad_352 G_352 F_352 p_352) H → va_D A (zs_W (zx_W cy h X_352) cy hs ad_352 G_352 F_352 p_352) → va_S A s.heap H locs → lv_has ls 21 [(0, .ref (sa.1 3)), (1, .ref (h 0)), (2, .ref hs), (3, .int x3_352), (5, .int x5_352), (6, .int x6_352), (7, .int x7_352), (8, .ref (ad_352 q8_352)), (11, .ref (ad_352 q11_352)), (12, .int x12_352), (13, .ref (ad_352 q13_352)), (14, .ref (ad_352 q14_352)), (15, .int x15_352), (16, .ref (ad_352 q16_352)), (17, .int x17_352)] → (∀ (H : Heap) (locs : List Loc) (ls : Array Slot), zs_wf o → zs_fs F_352 o → q8_352 < (o).1 → q11_352 < (o).1 → q13_352 < (o).1 → q14_352 < (o).1 → q16_352 < (o).1 → va_P D vwCl (zs_W (zx_W cy h X_352) cy hs ad_352 G_352 F_352 o) H → va_D A (zs_W (zx_W cy h X_352) cy hs ad_352 G_352 F_352 o) → va_S A s.heap H locs → lv_has ls 21 [(0, .ref (sa.1 3)), (1, .ref (h 0)), (2, .ref hs), (3, .int x3_352), (5, .int x5_352), (6, .int x6_352), (7, .int x7_352), (8, .ref (ad_352 q8_352)), (11, .ref (ad_352 q11_352)), (12, .int x12_352), (13, .ref (ad_352 q13_352)), (14, .ref (ad_352 q14_352)), (15, .int x15_352), (16, .ref (ad_352 q16_352))] → W pg l e room_1 s m args below meth c H locs T_ TS_ Q (F0 m 378 ls [])) → W pg l e room_1 s m args below meth c H locs cu_352 su_352 Q (F0 m 352 ls []) := by
      intro h hs k
      induction k with
      | zero =>
          intro X_352 G_352 F_352 p_352 x3_352 x5_352 x6_352 x7_352 q8_352 q11_352 x12_352 q13_352 q14_352 x15_352 q16_352 x17_352 o hF
          rw [fLL_law_352] at hF
          cases hF
      | succ k ih =>
          intro X_352 G_352 F_352 p_352 x3_352 x5_352 x6_352 x7_352 q8_352 q11_352 x12_352 q13_352 q14_352 x15_352 q16_352 x17_352 o hF ad_352 cu_352 su_352 T_ TS_ hcu_ hsu_ hT_ hTS_ H locs ls hw_352 hf_352 fq8_352 fq11_352 fq13_352 fq14_352 fq16_352 hP hD hS hl kk0
          rw [fLL_law_352] at hF
          refine lv_iload hx hb dL_law_352 (lv_at hl 14 rfl) ?_
          refine lv_aload hx hb dL_law_354 (lv_at hl 13 rfl) ?_
          replace hF := bnd_some hF
          obtain ⟨x47, hz_47, hF⟩ := hF
          refine sx_len hx hb hK hP hz_47 dL_law_356 ?_
          refine lv_icmp_ge (tgt := 378) hx hb dL_law_357 (by decide) (fun c_48 => ?_) (fun c_48 => ?_)
          ·   replace hF := if_t hF c_48
              cases hF
              refine W.widen (k := T_) (n := TS_) (by omega) (by omega) ?_
              exact kk0 _ _ _ hw_352 hf_352 fq8_352 fq11_352 fq13_352 fq14_352 fq16_352 hP hD hS (lv_sub hl [0, 1, 2, 3, 4, 5, 6, 7, 8, 9, 10, 11, 12, 13] rfl)
          ·   replace hF := if_f hF c_48
              refine lv_aload hx hb dL_law_360 (lv_at hl 13 rfl) ?_
              refine lv_iload hx hb dL_law_362 (lv_at hl 14 rfl) ?_
              refine lv_aload_n hx hb dL_law_364 rfl (lv_at hl 1 rfl) ?_
              refine lv_iload hx hb dL_law_365 (lv_at hl 14 rfl) ?_
              refine lv_iconst (v := 2) hx hb dL_law_367 (by decide) ?_
              replace hF := bnd_some hF
              obtain ⟨z49, hz_49, hF⟩ := hF
              refine zw_xI (P2 := zx_W cy h X_352) (kV (As := [.int x17_352, .int 2]) ⟨hx, hb, hml, hown, hts⟩ (kzx_mould l D cy sa h X_352 x17_352 2 z49 hz_49 _) (cwV 2 hts gL_law_X5_mould rfl rfl rfl (by decide +kernel) ⟨Nat.le_of_ble_eq_true rfl, Nat.le_of_ble_eq_true rfl⟩) hK hP hD hS hA hG (List.range (zx_W cy h X_352).length) zw_map1 (zp_nd1 _) zx_at rfl rfl rfl hl.1 [.int x17_352, .ref (ad_352 q16_352)] rfl (Nat.le_of_ble_eq_true rfl) dL_law_368 ⟨(by show _ ≤ (600130 : Nat); omega), (by show _ ≤ (7301080 : Nat); omega)⟩) hP hD hS hA zx_m (fun H locs hP hD hS => ?_)
              replace hF := bnd_some hF
              obtain ⟨p50, hz_50, hF⟩ := hF
              refine sx_st hx hb hK hP hD hS hz_50 dL_law_371 (fun H locs hP hD hS => ?_)
              obtain ⟨hw50, hn50⟩ := zs_st_wf hw_352 hz_50
              have lf50 : (p_352).1 ≤ p50.1 := Nat.le_of_eq hn50.symm
              have hf_50 := zs_fs_le hf_352 lf50
              have fr50_0 : q8_352 < (p50).1 := Nat.lt_of_lt_of_le fq8_352 lf50
              have fr50_1 : q11_352 < (p50).1 := Nat.lt_of_lt_of_le fq11_352 lf50
              have fr50_2 : q13_352 < (p50).1 := Nat.lt_of_lt_of_le fq13_352 lf50
              have fr50_3 : q14_352 < (p50).1 := Nat.lt_of_lt_of_le fq14_352 lf50
              have fr50_4 : q16_352 < (p50).1 := Nat.lt_of_lt_of_le fq16_352 lf50
              replace hP : va_P D vwCl (zs_W (zx_W cy h X_352) cy hs ad_352 G_352 F_352 p50) H := hP
              replace hD : va_D A (zs_W (zx_W cy h X_352) cy hs ad_352 G_352 F_352 p50) := hD
              refine lv_iinc (v := x17_352 + 1) (lv' := [(17, .int (x17_352 + 1)), (0, .ref (sa.1 3)), (1, .ref (h 0)), (2, .ref hs), (3, .int x3_352), (5, .int x5_352), (6, .int x6_352), (7, .int x7_352), (8, .ref (ad_352 q8_352)), (11, .ref (ad_352 q11_352)), (12, .int x12_352), (13, .ref (ad_352 q13_352)), (14, .ref (ad_352 q14_352)), (15, .int x15_352), (16, .ref (ad_352 q16_352))]) hx hb dL_law_372 hl (k := 14) rfl rfl (by decide) rfl (fun ls hl => ?_)
              refine lv_goto (tgt := 352) hx hb dL_law_375 (by decide) ?_
              exact ih X_352 G_352 F_352 p50 x3_352 x5_352 x6_352 x7_352 q8_352 q11_352 x12_352 q13_352 q14_352 x15_352 q16_352 (x17_352 + 1) o hF ad_352 (cu_352) (su_352) T_ TS_ (by omega) (by omega) hT_ hTS_ _ _ _ hw50 hf_50 fr50_0 fr50_1 fr50_2 fr50_3 fr50_4 hP hD hS (lv_sub hl [1, 2, 3, 4, 5, 6, 7, 8, 9, 10, 11, 12, 13, 14, 0] rfl) kk0
  have L381 : ∀ (h : Nat → Nat) (hs : Nat) (k : Nat) (X_381 : XT) (G_381 : FN) (F_381 : Nat → Nat) (p_381 : zs_H) (x3_381 : Int32) (x5_381 : Int32) (x6_381 : Int32) (x7_381 : Int32) (q8_381 : Nat) (q11_381 : Nat) (x12_381 : Int32) (q13_381 : Nat) (q14_381 : Nat) (x15_381 : Int32) (q16_381 : Nat) (x17_381 : Int32) (o : zs_H × Int32 × Int32), fLL_law_381 X_381 F_381 q13_381 q14_381 q16_381 k p_381 x12_381 x15_381 x17_381 = some o → ∀ (ad_381 : Nat → Nat) (cu_381 su_381 T_ TS_ : Nat), cu_381 + 0 * k ≤ T_ → su_381 + 0 * k ≤ TS_ → T_ ≤ 8091 → TS_ ≤ 659622 → ∀ (H : Heap) (locs : List Loc) (ls : Array Slot), zs_wf p_381 → zs_fs F_381 p_381 → q8_381 < (p_381).1 → q11_381 < (p_381).1 → q13_381 < (p_381).1 → q14_381 < (p_381).1 → q16_381 < (p_381).1 → va_P D vwCl (zs_W (zx_W cy h X_381) cy hs ad_381 G_381 F_381 p_381) H → va_D A (zs_W (zx_W cy h X_381) cy hs ad_381 G_381 F_381 p_381) → va_S A s.heap H locs → lv_has ls 21 [(0, .ref (sa.1 3)), (1, .ref (h 0)), (2, .ref hs), (3, .int x3_381), (5, .int x5_381), (6, .int x6_381), (7, .int x7_381), (8, .ref (ad_381 q8_381)), (11, .ref (ad_381 q11_381)), (12, .int x12_381), (13, .ref (ad_381 q13_381)), (14, .ref (ad_381 q14_381)), (15, .int x15_381), (16, .ref (ad_381 q16_381)), (17, .int x17_381)] → (∀ (H : Heap) (locs : List Loc) (ls : Array Slot), zs_wf o.1 → zs_fs F_381 o.1 → q8_381 < (o.1).1 → q11_381 < (o.1).1 → q13_381 < (o.1).1 → q14_381 < (o.1).1 → q16_381 < (o.1).1 → va_P D vwCl (zs_W (zx_W cy h X_381) cy hs ad_381 G_381 F_381 o.1) H → va_D A (zs_W (zx_W cy h X_381) cy hs ad_381 G_381 F_381 o.1) → va_S A s.heap H locs → lv_has ls 21 [(0, .ref (sa.1 3)), (1, .ref (h 0)), (2, .ref hs), (3, .int x3_381), (5, .int x5_381), (6, .int x6_381), (7, .int x7_381), (8, .ref (ad_381 q8_381)), (11, .ref (ad_381 q11_381)), (12, .int o.2.1), (13, .ref (ad_381 q13_381)), (14, .ref (ad_381 q14_381)), (15, .int o.2.2), (16, .ref (ad_381 q16_381))] → W pg l e room_1 s m args below meth c H locs T_ TS_ Q (F0 m 530 ls [])) → W pg l e room_1 s m args below meth c H locs cu_381 su_381 Q (F0 m 381 ls []) := by
      intro h hs k
      induction k with
      | zero =>
          intro X_381 G_381 F_381 p_381 x3_381 x5_381 x6_381 x7_381 q8_381 q11_381 x12_381 q13_381 q14_381 x15_381 q16_381 x17_381 o hF
          rw [fLL_law_381] at hF
          cases hF
      | succ k ih =>
          intro X_381 G_381 F_381 p_381 x3_381 x5_381 x6_381 x7_381 q8_381 q11_381 x12_381 q13_381 q14_381 x15_381 q16_381 x17_381 o hF ad_381 cu_381 su_381 T_ TS_ hcu_ hsu_ hT_ hTS_ H locs ls hw_381 hf_381 fq8_381 fq11_381 fq13_381 fq14_381 fq16_381 hP hD hS hl kk0
          rw [fLL_law_381] at hF
          refine lv_iload hx hb dL_law_381 (lv_at hl 14 rfl) ?_
          refine lv_aload_n hx hb dL_law_383 rfl (lv_at hl 2 rfl) ?_
          refine va_get (D := D) (C := RX6) (T := TX6) (N := 12) hx hb hts hiX6 hown hK hP _ zs_at rfl 9 (by decide) hf15 (fun _ h9 => h9) rfl dL_law_384 ?_
          replace hF := bnd_some hF
          obtain ⟨x52, hz_52, hF⟩ := hF
          refine sx_len hx hb hK hP hz_52 dL_law_387 ?_
          refine lv_icmp_ge (tgt := 530) hx hb dL_law_388 (by decide) (fun c_53 => ?_) (fun c_53 => ?_)
          ·   replace hF := if_t hF c_53
              cases hF
              refine W.widen (k := T_) (n := TS_) (by omega) (by omega) ?_
              exact kk0 _ _ _ hw_381 hf_381 fq8_381 fq11_381 fq13_381 fq14_381 fq16_381 hP hD hS (lv_sub hl [0, 1, 2, 3, 4, 5, 6, 7, 8, 9, 10, 11, 12, 13] rfl)
          ·   replace hF := if_f hF c_53
              refine lv_aload_n hx hb dL_law_391 rfl (lv_at hl 1 rfl) ?_
              refine lv_iload hx hb dL_law_392 (lv_at hl 14 rfl) ?_
              refine lv_iconst (v := 1) hx hb dL_law_394 (by decide) ?_
              replace hF := bnd_some hF
              obtain ⟨z54, hz_54, hF⟩ := hF
              refine zw_xI (P2 := zx_W cy h X_381) (kV (As := [.int x17_381, .int 1]) ⟨hx, hb, hml, hown, hts⟩ (kzx_told l D cy sa h X_381 x17_381 1 z54 hz_54 _) (cwV 2 hts gL_law_X5_told rfl rfl rfl (by decide +kernel) ⟨Nat.le_of_ble_eq_true rfl, Nat.le_of_ble_eq_true rfl⟩) hK hP hD hS hA hG (List.range (zx_W cy h X_381).length) zw_map1 (zp_nd1 _) zx_at rfl rfl rfl hl.1 [] rfl (Nat.le_of_ble_eq_true rfl) dL_law_395 ⟨(by show _ ≤ (600130 : Nat); omega), (by show _ ≤ (7301080 : Nat); omega)⟩) hP hD hS hA zx_m (fun H locs hP hD hS => ?_)
              refine lv_istore (lv' := [(18, .int z54), (0, .ref (sa.1 3)), (1, .ref (h 0)), (2, .ref hs), (3, .int x3_381), (5, .int x5_381), (6, .int x6_381), (7, .int x7_381), (8, .ref (ad_381 q8_381)), (11, .ref (ad_381 q11_381)), (12, .int x12_381), (13, .ref (ad_381 q13_381)), (14, .ref (ad_381 q14_381)), (15, .int x15_381), (16, .ref (ad_381 q16_381)), (17, .int x17_381)]) hx hb dL_law_398 hl (by decide) rfl (fun ls hl => ?_)
              refine lv_aload_n hx hb dL_law_400 rfl (lv_at hl 2 rfl) ?_
              refine lv_iload hx hb dL_law_401 (lv_at hl 15 rfl) ?_
              refine lv_iconst (v := 2) hx hb dL_law_403 (by decide) ?_
              replace hF := bnd_some hF
              obtain ⟨z55, hz_55, hF⟩ := hF
              refine zw_xI (P2 := zx_W cy h X_381) (kV (As := [.int x17_381, .int 2]) ⟨hx, hb, hml, hown, hts⟩ (kzx_told l D cy sa h X_381 x17_381 2 z55 hz_55 _) (cwV 2 hts gL_law_X5_told rfl rfl rfl (by decide +kernel) ⟨Nat.le_of_ble_eq_true rfl, Nat.le_of_ble_eq_true rfl⟩) hK hP hD hS hA hG (List.range (zx_W cy h X_381).length) zw_map1 (zp_nd1 _) zx_at rfl rfl rfl hl.1 [] rfl (Nat.le_of_ble_eq_true rfl) dL_law_404 ⟨(by show _ ≤ (600130 : Nat); omega), (by show _ ≤ (7301080 : Nat); omega)⟩) hP hD hS hA zx_m (fun H locs hP hD hS => ?_)
              refine lv_istore (lv' := [(19, .int z55), (18, .int z54), (0, .ref (sa.1 3)), (1, .ref (h 0)), (2, .ref hs), (3, .int x3_381), (5, .int x5_381), (6, .int x6_381), (7, .int x7_381), (8, .ref (ad_381 q8_381)), (11, .ref (ad_381 q11_381)), (12, .int x12_381), (13, .ref (ad_381 q13_381)), (14, .ref (ad_381 q14_381)), (15, .int x15_381), (16, .ref (ad_381 q16_381)), (17, .int x17_381)]) hx hb dL_law_407 hl (by decide) rfl (fun ls hl => ?_)
              refine lv_iload hx hb dL_law_409 (lv_at hl 1 rfl) ?_
              replace hF := bnd_some hF
              obtain ⟨t56, hz_56, hF⟩ := hF
              have J56 : ∀ (H : Heap) (locs : List Loc) (ls : Array Slot), (zs_wf t56.1) → (zs_fs F_381 t56.1) → (q8_381 < (t56.1).1) → (q11_381 < (t56.1).1) → (q13_381 < (t56.1).1) → (q14_381 < (t56.1).1) → (q16_381 < (t56.1).1) → va_P D vwCl (zs_W (zx_W cy h X_381) cy hs ad_381 G_381 F_381 t56.1) H → va_D A (zs_W (zx_W cy h X_381) cy hs ad_381 G_381 F_381 t56.1) → va_S A s.heap H locs → lv_has ls 21 [(0, .ref (sa.1 3)), (1, .ref (h 0)), (2, .ref hs), (3, .int x3_381), (5, .int x5_381), (6, .int x6_381), (7, .int x7_381), (8, .ref (ad_381 q8_381)), (11, .ref (ad_381 q11_381)), (12, .int t56.2.1), (13, .ref (ad_381 q13_381)), (14, .ref (ad_381 q14_381)), (15, .int t56.2.2), (16, .ref (ad_381 q16_381)), (17, .int x17_381)] → W pg l e room_1 s m args below meth c H locs (cu_381) (su_381) Q (F0 m 524 ls []) := by
                  intro H locs ls hw56j hf56j fj56_0 fj56_1 fj56_2 fj56_3 fj56_4 hP hD hS hl
                  refine lv_iinc (v := x17_381 + 1) (lv' := [(17, .int (x17_381 + 1)), (0, .ref (sa.1 3)), (1, .ref (h 0)), (2, .ref hs), (3, .int x3_381), (5, .int x5_381), (6, .int x6_381), (7, .int x7_381), (8, .ref (ad_381 q8_381)), (11, .ref (ad_381 q11_381)), (12, .int t56.2.1), (13, .ref (ad_381 q13_381)), (14, .ref (ad_381 q14_381)), (15, .int t56.2.2), (16, .ref (ad_381 q16_381))]) hx hb dL_law_524 hl (k := 14) rfl rfl (by decide) rfl (fun ls hl => ?_)
                  refine lv_goto (tgt := 381) hx hb dL_law_527 (by decide) ?_
                  exact ih X_381 G_381 F_381 t56.1 x3_381 x5_381 x6_381 x7_381 q8_381 q11_381 t56.2.1 q13_381 q14_381 t56.2.2 q16_381 (x17_381 + 1) o hF ad_381 (cu_381) (su_381) T_ TS_ (by omega) (by omega) hT_ hTS_ _ _ _ hw56j hf56j fj56_0 fj56_1 fj56_2 fj56_3 fj56_4 hP hD hS (lv_sub hl [1, 2, 3, 4, 5, 6, 7, 8, 9, 10, 11, 12, 13, 14, 0] rfl) kk0
              replace hF := hz_56
              refine lv_if_lt (tgt := 524) hx hb dL_law_411 (by decide) (fun c_56 => ?_) (fun c_56 => ?_)
              ·   replace hF := if_t hF c_56
                  cases hF
                  exact J56 _ _ _ hw_381 hf_381 fq8_381 fq11_381 fq13_381 fq14_381 fq16_381 hP hD hS (lv_sub hl [2, 3, 4, 5, 6, 7, 8, 9, 10, 11, 12, 13, 14, 15, 16] rfl)
              ·   replace hF := if_f hF c_56
                  refine lv_iload hx hb dL_law_414 (lv_at hl 0 rfl) ?_
                  refine lv_if_lt (tgt := 524) hx hb dL_law_416 (by decide) (fun c_57 => ?_) (fun c_57 => ?_)
                  ·   replace hF := if_t hF c_57
                      cases hF
                      exact J56 _ _ _ hw_381 hf_381 fq8_381 fq11_381 fq13_381 fq14_381 fq16_381 hP hD hS (lv_sub hl [2, 3, 4, 5, 6, 7, 8, 9, 10, 11, 12, 13, 14, 15, 16] rfl)
                  ·   replace hF := if_f hF c_57
                      refine lv_aload hx hb dL_law_419 (lv_at hl 13 rfl) ?_
                      refine lv_iload hx hb dL_law_421 (lv_at hl 1 rfl) ?_
                      replace hF := bnd_some hF
                      obtain ⟨x58, hz_58, hF⟩ := hF
                      refine sx_ld hx hb hK hP hz_58 dL_law_423 ?_
                      refine lv_bipush (v := 30) hx hb dL_law_424 (by decide) ?_
                      refine lv_icmp_lt (tgt := 524) hx hb dL_law_426 (by decide) (fun c_59 => ?_) (fun c_59 => ?_)
                      ·   replace hF := if_t hF c_59
                          cases hF
                          exact J56 _ _ _ hw_381 hf_381 fq8_381 fq11_381 fq13_381 fq14_381 fq16_381 hP hD hS (lv_sub hl [2, 3, 4, 5, 6, 7, 8, 9, 10, 11, 12, 13, 14, 15, 16] rfl)
                      ·   replace hF := if_f hF c_59
                          refine lv_aload hx hb dL_law_429 (lv_at hl 12 rfl) ?_
                          refine lv_iload hx hb dL_law_431 (lv_at hl 1 rfl) ?_
                          replace hF := bnd_some hF
                          obtain ⟨x60, hz_60, hF⟩ := hF
                          refine sx_ld hx hb hK hP hz_60 dL_law_433 ?_
                          refine lv_if_ne (tgt := 440) hx hb dL_law_434 (by decide) (fun c_61 => ?_) (fun c_61 => ?_)
                          ·   replace hF := if_f hF c_61
                              refine lv_aload_n hx hb dL_law_440 rfl (lv_at hl 3 rfl) ?_
                              refine lv_iload hx hb dL_law_441 (lv_at hl 16 rfl) ?_
                              refine lv_iconst (v := 0) hx hb dL_law_443 (by decide) ?_
                              replace hF := bnd_some hF
                              obtain ⟨z62, hz_62, hF⟩ := hF
                              refine zw_xI (P2 := zx_W cy h X_381) (kV (As := [.int x17_381, .int 0]) ⟨hx, hb, hml, hown, hts⟩ (kzx_told l D cy sa h X_381 x17_381 0 z62 hz_62 _) (cwV 2 hts gL_law_X5_told rfl rfl rfl (by decide +kernel) ⟨Nat.le_of_ble_eq_true rfl, Nat.le_of_ble_eq_true rfl⟩) hK hP hD hS hA hG (List.range (zx_W cy h X_381).length) zw_map1 (zp_nd1 _) zx_at rfl rfl rfl hl.1 [] rfl (Nat.le_of_ble_eq_true rfl) dL_law_444 ⟨(by show _ ≤ (600130 : Nat); omega), (by show _ ≤ (7301080 : Nat); omega)⟩) hP hD hS hA zx_m (fun H locs hP hD hS => ?_)
                              refine lv_iload hx hb dL_law_447 (lv_at hl 11 rfl) ?_
                              refine lv_aload hx hb dL_law_449 (lv_at hl 12 rfl) ?_
                              refine lv_iload hx hb dL_law_451 (lv_at hl 1 rfl) ?_
                              replace hF := bnd_some hF
                              obtain ⟨x63, hz_63, hF⟩ := hF
                              refine sx_ld hx hb hK hP hz_63 dL_law_453 ?_
                              refine lv_aload_n hx hb dL_law_454 rfl (lv_at hl 3 rfl) ?_
                              refine lv_iload hx hb dL_law_455 (lv_at hl 0 rfl) ?_
                              refine lv_iconst (v := 1) hx hb dL_law_457 (by decide) ?_
                              replace hF := bnd_some hF
                              obtain ⟨z64, hz_64, hF⟩ := hF
                              refine zw_xI (P2 := zx_W cy h X_381) (kV (As := [.int z55, .int 1]) ⟨hx, hb, hml, hown, hts⟩ (kzx_mould l D cy sa h X_381 z55 1 z64 hz_64 _) (cwV 2 hts gL_law_X5_mould rfl rfl rfl (by decide +kernel) ⟨Nat.le_of_ble_eq_true rfl, Nat.le_of_ble_eq_true rfl⟩) hK hP hD hS hA hG (List.range (zx_W cy h X_381).length) zw_map1 (zp_nd1 _) zx_at rfl rfl rfl hl.1 [.int x63, .int x12_381, .int z62] rfl (Nat.le_of_ble_eq_true rfl) dL_law_458 ⟨(by show _ ≤ (600130 : Nat); omega), (by show _ ≤ (7301080 : Nat); omega)⟩) hP hD hS hA zx_m (fun H locs hP hD hS => ?_)
                              replace hF := ckZ_some hF
                              obtain ⟨hz_65, hF⟩ := hF
                              refine lv_idiv hx hb dL_law_461 hz_65 ?_
                              refine va_mmin hx hb (hml.trans hl.1.symm) hown (hts (.methodLink RL 124 Lib.Math.min.name) (by decide +kernel)) (hts (.static Lib.Math.min.name) (by decide +kernel)) (hts (.initialized "java/lang/Math") (by decide +kernel)) (hts (.code Lib.Math.min.name Lib.Math.min.code 2 (some .int)) (by decide +kernel)) (Nat.le_of_ble_eq_true rfl) (Nat.le_of_ble_eq_true rfl) (by show _ ≤ (600130 : Nat); omega) (by show _ ≤ (7301080 : Nat); omega) dL_law_462 ?_
                              refine va_mmin hx hb (hml.trans hl.1.symm) hown (hts (.methodLink RL 124 Lib.Math.min.name) (by decide +kernel)) (hts (.static Lib.Math.min.name) (by decide +kernel)) (hts (.initialized "java/lang/Math") (by decide +kernel)) (hts (.code Lib.Math.min.name Lib.Math.min.code 2 (some .int)) (by decide +kernel)) (Nat.le_of_ble_eq_true rfl) (Nat.le_of_ble_eq_true rfl) (by show _ ≤ (600130 : Nat); omega) (by show _ ≤ (7301080 : Nat); omega) dL_law_465 ?_
                              refine lv_istore (lv' := [(20, .int (if (if (x63 / z64) < x12_381 then (x63 / z64) else x12_381) < z62 then (if (x63 / z64) < x12_381 then (x63 / z64) else x12_381) else z62)), (19, .int z55), (18, .int z54), (0, .ref (sa.1 3)), (1, .ref (h 0)), (2, .ref hs), (3, .int x3_381), (5, .int x5_381), (6, .int x6_381), (7, .int x7_381), (8, .ref (ad_381 q8_381)), (11, .ref (ad_381 q11_381)), (12, .int x12_381), (13, .ref (ad_381 q13_381)), (14, .ref (ad_381 q14_381)), (15, .int x15_381), (16, .ref (ad_381 q16_381)), (17, .int x17_381)]) hx hb dL_law_468 hl (by decide) rfl (fun ls hl => ?_)
                              refine lv_iload hx hb dL_law_470 (lv_at hl 12 rfl) ?_
                              refine lv_iload hx hb dL_law_472 (lv_at hl 0 rfl) ?_
                              refine lv_isub hx hb dL_law_474 ?_
                              refine lv_istore (lv' := [(12, .int (x12_381 - (if (if (x63 / z64) < x12_381 then (x63 / z64) else x12_381) < z62 then (if (x63 / z64) < x12_381 then (x63 / z64) else x12_381) else z62))), (20, .int (if (if (x63 / z64) < x12_381 then (x63 / z64) else x12_381) < z62 then (if (x63 / z64) < x12_381 then (x63 / z64) else x12_381) else z62)), (19, .int z55), (18, .int z54), (0, .ref (sa.1 3)), (1, .ref (h 0)), (2, .ref hs), (3, .int x3_381), (5, .int x5_381), (6, .int x6_381), (7, .int x7_381), (8, .ref (ad_381 q8_381)), (11, .ref (ad_381 q11_381)), (13, .ref (ad_381 q13_381)), (14, .ref (ad_381 q14_381)), (15, .int x15_381), (16, .ref (ad_381 q16_381)), (17, .int x17_381)]) hx hb dL_law_475 hl (by decide) rfl (fun ls hl => ?_)
                              refine lv_aload hx hb dL_law_477 (lv_at hl 13 rfl) ?_
                              refine lv_iload hx hb dL_law_479 (lv_at hl 3 rfl) ?_
                              refine lv_dup2_11 hx hb dL_law_481 rfl rfl ?_
                              replace hF := bnd_some hF
                              obtain ⟨x66, hz_66, hF⟩ := hF
                              refine sx_ld hx hb hK hP hz_66 dL_law_482 ?_
                              refine lv_iload hx hb dL_law_483 (lv_at hl 1 rfl) ?_
                              refine lv_aload_n hx hb dL_law_485 rfl (lv_at hl 5 rfl) ?_
                              refine lv_iload hx hb dL_law_486 (lv_at hl 2 rfl) ?_
                              refine lv_iconst (v := 1) hx hb dL_law_488 (by decide) ?_
                              replace hF := bnd_some hF
                              obtain ⟨z67, hz_67, hF⟩ := hF
                              refine zw_xI (P2 := zx_W cy h X_381) (kV (As := [.int z55, .int 1]) ⟨hx, hb, hml, hown, hts⟩ (kzx_mould l D cy sa h X_381 z55 1 z67 hz_67 _) (cwV 2 hts gL_law_X5_mould rfl rfl rfl (by decide +kernel) ⟨Nat.le_of_ble_eq_true rfl, Nat.le_of_ble_eq_true rfl⟩) hK hP hD hS hA hG (List.range (zx_W cy h X_381).length) zw_map1 (zp_nd1 _) zx_at rfl rfl rfl hl.1 [.int (if (if (x63 / z64) < x12_381 then (x63 / z64) else x12_381) < z62 then (if (x63 / z64) < x12_381 then (x63 / z64) else x12_381) else z62), .int x66, .int z54, .ref (ad_381 q13_381)] rfl (Nat.le_of_ble_eq_true rfl) dL_law_489 ⟨(by show _ ≤ (600130 : Nat); omega), (by show _ ≤ (7301080 : Nat); omega)⟩) hP hD hS hA zx_m (fun H locs hP hD hS => ?_)
                              refine lv_imul hx hb dL_law_492 ?_
                              refine lv_isub hx hb dL_law_493 ?_
                              replace hF := bnd_some hF
                              obtain ⟨p68, hz_68, hF⟩ := hF
                              refine sx_st hx hb hK hP hD hS hz_68 dL_law_494 (fun H locs hP hD hS => ?_)
                              obtain ⟨hw68, hn68⟩ := zs_st_wf hw_381 hz_68
                              have lf68 : (p_381).1 ≤ p68.1 := Nat.le_of_eq hn68.symm
                              have hf_68 := zs_fs_le hf_381 lf68
                              have fr68_0 : q8_381 < (p68).1 := Nat.lt_of_lt_of_le fq8_381 lf68
                              have fr68_1 : q11_381 < (p68).1 := Nat.lt_of_lt_of_le fq11_381 lf68
                              have fr68_2 : q13_381 < (p68).1 := Nat.lt_of_lt_of_le fq13_381 lf68
                              have fr68_3 : q14_381 < (p68).1 := Nat.lt_of_lt_of_le fq14_381 lf68
                              have fr68_4 : q16_381 < (p68).1 := Nat.lt_of_lt_of_le fq16_381 lf68
                              replace hP : va_P D vwCl (zs_W (zx_W cy h X_381) cy hs ad_381 G_381 F_381 p68) H := hP
                              replace hD : va_D A (zs_W (zx_W cy h X_381) cy hs ad_381 G_381 F_381 p68) := hD
                              refine lv_iload hx hb dL_law_495 (lv_at hl 15 rfl) ?_
                              refine lv_iload hx hb dL_law_497 (lv_at hl 1 rfl) ?_
                              refine lv_iadd hx hb dL_law_499 ?_
                              refine lv_istore (lv' := [(15, .int (x15_381 + (if (if (x63 / z64) < x12_381 then (x63 / z64) else x12_381) < z62 then (if (x63 / z64) < x12_381 then (x63 / z64) else x12_381) else z62))), (12, .int (x12_381 - (if (if (x63 / z64) < x12_381 then (x63 / z64) else x12_381) < z62 then (if (x63 / z64) < x12_381 then (x63 / z64) else x12_381) else z62))), (20, .int (if (if (x63 / z64) < x12_381 then (x63 / z64) else x12_381) < z62 then (if (x63 / z64) < x12_381 then (x63 / z64) else x12_381) else z62)), (19, .int z55), (18, .int z54), (0, .ref (sa.1 3)), (1, .ref (h 0)), (2, .ref hs), (3, .int x3_381), (5, .int x5_381), (6, .int x6_381), (7, .int x7_381), (8, .ref (ad_381 q8_381)), (11, .ref (ad_381 q11_381)), (13, .ref (ad_381 q13_381)), (14, .ref (ad_381 q14_381)), (16, .ref (ad_381 q16_381)), (17, .int x17_381)]) hx hb dL_law_500 hl (by decide) rfl (fun ls hl => ?_)
                              refine lv_aload hx hb dL_law_502 (lv_at hl 16 rfl) ?_
                              refine lv_iload hx hb dL_law_504 (lv_at hl 3 rfl) ?_
                              refine lv_bipush (v := 50) hx hb dL_law_506 (by decide) ?_
                              refine lv_aload hx hb dL_law_508 (lv_at hl 16 rfl) ?_
                              refine lv_iload hx hb dL_law_510 (lv_at hl 3 rfl) ?_
                              replace hF := bnd_some hF
                              obtain ⟨x69, hz_69, hF⟩ := hF
                              refine sx_ld hx hb hK hP hz_69 dL_law_512 ?_
                              refine lv_iload hx hb dL_law_513 (lv_at hl 2 rfl) ?_
                              refine lv_iconst (v := 1) hx hb dL_law_515 (by decide) ?_
                              refine lv_iadd hx hb dL_law_516 ?_
                              refine lv_iconst (v := 2) hx hb dL_law_517 (by decide) ?_
                              refine lv_idiv hx hb dL_law_518 (by decide) ?_
                              refine lv_iadd hx hb dL_law_519 ?_
                              refine va_mmin hx hb (hml.trans hl.1.symm) hown (hts (.methodLink RL 124 Lib.Math.min.name) (by decide +kernel)) (hts (.static Lib.Math.min.name) (by decide +kernel)) (hts (.initialized "java/lang/Math") (by decide +kernel)) (hts (.code Lib.Math.min.name Lib.Math.min.code 2 (some .int)) (by decide +kernel)) (Nat.le_of_ble_eq_true rfl) (Nat.le_of_ble_eq_true rfl) (by show _ ≤ (600130 : Nat); omega) (by show _ ≤ (7301080 : Nat); omega) dL_law_520 ?_
                              replace hF := bnd_some hF
                              obtain ⟨p70, hz_70, hF⟩ := hF
                              refine sx_st hx hb hK hP hD hS hz_70 dL_law_523 (fun H locs hP hD hS => ?_)
                              obtain ⟨hw70, hn70⟩ := zs_st_wf hw68 hz_70
                              have lf70 : (p68).1 ≤ p70.1 := Nat.le_of_eq hn70.symm
                              have hf_70 := zs_fs_le hf_68 lf70
                              have fr70_0 : q8_381 < (p70).1 := Nat.lt_of_lt_of_le fr68_0 lf70
                              have fr70_1 : q11_381 < (p70).1 := Nat.lt_of_lt_of_le fr68_1 lf70
                              have fr70_2 : q13_381 < (p70).1 := Nat.lt_of_lt_of_le fr68_2 lf70
                              have fr70_3 : q14_381 < (p70).1 := Nat.lt_of_lt_of_le fr68_3 lf70
                              have fr70_4 : q16_381 < (p70).1 := Nat.lt_of_lt_of_le fr68_4 lf70
                              replace hP : va_P D vwCl (zs_W (zx_W cy h X_381) cy hs ad_381 G_381 F_381 p70) H := hP
                              replace hD : va_D A (zs_W (zx_W cy h X_381) cy hs ad_381 G_381 F_381 p70) := hD
                              cases hF
                              exact J56 _ _ _ hw70 hf_70 fr70_0 fr70_1 fr70_2 fr70_3 fr70_4 hP hD hS (lv_sub hl [5, 6, 7, 8, 9, 10, 11, 12, 13, 1, 14, 15, 0, 16, 17] rfl)
                          ·   replace hF := if_t hF c_61
                              refine lv_goto (tgt := 524) hx hb dL_law_437 (by decide) ?_
                              cases hF
                              exact J56 _ _ _ hw_381 hf_381 fq8_381 fq11_381 fq13_381 fq14_381 fq16_381 hP hD hS (lv_sub hl [2, 3, 4, 5, 6, 7, 8, 9, 10, 11, 12, 13, 14, 15, 16] rfl)
  have L554 : ∀ (h : Nat → Nat) (hs : Nat) (k : Nat) (X_554 : XT) (G_554 : FN) (F_554 : Nat → Nat) (p_554 : zs_H) (x3_554 : Int32) (x5_554 : Int32) (x6_554 : Int32) (x7_554 : Int32) (q8_554 : Nat) (q11_554 : Nat) (x12_554 : Int32) (q13_554 : Nat) (q14_554 : Nat) (q16_554 : Nat) (x17_554 : Int32) (o : Unit), fLL_law_554 X_554 p_554 q11_554 k x17_554 = some o → ∀ (ad_554 : Nat → Nat) (cu_554 su_554 T_ TS_ : Nat), cu_554 + 0 * k ≤ T_ → su_554 + 0 * k ≤ TS_ → T_ ≤ 8091 → TS_ ≤ 659622 → ∀ (H : Heap) (locs : List Loc) (ls : Array Slot), zs_wf p_554 → zs_fs F_554 p_554 → q8_554 < (p_554).1 → q11_554 < (p_554).1 → q13_554 < (p_554).1 → q14_554 < (p_554).1 → q16_554 < (p_554).1 → va_P D vwCl (zs_W (zx_W cy h X_554) cy hs ad_554 G_554 F_554 p_554) H → va_D A (zs_W (zx_W cy h X_554) cy hs ad_554 G_554 F_554 p_554) → va_S A s.heap H locs → lv_has ls 21 [(0, .ref (sa.1 3)), (1, .ref (h 0)), (2, .ref hs), (3, .int x3_554), (5, .int x5_554), (6, .int x6_554), (7, .int x7_554), (8, .ref (ad_554 q8_554)), (11, .ref (ad_554 q11_554)), (12, .int x12_554), (13, .ref (ad_554 q13_554)), (14, .ref (ad_554 q14_554)), (16, .ref (ad_554 q16_554)), (17, .int x17_554)] → (∀ (H : Heap) (locs : List Loc) (ls : Array Slot), zs_wf p_554 → zs_fs F_554 p_554 → q8_554 < (p_554).1 → q13_554 < (p_554).1 → q14_554 < (p_554).1 → q16_554 < (p_554).1 → va_P D vwCl (zs_W (zx_W cy h X_554) cy hs ad_554 G_554 F_554 p_554) H → va_D A (zs_W (zx_W cy h X_554) cy hs ad_554 G_554 F_554 p_554) → va_S A s.heap H locs → lv_has ls 21 [(0, .ref (sa.1 3)), (1, .ref (h 0)), (2, .ref hs), (3, .int x3_554), (5, .int x5_554), (6, .int x6_554), (7, .int x7_554), (8, .ref (ad_554 q8_554)), (12, .int x12_554), (13, .ref (ad_554 q13_554)), (14, .ref (ad_554 q14_554)), (16, .ref (ad_554 q16_554))] → W pg l e room_1 s m args below meth c H locs T_ TS_ Q (F0 m 583 ls [])) → W pg l e room_1 s m args below meth c H locs cu_554 su_554 Q (F0 m 554 ls []) := by
      intro h hs k
      induction k with
      | zero =>
          intro X_554 G_554 F_554 p_554 x3_554 x5_554 x6_554 x7_554 q8_554 q11_554 x12_554 q13_554 q14_554 q16_554 x17_554 o hF
          rw [fLL_law_554] at hF
          cases hF
      | succ k ih =>
          intro X_554 G_554 F_554 p_554 x3_554 x5_554 x6_554 x7_554 q8_554 q11_554 x12_554 q13_554 q14_554 q16_554 x17_554 o hF ad_554 cu_554 su_554 T_ TS_ hcu_ hsu_ hT_ hTS_ H locs ls hw_554 hf_554 fq8_554 fq11_554 fq13_554 fq14_554 fq16_554 hP hD hS hl kk0
          rw [fLL_law_554] at hF
          refine lv_iload hx hb dL_law_554 (lv_at hl 13 rfl) ?_
          refine lv_bipush (v := 12) hx hb dL_law_556 (by decide) ?_
          refine lv_icmp_ge (tgt := 583) hx hb dL_law_558 (by decide) (fun c_76 => ?_) (fun c_76 => ?_)
          ·   replace hF := if_t hF c_76
              cases hF
              refine W.widen (k := T_) (n := TS_) (by omega) (by omega) ?_
              exact kk0 _ _ _ hw_554 hf_554 fq8_554 fq13_554 fq14_554 fq16_554 hP hD hS (lv_sub hl [0, 1, 2, 3, 4, 5, 6, 7, 9, 10, 11, 12] rfl)
          ·   replace hF := if_f hF c_76
              refine lv_aload_n hx hb dL_law_561 rfl (lv_at hl 1 rfl) ?_
              refine lv_iload hx hb dL_law_562 (lv_at hl 13 rfl) ?_
              replace hF := bnd_some hF
              obtain ⟨z77, hz_77, hF⟩ := hF
              refine zw_xI (P2 := zx_W cy h X_554) (kV (As := [.int x17_554]) ⟨hx, hb, hml, hown, hts⟩ (kzx_count l D cy sa h X_554 x17_554 z77 hz_77 _) (cwV 1 hts gL_law_X5_count rfl rfl rfl (by decide +kernel) ⟨Nat.le_of_ble_eq_true rfl, Nat.le_of_ble_eq_true rfl⟩) hK hP hD hS hA hG (List.range (zx_W cy h X_554).length) zw_map1 (zp_nd1 _) zx_at rfl rfl rfl hl.1 [] rfl (Nat.le_of_ble_eq_true rfl) dL_law_564 ⟨(by show _ ≤ (600130 : Nat); omega), (by show _ ≤ (7301080 : Nat); omega)⟩) hP hD hS hA zx_m (fun H locs hP hD hS => ?_)
              refine lv_aload hx hb dL_law_567 (lv_at hl 8 rfl) ?_
              refine lv_iload hx hb dL_law_569 (lv_at hl 13 rfl) ?_
              replace hF := bnd_some hF
              obtain ⟨x78, hz_78, hF⟩ := hF
              refine sx_ld hx hb hK hP hz_78 dL_law_571 ?_
              refine lv_icmp_eq (tgt := 577) hx hb dL_law_572 (by decide) (fun c_79 => ?_) (fun c_79 => ?_)
              ·   replace hF := if_t hF c_79
                  refine lv_iinc (v := x17_554 + 1) (lv' := [(17, .int (x17_554 + 1)), (0, .ref (sa.1 3)), (1, .ref (h 0)), (2, .ref hs), (3, .int x3_554), (5, .int x5_554), (6, .int x6_554), (7, .int x7_554), (8, .ref (ad_554 q8_554)), (11, .ref (ad_554 q11_554)), (12, .int x12_554), (13, .ref (ad_554 q13_554)), (14, .ref (ad_554 q14_554)), (16, .ref (ad_554 q16_554))]) hx hb dL_law_577 hl (k := 13) rfl rfl (by decide) rfl (fun ls hl => ?_)
                  refine lv_goto (tgt := 554) hx hb dL_law_580 (by decide) ?_
                  exact ih X_554 G_554 F_554 p_554 x3_554 x5_554 x6_554 x7_554 q8_554 q11_554 x12_554 q13_554 q14_554 q16_554 (x17_554 + 1) o hF ad_554 (cu_554) (su_554) T_ TS_ (by omega) (by omega) hT_ hTS_ _ _ _ hw_554 hf_554 fq8_554 fq11_554 fq13_554 fq14_554 fq16_554 hP hD hS (lv_sub hl [1, 2, 3, 4, 5, 6, 7, 8, 9, 10, 11, 12, 13, 0] rfl) kk0
              ·   replace hF := if_f hF c_79
                  cases hF
  have L586 : ∀ (h : Nat → Nat) (hs : Nat) (k : Nat) (X_586 : XT) (G_586 : FN) (F_586 : Nat → Nat) (p_586 : zs_H) (x3_586 : Int32) (x5_586 : Int32) (x6_586 : Int32) (x7_586 : Int32) (q8_586 : Nat) (x12_586 : Int32) (q13_586 : Nat) (q14_586 : Nat) (q16_586 : Nat) (x17_586 : Int32) (o : Unit), fLL_law_586 X_586 p_586 q8_586 q13_586 q14_586 k x17_586 = some o → ∀ (ad_586 : Nat → Nat) (cu_586 su_586 T_ TS_ : Nat), cu_586 + 0 * k ≤ T_ → su_586 + 0 * k ≤ TS_ → T_ ≤ 8091 → TS_ ≤ 659622 → ∀ (H : Heap) (locs : List Loc) (ls : Array Slot), zs_wf p_586 → zs_fs F_586 p_586 → q8_586 < (p_586).1 → q13_586 < (p_586).1 → q14_586 < (p_586).1 → q16_586 < (p_586).1 → va_P D vwCl (zs_W (zx_W cy h X_586) cy hs ad_586 G_586 F_586 p_586) H → va_D A (zs_W (zx_W cy h X_586) cy hs ad_586 G_586 F_586 p_586) → va_S A s.heap H locs → lv_has ls 21 [(0, .ref (sa.1 3)), (1, .ref (h 0)), (2, .ref hs), (3, .int x3_586), (5, .int x5_586), (6, .int x6_586), (7, .int x7_586), (8, .ref (ad_586 q8_586)), (12, .int x12_586), (13, .ref (ad_586 q13_586)), (14, .ref (ad_586 q14_586)), (16, .ref (ad_586 q16_586)), (17, .int x17_586)] → (∀ (H : Heap) (locs : List Loc) (ls : Array Slot), zs_wf p_586 → zs_fs F_586 p_586 → q8_586 < (p_586).1 → q16_586 < (p_586).1 → va_P D vwCl (zs_W (zx_W cy h X_586) cy hs ad_586 G_586 F_586 p_586) H → va_D A (zs_W (zx_W cy h X_586) cy hs ad_586 G_586 F_586 p_586) → va_S A s.heap H locs → lv_has ls 21 [(0, .ref (sa.1 3)), (1, .ref (h 0)), (2, .ref hs), (3, .int x3_586), (5, .int x5_586), (6, .int x6_586), (7, .int x7_586), (8, .ref (ad_586 q8_586)), (12, .int x12_586), (16, .ref (ad_586 q16_586))] → W pg l e room_1 s m args below meth c H locs T_ TS_ Q (F0 m 671 ls [])) → W pg l e room_1 s m args below meth c H locs cu_586 su_586 Q (F0 m 586 ls []) := by
      intro h hs k
      induction k with
      | zero =>
          intro X_586 G_586 F_586 p_586 x3_586 x5_586 x6_586 x7_586 q8_586 x12_586 q13_586 q14_586 q16_586 x17_586 o hF
          rw [fLL_law_586] at hF
          cases hF
      | succ k ih =>
          intro X_586 G_586 F_586 p_586 x3_586 x5_586 x6_586 x7_586 q8_586 x12_586 q13_586 q14_586 q16_586 x17_586 o hF ad_586 cu_586 su_586 T_ TS_ hcu_ hsu_ hT_ hTS_ H locs ls hw_586 hf_586 fq8_586 fq13_586 fq14_586 fq16_586 hP hD hS hl kk0
          rw [fLL_law_586] at hF
          refine lv_iload hx hb dL_law_586 (lv_at hl 12 rfl) ?_
          refine lv_iconst (v := 4) hx hb dL_law_588 (by decide) ?_
          refine lv_icmp_ge (tgt := 671) hx hb dL_law_589 (by decide) (fun c_81 => ?_) (fun c_81 => ?_)
          ·   replace hF := if_t hF c_81
              cases hF
              refine W.widen (k := T_) (n := TS_) (by omega) (by omega) ?_
              exact kk0 _ _ _ hw_586 hf_586 fq8_586 fq16_586 hP hD hS (lv_sub hl [0, 1, 2, 3, 4, 5, 6, 7, 8, 11] rfl)
          ·   replace hF := if_f hF c_81
              refine lv_aload_n hx hb dL_law_592 rfl (lv_at hl 1 rfl) ?_
              refine lv_iload hx hb dL_law_593 (lv_at hl 12 rfl) ?_
              refine lv_iconst (v := 0) hx hb dL_law_595 (by decide) ?_
              replace hF := bnd_some hF
              obtain ⟨z82, hz_82, hF⟩ := hF
              refine zw_xI (P2 := zx_W cy h X_586) (kV (As := [.int x17_586, .int 0]) ⟨hx, hb, hml, hown, hts⟩ (kzx_about l D cy sa h X_586 x17_586 0 z82 hz_82 _) (cwV 2 hts gL_law_X5_about rfl rfl rfl (by decide +kernel) ⟨Nat.le_of_ble_eq_true rfl, Nat.le_of_ble_eq_true rfl⟩) hK hP hD hS hA hG (List.range (zx_W cy h X_586).length) zw_map1 (zp_nd1 _) zx_at rfl rfl rfl hl.1 [] rfl (Nat.le_of_ble_eq_true rfl) dL_law_596 ⟨(by show _ ≤ (600130 : Nat); omega), (by show _ ≤ (7301080 : Nat); omega)⟩) hP hD hS hA zx_m (fun H locs hP hD hS => ?_)
              refine lv_aload hx hb dL_law_599 (lv_at hl 9 rfl) ?_
              refine lv_iload hx hb dL_law_601 (lv_at hl 12 rfl) ?_
              replace hF := bnd_some hF
              obtain ⟨x83, hz_83, hF⟩ := hF
              refine sx_ld hx hb hK hP hz_83 dL_law_603 ?_
              refine lv_icmp_ne (tgt := 663) hx hb dL_law_604 (by decide) (fun c_84 => ?_) (fun c_84 => ?_)
              ·   replace hF := if_f hF c_84
                  cases hF
              ·   replace hF := if_t hF c_84
                  refine lv_aload_n hx hb dL_law_607 rfl (lv_at hl 1 rfl) ?_
                  refine lv_iload hx hb dL_law_608 (lv_at hl 12 rfl) ?_
                  refine lv_iconst (v := 1) hx hb dL_law_610 (by decide) ?_
                  replace hF := bnd_some hF
                  obtain ⟨z85, hz_85, hF⟩ := hF
                  refine zw_xI (P2 := zx_W cy h X_586) (kV (As := [.int x17_586, .int 1]) ⟨hx, hb, hml, hown, hts⟩ (kzx_about l D cy sa h X_586 x17_586 1 z85 hz_85 _) (cwV 2 hts gL_law_X5_about rfl rfl rfl (by decide +kernel) ⟨Nat.le_of_ble_eq_true rfl, Nat.le_of_ble_eq_true rfl⟩) hK hP hD hS hA hG (List.range (zx_W cy h X_586).length) zw_map1 (zp_nd1 _) zx_at rfl rfl rfl hl.1 [] rfl (Nat.le_of_ble_eq_true rfl) dL_law_611 ⟨(by show _ ≤ (600130 : Nat); omega), (by show _ ≤ (7301080 : Nat); omega)⟩) hP hD hS hA zx_m (fun H locs hP hD hS => ?_)
                  refine lv_aload hx hb dL_law_614 (lv_at hl 9 rfl) ?_
                  refine lv_iload hx hb dL_law_616 (lv_at hl 12 rfl) ?_
                  replace hF := bnd_some hF
                  obtain ⟨x86, hz_86, hF⟩ := hF
                  refine sx_ld hx hb hK hP hz_86 dL_law_618 ?_
                  replace hF := bnd_some hF
                  obtain ⟨t87, hz_87, hF⟩ := hF
                  have J87 : ∀ (H : Heap) (locs : List Loc) (ls : Array Slot), va_P D vwCl (zs_W (zx_W cy h X_586) cy hs ad_586 G_586 F_586 p_586) H → va_D A (zs_W (zx_W cy h X_586) cy hs ad_586 G_586 F_586 p_586) → va_S A s.heap H locs → lv_has ls 21 [(0, .ref (sa.1 3)), (1, .ref (h 0)), (2, .ref hs), (3, .int x3_586), (5, .int x5_586), (6, .int x6_586), (7, .int x7_586), (8, .ref (ad_586 q8_586)), (12, .int x12_586), (13, .ref (ad_586 q13_586)), (14, .ref (ad_586 q14_586)), (16, .ref (ad_586 q16_586)), (17, .int x17_586)] → W pg l e room_1 s m args below meth c H locs (cu_586) (su_586) Q (F0 m 631 ls [.int t87, .int z85]) := by
                      intro H locs ls hP hD hS hl
                      refine lv_icmp_ne (tgt := 663) hx hb dL_law_631 (by decide) (fun c_89 => ?_) (fun c_89 => ?_)
                      ·   replace hF := if_f hF c_89
                          cases hF
                      ·   replace hF := if_t hF c_89
                          refine lv_aload_n hx hb dL_law_634 rfl (lv_at hl 1 rfl) ?_
                          refine lv_iload hx hb dL_law_635 (lv_at hl 12 rfl) ?_
                          refine lv_iconst (v := 2) hx hb dL_law_637 (by decide) ?_
                          replace hF := bnd_some hF
                          obtain ⟨z90, hz_90, hF⟩ := hF
                          refine zw_xI (P2 := zx_W cy h X_586) (kV (As := [.int x17_586, .int 2]) ⟨hx, hb, hml, hown, hts⟩ (kzx_about l D cy sa h X_586 x17_586 2 z90 hz_90 _) (cwV 2 hts gL_law_X5_about rfl rfl rfl (by decide +kernel) ⟨Nat.le_of_ble_eq_true rfl, Nat.le_of_ble_eq_true rfl⟩) hK hP hD hS hA hG (List.range (zx_W cy h X_586).length) zw_map1 (zp_nd1 _) zx_at rfl rfl rfl hl.1 [] rfl (Nat.le_of_ble_eq_true rfl) dL_law_638 ⟨(by show _ ≤ (600130 : Nat); omega), (by show _ ≤ (7301080 : Nat); omega)⟩) hP hD hS hA zx_m (fun H locs hP hD hS => ?_)
                          refine lv_aload hx hb dL_law_641 (lv_at hl 9 rfl) ?_
                          refine lv_iload hx hb dL_law_643 (lv_at hl 12 rfl) ?_
                          replace hF := bnd_some hF
                          obtain ⟨x91, hz_91, hF⟩ := hF
                          refine sx_ld hx hb hK hP hz_91 dL_law_645 ?_
                          replace hF := bnd_some hF
                          obtain ⟨t92, hz_92, hF⟩ := hF
                          have J92 : ∀ (H : Heap) (locs : List Loc) (ls : Array Slot), va_P D vwCl (zs_W (zx_W cy h X_586) cy hs ad_586 G_586 F_586 p_586) H → va_D A (zs_W (zx_W cy h X_586) cy hs ad_586 G_586 F_586 p_586) → va_S A s.heap H locs → lv_has ls 21 [(0, .ref (sa.1 3)), (1, .ref (h 0)), (2, .ref hs), (3, .int x3_586), (5, .int x5_586), (6, .int x6_586), (7, .int x7_586), (8, .ref (ad_586 q8_586)), (12, .int x12_586), (13, .ref (ad_586 q13_586)), (14, .ref (ad_586 q14_586)), (16, .ref (ad_586 q16_586)), (17, .int x17_586)] → W pg l e room_1 s m args below meth c H locs (cu_586) (su_586) Q (F0 m 660 ls [.int t92, .int z90]) := by
                              intro H locs ls hP hD hS hl
                              refine lv_icmp_eq (tgt := 665) hx hb dL_law_660 (by decide) (fun c_95 => ?_) (fun c_95 => ?_)
                              ·   replace hF := if_t hF c_95
                                  refine lv_iinc (v := x17_586 + 1) (lv' := [(17, .int (x17_586 + 1)), (0, .ref (sa.1 3)), (1, .ref (h 0)), (2, .ref hs), (3, .int x3_586), (5, .int x5_586), (6, .int x6_586), (7, .int x7_586), (8, .ref (ad_586 q8_586)), (12, .int x12_586), (13, .ref (ad_586 q13_586)), (14, .ref (ad_586 q14_586)), (16, .ref (ad_586 q16_586))]) hx hb dL_law_665 hl (k := 12) rfl rfl (by decide) rfl (fun ls hl => ?_)
                                  refine lv_goto (tgt := 586) hx hb dL_law_668 (by decide) ?_
                                  exact ih X_586 G_586 F_586 p_586 x3_586 x5_586 x6_586 x7_586 q8_586 x12_586 q13_586 q14_586 q16_586 (x17_586 + 1) o hF ad_586 (cu_586) (su_586) T_ TS_ (by omega) (by omega) hT_ hTS_ _ _ _ hw_586 hf_586 fq8_586 fq13_586 fq14_586 fq16_586 hP hD hS (lv_sub hl [1, 2, 3, 4, 5, 6, 7, 8, 9, 10, 11, 12, 0] rfl) kk0
                              ·   replace hF := if_f hF c_95
                                  cases hF
                          replace hF := hz_92
                          refine lv_if_ne (tgt := 653) hx hb dL_law_646 (by decide) (fun c_92 => ?_) (fun c_92 => ?_)
                          ·   replace hF := if_f hF c_92
                              refine lv_aload hx hb dL_law_653 (lv_at hl 7 rfl) ?_
                              refine lv_iload hx hb dL_law_655 (lv_at hl 12 rfl) ?_
                              replace hF := bnd_some hF
                              obtain ⟨x93, hz_93, hF⟩ := hF
                              refine sx_ldr hx hb hK hP hz_93 dL_law_657 ?_
                              have fx93 : x93 < (p_586).1 := zs_ldr_lt hw_586 hz_93
                              refine lv_iconst (v := 2) hx hb dL_law_658 (by decide) ?_
                              replace hF := bnd_some hF
                              obtain ⟨x94, hz_94, hF⟩ := hF
                              refine sx_ld hx hb hK hP hz_94 dL_law_659 ?_
                              cases hF
                              exact J92 _ _ _ hP hD hS (lv_sub hl [0, 1, 2, 3, 4, 5, 6, 7, 8, 9, 10, 11, 12] rfl)
                          ·   replace hF := if_t hF c_92
                              refine lv_iconst (v := -1) hx hb dL_law_649 (by decide) ?_
                              refine lv_goto (tgt := 660) hx hb dL_law_650 (by decide) ?_
                              cases hF
                              exact J92 _ _ _ hP hD hS (lv_sub hl [0, 1, 2, 3, 4, 5, 6, 7, 8, 9, 10, 11, 12] rfl)
                  replace hF := hz_87
                  refine lv_if_ne (tgt := 626) hx hb dL_law_619 (by decide) (fun c_87 => ?_) (fun c_87 => ?_)
                  ·   replace hF := if_f hF c_87
                      refine lv_aload hx hb dL_law_626 (lv_at hl 10 rfl) ?_
                      refine lv_iload hx hb dL_law_628 (lv_at hl 12 rfl) ?_
                      replace hF := bnd_some hF
                      obtain ⟨x88, hz_88, hF⟩ := hF
                      refine sx_ld hx hb hK hP hz_88 dL_law_630 ?_
                      cases hF
                      exact J87 _ _ _ hP hD hS (lv_sub hl [0, 1, 2, 3, 4, 5, 6, 7, 8, 9, 10, 11, 12] rfl)
                  ·   replace hF := if_t hF c_87
                      refine lv_iconst (v := 0) hx hb dL_law_622 (by decide) ?_
                      refine lv_goto (tgt := 631) hx hb dL_law_623 (by decide) ?_
                      cases hF
                      exact J87 _ _ _ hP hD hS (lv_sub hl [0, 1, 2, 3, 4, 5, 6, 7, 8, 9, 10, 11, 12] rfl)
  have L674 : ∀ (h : Nat → Nat) (hs : Nat) (k : Nat) (X_674 : XT) (G_674 : FN) (F_674 : Nat → Nat) (p_674 : zs_H) (x3_674 : Int32) (x5_674 : Int32) (x6_674 : Int32) (x7_674 : Int32) (q8_674 : Nat) (x12_674 : Int32) (q16_674 : Nat) (x17_674 : Int32) (o : Unit), fLL_law_674 X_674 p_674 q16_674 k x17_674 = some o → ∀ (ad_674 : Nat → Nat) (cu_674 su_674 T_ TS_ : Nat), cu_674 + 0 * k ≤ T_ → su_674 + 0 * k ≤ TS_ → T_ ≤ 8091 → TS_ ≤ 659622 → ∀ (H : Heap) (locs : List Loc) (ls : Array Slot), zs_wf p_674 → zs_fs F_674 p_674 → q8_674 < (p_674).1 → q16_674 < (p_674).1 → va_P D vwCl (zs_W (zx_W cy h X_674) cy hs ad_674 G_674 F_674 p_674) H → va_D A (zs_W (zx_W cy h X_674) cy hs ad_674 G_674 F_674 p_674) → va_S A s.heap H locs → lv_has ls 21 [(0, .ref (sa.1 3)), (1, .ref (h 0)), (2, .ref hs), (3, .int x3_674), (5, .int x5_674), (6, .int x6_674), (7, .int x7_674), (8, .ref (ad_674 q8_674)), (12, .int x12_674), (16, .ref (ad_674 q16_674)), (17, .int x17_674)] → (∀ (H : Heap) (locs : List Loc) (ls : Array Slot), zs_wf p_674 → zs_fs F_674 p_674 → q8_674 < (p_674).1 → va_P D vwCl (zs_W (zx_W cy h X_674) cy hs ad_674 G_674 F_674 p_674) H → va_D A (zs_W (zx_W cy h X_674) cy hs ad_674 G_674 F_674 p_674) → va_S A s.heap H locs → lv_has ls 21 [(0, .ref (sa.1 3)), (1, .ref (h 0)), (2, .ref hs), (3, .int x3_674), (5, .int x5_674), (6, .int x6_674), (7, .int x7_674), (8, .ref (ad_674 q8_674)), (12, .int x12_674)] → W pg l e room_1 s m args below meth c H locs T_ TS_ Q (F0 m 705 ls [])) → W pg l e room_1 s m args below meth c H locs cu_674 su_674 Q (F0 m 674 ls []) := by
      intro h hs k
      induction k with
      | zero =>
          intro X_674 G_674 F_674 p_674 x3_674 x5_674 x6_674 x7_674 q8_674 x12_674 q16_674 x17_674 o hF
          rw [fLL_law_674] at hF
          cases hF
      | succ k ih =>
          intro X_674 G_674 F_674 p_674 x3_674 x5_674 x6_674 x7_674 q8_674 x12_674 q16_674 x17_674 o hF ad_674 cu_674 su_674 T_ TS_ hcu_ hsu_ hT_ hTS_ H locs ls hw_674 hf_674 fq8_674 fq16_674 hP hD hS hl kk0
          rw [fLL_law_674] at hF
          refine lv_iload hx hb dL_law_674 (lv_at hl 10 rfl) ?_
          refine lv_aload hx hb dL_law_676 (lv_at hl 9 rfl) ?_
          replace hF := bnd_some hF
          obtain ⟨x97, hz_97, hF⟩ := hF
          refine sx_len hx hb hK hP hz_97 dL_law_678 ?_
          refine lv_icmp_ge (tgt := 705) hx hb dL_law_679 (by decide) (fun c_98 => ?_) (fun c_98 => ?_)
          ·   replace hF := if_t hF c_98
              cases hF
              refine W.widen (k := T_) (n := TS_) (by omega) (by omega) ?_
              exact kk0 _ _ _ hw_674 hf_674 fq8_674 hP hD hS (lv_sub hl [0, 1, 2, 3, 4, 5, 6, 7, 8] rfl)
          ·   replace hF := if_f hF c_98
              refine lv_aload_n hx hb dL_law_682 rfl (lv_at hl 1 rfl) ?_
              refine lv_iload hx hb dL_law_683 (lv_at hl 10 rfl) ?_
              refine lv_iconst (v := 2) hx hb dL_law_685 (by decide) ?_
              replace hF := bnd_some hF
              obtain ⟨z99, hz_99, hF⟩ := hF
              refine zw_xI (P2 := zx_W cy h X_674) (kV (As := [.int x17_674, .int 2]) ⟨hx, hb, hml, hown, hts⟩ (kzx_mould l D cy sa h X_674 x17_674 2 z99 hz_99 _) (cwV 2 hts gL_law_X5_mould rfl rfl rfl (by decide +kernel) ⟨Nat.le_of_ble_eq_true rfl, Nat.le_of_ble_eq_true rfl⟩) hK hP hD hS hA hG (List.range (zx_W cy h X_674).length) zw_map1 (zp_nd1 _) zx_at rfl rfl rfl hl.1 [] rfl (Nat.le_of_ble_eq_true rfl) dL_law_686 ⟨(by show _ ≤ (600130 : Nat); omega), (by show _ ≤ (7301080 : Nat); omega)⟩) hP hD hS hA zx_m (fun H locs hP hD hS => ?_)
              refine lv_aload hx hb dL_law_689 (lv_at hl 9 rfl) ?_
              refine lv_iload hx hb dL_law_691 (lv_at hl 10 rfl) ?_
              replace hF := bnd_some hF
              obtain ⟨x100, hz_100, hF⟩ := hF
              refine sx_ld hx hb hK hP hz_100 dL_law_693 ?_
              refine lv_icmp_eq (tgt := 699) hx hb dL_law_694 (by decide) (fun c_101 => ?_) (fun c_101 => ?_)
              ·   replace hF := if_t hF c_101
                  refine lv_iinc (v := x17_674 + 1) (lv' := [(17, .int (x17_674 + 1)), (0, .ref (sa.1 3)), (1, .ref (h 0)), (2, .ref hs), (3, .int x3_674), (5, .int x5_674), (6, .int x6_674), (7, .int x7_674), (8, .ref (ad_674 q8_674)), (12, .int x12_674), (16, .ref (ad_674 q16_674))]) hx hb dL_law_699 hl (k := 10) rfl rfl (by decide) rfl (fun ls hl => ?_)
                  refine lv_goto (tgt := 674) hx hb dL_law_702 (by decide) ?_
                  exact ih X_674 G_674 F_674 p_674 x3_674 x5_674 x6_674 x7_674 q8_674 x12_674 q16_674 (x17_674 + 1) o hF ad_674 (cu_674) (su_674) T_ TS_ (by omega) (by omega) hT_ hTS_ _ _ _ hw_674 hf_674 fq8_674 fq16_674 hP hD hS (lv_sub hl [1, 2, 3, 4, 5, 6, 7, 8, 9, 10, 0] rfl) kk0
              ·   replace hF := if_f hF c_101
                  cases hF
  have L22 : ∀ (h : Nat → Nat) (hs : Nat) (k : Nat) (X_22 : XT) (G_22 : FN) (F_22 : Nat → Nat) (p_22 : zs_H) (x3_22 : Int32) (o : XT × FN × (Nat → Nat) × zs_H), fLL_law_22 sa k X_22 G_22 F_22 p_22 x3_22 = some o → ∀ (ad_22 : Nat → Nat) (cu_22 su_22 T_ TS_ : Nat), cu_22 + 118 * k ≤ T_ → su_22 + 9268 * k ≤ TS_ → T_ ≤ 8091 → TS_ ≤ 659622 → ∀ (H : Heap) (locs : List Loc) (ls : Array Slot), zs_wf p_22 → zs_fs F_22 p_22 → va_P D vwCl (zs_W (zx_W cy h X_22) cy hs ad_22 G_22 F_22 p_22) H → va_D A (zs_W (zx_W cy h X_22) cy hs ad_22 G_22 F_22 p_22) → va_S A s.heap H locs → lv_has ls 21 [(0, .ref (sa.1 3)), (1, .ref (h 0)), (2, .ref hs), (3, .int x3_22)] → (∀ (ad2 : Nat → Nat) (H : Heap) (locs : List Loc) (ls : Array Slot), zs_wf o.2.2.2 → zs_fs o.2.2.1 o.2.2.2 → va_P D vwCl (zs_W (zx_W cy h o.1) cy hs ad2 o.2.1 o.2.2.1 o.2.2.2) H → va_D A (zs_W (zx_W cy h o.1) cy hs ad2 o.2.1 o.2.2.1 o.2.2.2) → va_S A s.heap H locs → lv_has ls 21 [(1, .ref (h 0)), (2, .ref hs)] → W pg l e room_1 s m args below meth c H locs T_ TS_ Q (F0 m 796 ls [])) → W pg l e room_1 s m args below meth c H locs cu_22 su_22 Q (F0 m 22 ls []) := by
      intro h hs k
      induction k with
      | zero =>
          intro X_22 G_22 F_22 p_22 x3_22 o hF
          rw [fLL_law_22] at hF
          cases hF
      | succ k ih =>
          intro X_22 G_22 F_22 p_22 x3_22 o hF ad_22 cu_22 su_22 T_ TS_ hcu_ hsu_ hT_ hTS_ H locs ls hw_22 hf_22 hP hD hS hl kk0
          rw [fLL_law_22] at hF
          refine lv_iload_n hx hb dL_law_22 rfl (lv_at hl 3 rfl) ?_
          refine lv_bipush (v := 34) hx hb dL_law_23 (by decide) ?_
          refine lv_icmp_ge (tgt := 796) hx hb dL_law_25 (by decide) (fun c_2 => ?_) (fun c_2 => ?_)
          ·   replace hF := if_t hF c_2
              cases hF
              refine W.widen (k := T_) (n := TS_) (by omega) (by omega) ?_
              exact kk0 ad_22 _ _ _ hw_22 hf_22 hP hD hS (lv_sub hl [1, 2] rfl)
          ·   replace hF := if_f hF c_2
              refine lv_aload_n hx hb dL_law_28 rfl (lv_at hl 0 rfl) ?_
              refine lv_iload_n hx hb dL_law_29 rfl (lv_at hl 3 rfl) ?_
              refine lv_bipush (v := 16) hx hb dL_law_30 (by decide) ?_
              refine lv_irem hx hb dL_law_32 (by decide) ?_
              replace hF := bnd_some hF
              obtain ⟨z3, hz_3, hF⟩ := hF
              refine krI (kS (As := [.ref (sa.1 3), .int (x3_22 - x3_22 / 16 * 16)]) ⟨hx, hb, hml, hown, hts⟩ (kL_cell l D cy sa (x3_22 - x3_22 / 16 * 16) z3 hz_3 _) (va_cwS 2 hts gL_law_L_cell rfl rfl rfl (by decide +kernel) ⟨Nat.le_of_ble_eq_true rfl, Nat.le_of_ble_eq_true rfl⟩) hK hP hD hS hA hG [] rfl rfl rfl hl.1 [] rfl (Nat.le_of_ble_eq_true rfl) dL_law_33 ⟨(by show _ ≤ (600130 : Nat); omega), (by show _ ≤ (7301080 : Nat); omega)⟩) hP hD hS hA [] rfl (fun H locs hP hS => ?_)
              refine lv_iload_n hx hb dL_law_36 rfl (lv_at hl 3 rfl) ?_
              refine lv_bipush (v := 16) hx hb dL_law_37 (by decide) ?_
              refine lv_idiv hx hb dL_law_39 (by decide) ?_
              refine lv_iconst (v := 3) hx hb dL_law_40 (by decide) ?_
              refine lv_imul hx hb dL_law_41 ?_
              refine lv_ishr hx hb dL_law_42 ?_
              refine lv_sipush (v := 311) hx hb dL_law_43 (by decide) ?_
              refine lv_iload_n hx hb dL_law_46 rfl (lv_at hl 3 rfl) ?_
              refine lv_imul hx hb dL_law_47 ?_
              refine lv_iadd hx hb dL_law_48 ?_
              refine lv_istore (lv' := [(4, .int ((z3 >>> (((x3_22 / 16) * 3) &&& 31)) + (311 * x3_22))), (0, .ref (sa.1 3)), (1, .ref (h 0)), (2, .ref hs), (3, .int x3_22)]) hx hb dL_law_49 hl (by decide) rfl (fun ls hl => ?_)
              refine lv_iconst (v := 0) hx hb dL_law_51 (by decide) ?_
              refine lv_istore (lv' := [(5, .int 0), (4, .int ((z3 >>> (((x3_22 / 16) * 3) &&& 31)) + (311 * x3_22))), (0, .ref (sa.1 3)), (1, .ref (h 0)), (2, .ref hs), (3, .int x3_22)]) hx hb dL_law_52 hl (by decide) rfl (fun ls hl => ?_)
              replace hF := bnd_some hF
              obtain ⟨o4, hz_4, hF⟩ := hF
              refine L54 h hs 3 X_22 G_22 F_22 p_22 x3_22 ((z3 >>> (((x3_22 / 16) * 3) &&& 31)) + (311 * x3_22)) 0 o4 hz_4 ad_22 (cu_22) (su_22) (cu_22 + 6) (su_22 + 285) (by omega) (by omega) (by show _ ≤ (8091 : Nat); omega) (by show _ ≤ (659622 : Nat); omega) _ _ _ hw_22 hf_22 hP hD hS (lv_sub hl [2, 3, 4, 5, 1, 0] rfl) (fun ad4_0 H locs ls hw4_0 hf4_0 hP hD hS hl => ?_)
              refine lv_iload hx hb dL_law_90 (lv_at hl 4 rfl) ?_
              refine lv_iconst (v := 4) hx hb dL_law_92 (by decide) ?_
              replace hF := bnd_some hF
              obtain ⟨z8, hz_8, hF⟩ := hF
              refine krI (kS (As := [.int ((z3 >>> (((x3_22 / 16) * 3) &&& 31)) + (311 * x3_22)), .int 4]) ⟨hx, hb, hml, hown, hts⟩ (kL_below l D cy sa ((z3 >>> (((x3_22 / 16) * 3) &&& 31)) + (311 * x3_22)) 4 z8 hz_8 _) (va_cwS 2 hts gL_law_L_below rfl rfl rfl (by decide +kernel) ⟨Nat.le_of_ble_eq_true rfl, Nat.le_of_ble_eq_true rfl⟩) hK hP hD hS hA hG [] rfl rfl rfl hl.1 [] rfl (Nat.le_of_ble_eq_true rfl) dL_law_93 ⟨(by show _ ≤ (600130 : Nat); omega), (by show _ ≤ (7301080 : Nat); omega)⟩) hP hD hS hA [] rfl (fun H locs hP hS => ?_)
              refine lv_istore (lv' := [(5, .int z8), (0, .ref (sa.1 3)), (1, .ref (h 0)), (2, .ref hs), (3, .int x3_22), (4, .int ((z3 >>> (((x3_22 / 16) * 3) &&& 31)) + (311 * x3_22)))]) hx hb dL_law_96 hl (by decide) rfl (fun ls hl => ?_)
              refine lv_iconst (v := 1) hx hb dL_law_98 (by decide) ?_
              refine lv_iload hx hb dL_law_99 (lv_at hl 5 rfl) ?_
              refine lv_iconst (v := 2) hx hb dL_law_101 (by decide) ?_
              refine lv_ishr hx hb dL_law_102 ?_
              refine lv_bipush (v := 99) hx hb dL_law_103 (by decide) ?_
              replace hF := bnd_some hF
              obtain ⟨z9, hz_9, hF⟩ := hF
              refine krI (kS (As := [.int (((z3 >>> (((x3_22 / 16) * 3) &&& 31)) + (311 * x3_22)) >>> (2 &&& 31)), .int 99]) ⟨hx, hb, hml, hown, hts⟩ (kL_below l D cy sa (((z3 >>> (((x3_22 / 16) * 3) &&& 31)) + (311 * x3_22)) >>> (2 &&& 31)) 99 z9 hz_9 _) (va_cwS 2 hts gL_law_L_below rfl rfl rfl (by decide +kernel) ⟨Nat.le_of_ble_eq_true rfl, Nat.le_of_ble_eq_true rfl⟩) hK hP hD hS hA hG [] rfl rfl rfl hl.1 [.int 1] rfl (Nat.le_of_ble_eq_true rfl) dL_law_105 ⟨(by show _ ≤ (600130 : Nat); omega), (by show _ ≤ (7301080 : Nat); omega)⟩) hP hD hS hA [] rfl (fun H locs hP hS => ?_)
              refine lv_iadd hx hb dL_law_108 ?_
              refine lv_istore (lv' := [(6, .int (1 + z9)), (5, .int z8), (0, .ref (sa.1 3)), (1, .ref (h 0)), (2, .ref hs), (3, .int x3_22), (4, .int ((z3 >>> (((x3_22 / 16) * 3) &&& 31)) + (311 * x3_22)))]) hx hb dL_law_109 hl (by decide) rfl (fun ls hl => ?_)
              refine lv_aload_n hx hb dL_law_111 rfl (lv_at hl 3 rfl) ?_
              refine lv_iload hx hb dL_law_112 (lv_at hl 1 rfl) ?_
              refine lv_iload hx hb dL_law_114 (lv_at hl 0 rfl) ?_
              replace hF := bnd_some hF
              obtain ⟨z10, hz_10, hF⟩ := hF
              refine zw_xI (P2 := zx_W cy h z10.2) (kV (As := [.int z8, .int (1 + z9)]) ⟨hx, hb, hml, hown, hts⟩ (kzx_ripe l D cy sa h o4.1 z8 (1 + z9) z10 hz_10 _) (cwV 2 hts gL_law_X5_ripe rfl rfl rfl (by decide +kernel) ⟨Nat.le_of_ble_eq_true rfl, Nat.le_of_ble_eq_true rfl⟩) hK hP hD hS hA hG (List.range (zx_W cy h o4.1).length) zw_map1 (zp_nd1 _) zx_at rfl rfl rfl hl.1 [] rfl (Nat.le_of_ble_eq_true rfl) dL_law_116 ⟨(by show _ ≤ (600130 : Nat); omega), (by show _ ≤ (7301080 : Nat); omega)⟩) hP hD hS hA zx_m (fun H locs hP hD hS => ?_)
              refine lv_istore (lv' := [(7, .int z10.1), (6, .int (1 + z9)), (5, .int z8), (0, .ref (sa.1 3)), (1, .ref (h 0)), (2, .ref hs), (3, .int x3_22), (4, .int ((z3 >>> (((x3_22 / 16) * 3) &&& 31)) + (311 * x3_22)))]) hx hb dL_law_119 hl (by decide) rfl (fun ls hl => ?_)
              refine lv_iconst (v := 4) hx hb dL_law_121 (by decide) ?_
              refine lv_iconst (v := 3) hx hb dL_law_122 (by decide) ?_
              replace hF := bnd_some hF
              obtain ⟨p11, hz_11, hF⟩ := hF
              replace hz_11 := Option.some.inj hz_11
              refine sx_nwm (a := 4) (b := 3) hx hb hown (hts (.classLink RL 114 "[[I") (by decide +kernel)) hG.1.2.2.2 (hts (.arrayClass .int) (by decide +kernel)) hK hw4_0 hP hD hS hA (by decide) (by decide) rfl rfl (Nat.le_of_ble_eq_true rfl) (Nat.le_of_ble_eq_true rfl) (by show _ ≤ (600130 : Nat); omega) (by show _ ≤ (7301080 : Nat); omega) dL_law_123 (fun ad11 H ha11 hP hD hS => ?_)
              rw [hz_11] at hP hD
              have hwm11 := zs_nwm_wf hw4_0 4 3
              have hnm11 : (zs_nwm o4.2.2.2 4 3).1 = (o4.2.2.2).1 + 1 + 4 := rfl
              rw [hz_11] at hwm11 hnm11
              have hw11 := hwm11
              have lf11 : (o4.2.2.2).1 ≤ p11.1 := by rw [hnm11]; omega
              have fn11 : (o4.2.2.2).1 < p11.1 := by rw [hnm11]; omega
              rw [zs_W_up hf4_0 ha11] at hP hD
              have hf_11 := zs_fs_le hf4_0 lf11
              replace hl := lv_sub (l' := [(7, .int z10.1), (6, .int (1 + z9)), (5, .int z8), (0, .ref (sa.1 3)), (1, .ref (h 0)), (2, .ref hs), (3, .int x3_22)]) hl [0, 1, 2, 3, 4, 5, 6] rfl
              replace hP : va_P D vwCl (zs_W (zx_W cy h z10.2) cy hs ad11 o4.2.1 o4.2.2.1 p11) H := hP
              replace hD : va_D A (zs_W (zx_W cy h z10.2) cy hs ad11 o4.2.1 o4.2.2.1 p11) := hD
              refine lv_astore (lv' := [(8, .ref (ad11 ((o4.2.2.2).1))), (7, .int z10.1), (6, .int (1 + z9)), (5, .int z8), (0, .ref (sa.1 3)), (1, .ref (h 0)), (2, .ref hs), (3, .int x3_22)]) hx hb dL_law_127 hl (by decide) rfl (fun ls hl => ?_)
              refine lv_iconst (v := 0) hx hb dL_law_129 (by decide) ?_
              refine lv_istore (lv' := [(9, .int 0), (8, .ref (ad11 ((o4.2.2.2).1))), (7, .int z10.1), (6, .int (1 + z9)), (5, .int z8), (0, .ref (sa.1 3)), (1, .ref (h 0)), (2, .ref hs), (3, .int x3_22)]) hx hb dL_law_130 hl (by decide) rfl (fun ls hl => ?_)
              refine lv_iconst (v := 0) hx hb dL_law_132 (by decide) ?_
              refine lv_istore (lv' := [(10, .int 0), (9, .int 0), (8, .ref (ad11 ((o4.2.2.2).1))), (7, .int z10.1), (6, .int (1 + z9)), (5, .int z8), (0, .ref (sa.1 3)), (1, .ref (h 0)), (2, .ref hs), (3, .int x3_22)]) hx hb dL_law_133 hl (by decide) rfl (fun ls hl => ?_)
              replace hF := bnd_some hF
              obtain ⟨o12, hz_12, hF⟩ := hF
              refine L135 h hs 300 z10.2 o4.2.1 o4.2.2.1 p11 x3_22 z8 (1 + z9) z10.1 ((o4.2.2.2).1) 0 0 o12 hz_12 ad11 (cu_22 + 11) (su_22 + 301) (cu_22 + 11) (su_22 + 301) (by omega) (by omega) (by show _ ≤ (8091 : Nat); omega) (by show _ ≤ (659622 : Nat); omega) _ _ _ hw11 hf_11 fn11 hP hD hS (lv_sub hl [6, 7, 8, 9, 5, 4, 3, 2, 1, 0] rfl) (fun H locs ls hw12_0 hf12_0 fk12_0_8 hP hD hS hl => ?_)
              refine lv_iload hx hb dL_law_198 (lv_at hl 8 rfl) ?_
              replace hF := bnd_some hF
              obtain ⟨t22, hz_22, hF⟩ := hF
              have J22 : ∀ (H : Heap) (locs : List Loc) (ls : Array Slot), va_P D vwCl (zs_W (zx_W cy h z10.2) cy hs ad11 o4.2.1 o4.2.2.1 o12.1) H → va_D A (zs_W (zx_W cy h z10.2) cy hs ad11 o4.2.1 o4.2.2.1 o12.1) → va_S A s.heap H locs → lv_has ls 21 [(0, .ref (sa.1 3)), (1, .ref (h 0)), (2, .ref hs), (3, .int x3_22), (5, .int z8), (6, .int (1 + z9)), (7, .int z10.1), (8, .ref (ad11 ((o4.2.2.2).1)))] → W pg l e room_1 s m args below meth c H locs (cu_22 + 11) (su_22 + 301) Q (F0 m 225 ls [.int t22]) := by
                  intro H locs ls hP hD hS hl
                  refine lv_istore (lv' := [(10, .int t22), (0, .ref (sa.1 3)), (1, .ref (h 0)), (2, .ref hs), (3, .int x3_22), (5, .int z8), (6, .int (1 + z9)), (7, .int z10.1), (8, .ref (ad11 ((o4.2.2.2).1)))]) hx hb dL_law_225 hl (by decide) rfl (fun ls hl => ?_)
                  refine lv_bipush (v := 12) hx hb dL_law_227 (by decide) ?_
                  replace hF := bnd_some hF
                  obtain ⟨p26, hz_26, hF⟩ := hF
                  refine sx_nwi hx hb (hts (.arrayClass .int) (by decide +kernel)) hK hw12_0 hP hD hS hA hz_26 (Nat.le_of_ble_eq_true rfl) (by show _ ≤ (600130 : Nat); omega) (by show _ ≤ (7301080 : Nat); omega) dL_law_229 (fun ad26 H ha26 hP hD hS => ?_)
                  obtain ⟨hw26, hn26⟩ := zs_nwi_wf hw12_0 hz_26
                  have lf26 : (o12.1).1 ≤ p26.1 := by rw [hn26]; exact Nat.le_succ _
                  have fn26 : (o12.1).1 < p26.1 := by rw [hn26]; exact Nat.lt_succ_self _
                  rw [zs_W_up hf12_0 ha26] at hP hD
                  have hf_26 := zs_fs_le hf12_0 lf26
                  rw [← ha26 ((o4.2.2.2).1) fk12_0_8] at hl
                  have fr26_0 : ((o4.2.2.2).1) < (p26).1 := Nat.lt_of_lt_of_le fk12_0_8 lf26
                  replace hP : va_P D vwCl (zs_W (zx_W cy h z10.2) cy hs ad26 o4.2.1 o4.2.2.1 p26) H := hP
                  replace hD : va_D A (zs_W (zx_W cy h z10.2) cy hs ad26 o4.2.1 o4.2.2.1 p26) := hD
                  refine lv_astore (lv' := [(11, .ref (ad26 ((o12.1).1))), (10, .int t22), (0, .ref (sa.1 3)), (1, .ref (h 0)), (2, .ref hs), (3, .int x3_22), (5, .int z8), (6, .int (1 + z9)), (7, .int z10.1), (8, .ref (ad26 ((o4.2.2.2).1)))]) hx hb dL_law_231 hl (by decide) rfl (fun ls hl => ?_)
                  refine lv_iconst (v := 0) hx hb dL_law_233 (by decide) ?_
                  refine lv_istore (lv' := [(12, .int 0), (11, .ref (ad26 ((o12.1).1))), (10, .int t22), (0, .ref (sa.1 3)), (1, .ref (h 0)), (2, .ref hs), (3, .int x3_22), (5, .int z8), (6, .int (1 + z9)), (7, .int z10.1), (8, .ref (ad26 ((o4.2.2.2).1)))]) hx hb dL_law_234 hl (by decide) rfl (fun ls hl => ?_)
                  replace hF := bnd_some hF
                  obtain ⟨o27, hz_27, hF⟩ := hF
                  refine L236 h hs 300 z10.2 o4.2.1 o4.2.2.1 p26 x3_22 z8 (1 + z9) z10.1 ((o4.2.2.2).1) t22 ((o12.1).1) 0 o27 hz_27 ad26 (cu_22 + 12) (su_22 + 313) (cu_22 + 12) (su_22 + 313) (by omega) (by omega) (by show _ ≤ (8091 : Nat); omega) (by show _ ≤ (659622 : Nat); omega) _ _ _ hw26 hf_26 fr26_0 fn26 hP hD hS (lv_sub hl [3, 4, 5, 6, 7, 8, 9, 10, 2, 1, 0] rfl) (fun H locs ls hw27_0 hf27_0 fk27_0_8 fk27_0_11 hP hD hS hl => ?_)
                  refine lv_aload_n hx hb dL_law_261 rfl (lv_at hl 1 rfl) ?_
                  refine lv_iconst (v := 3) hx hb dL_law_262 (by decide) ?_
                  replace hF := bnd_some hF
                  obtain ⟨z31, hz_31, hF⟩ := hF
                  refine zw_xI (P2 := zx_W cy h o27.1) (kV (As := [.int 3]) ⟨hx, hb, hml, hown, hts⟩ (kzx_count l D cy sa h o27.1 3 z31 hz_31 _) (cwV 1 hts gL_law_X5_count rfl rfl rfl (by decide +kernel) ⟨Nat.le_of_ble_eq_true rfl, Nat.le_of_ble_eq_true rfl⟩) hK hP hD hS hA hG (List.range (zx_W cy h o27.1).length) zw_map1 (zp_nd1 _) zx_at rfl rfl rfl hl.1 [] rfl (Nat.le_of_ble_eq_true rfl) dL_law_263 ⟨(by show _ ≤ (600130 : Nat); omega), (by show _ ≤ (7301080 : Nat); omega)⟩) hP hD hS hA zx_m (fun H locs hP hD hS => ?_)
                  refine lv_istore (lv' := [(12, .int z31), (0, .ref (sa.1 3)), (1, .ref (h 0)), (2, .ref hs), (3, .int x3_22), (5, .int z8), (6, .int (1 + z9)), (7, .int z10.1), (8, .ref (ad26 ((o4.2.2.2).1))), (10, .int t22), (11, .ref (ad26 ((o12.1).1)))]) hx hb dL_law_266 hl (by decide) rfl (fun ls hl => ?_)
                  refine lv_iconst (v := 4) hx hb dL_law_268 (by decide) ?_
                  replace hF := bnd_some hF
                  obtain ⟨p32, hz_32, hF⟩ := hF
                  refine sx_nwi hx hb (hts (.arrayClass .int) (by decide +kernel)) hK hw27_0 hP hD hS hA hz_32 (Nat.le_of_ble_eq_true rfl) (by show _ ≤ (600130 : Nat); omega) (by show _ ≤ (7301080 : Nat); omega) dL_law_269 (fun ad32 H ha32 hP hD hS => ?_)
                  obtain ⟨hw32, hn32⟩ := zs_nwi_wf hw27_0 hz_32
                  have lf32 : (o27.2).1 ≤ p32.1 := by rw [hn32]; exact Nat.le_succ _
                  have fn32 : (o27.2).1 < p32.1 := by rw [hn32]; exact Nat.lt_succ_self _
                  rw [zs_W_up hf27_0 ha32] at hP hD
                  have hf_32 := zs_fs_le hf27_0 lf32
                  rw [← ha32 ((o4.2.2.2).1) fk27_0_8] at hl
                  rw [← ha32 ((o12.1).1) fk27_0_11] at hl
                  have fr32_0 : ((o4.2.2.2).1) < (p32).1 := Nat.lt_of_lt_of_le fk27_0_8 lf32
                  have fr32_1 : ((o12.1).1) < (p32).1 := Nat.lt_of_lt_of_le fk27_0_11 lf32
                  replace hP : va_P D vwCl (zs_W (zx_W cy h o27.1) cy hs ad32 o4.2.1 o4.2.2.1 p32) H := hP
                  replace hD : va_D A (zs_W (zx_W cy h o27.1) cy hs ad32 o4.2.1 o4.2.2.1 p32) := hD
                  refine lv_astore (lv' := [(13, .ref (ad32 ((o27.2).1))), (12, .int z31), (0, .ref (sa.1 3)), (1, .ref (h 0)), (2, .ref hs), (3, .int x3_22), (5, .int z8), (6, .int (1 + z9)), (7, .int z10.1), (8, .ref (ad32 ((o4.2.2.2).1))), (10, .int t22), (11, .ref (ad32 ((o12.1).1)))]) hx hb dL_law_271 hl (by decide) rfl (fun ls hl => ?_)
                  refine lv_iconst (v := 4) hx hb dL_law_273 (by decide) ?_
                  replace hF := bnd_some hF
                  obtain ⟨p33, hz_33, hF⟩ := hF
                  refine sx_nwi hx hb (hts (.arrayClass .int) (by decide +kernel)) hK hw32 hP hD hS hA hz_33 (Nat.le_of_ble_eq_true rfl) (by show _ ≤ (600130 : Nat); omega) (by show _ ≤ (7301080 : Nat); omega) dL_law_274 (fun ad33 H ha33 hP hD hS => ?_)
                  obtain ⟨hw33, hn33⟩ := zs_nwi_wf hw32 hz_33
                  have lf33 : (p32).1 ≤ p33.1 := by rw [hn33]; exact Nat.le_succ _
                  have fn33 : (p32).1 < p33.1 := by rw [hn33]; exact Nat.lt_succ_self _
                  rw [zs_W_up hf_32 ha33] at hP hD
                  have hf_33 := zs_fs_le hf_32 lf33
                  rw [← ha33 ((o27.2).1) fn32] at hl
                  rw [← ha33 ((o4.2.2.2).1) fr32_0] at hl
                  rw [← ha33 ((o12.1).1) fr32_1] at hl
                  have fr33_0 : ((o27.2).1) < (p33).1 := Nat.lt_of_lt_of_le fn32 lf33
                  have fr33_1 : ((o4.2.2.2).1) < (p33).1 := Nat.lt_of_lt_of_le fr32_0 lf33
                  have fr33_2 : ((o12.1).1) < (p33).1 := Nat.lt_of_lt_of_le fr32_1 lf33
                  replace hP : va_P D vwCl (zs_W (zx_W cy h o27.1) cy hs ad33 o4.2.1 o4.2.2.1 p33) H := hP
                  replace hD : va_D A (zs_W (zx_W cy h o27.1) cy hs ad33 o4.2.1 o4.2.2.1 p33) := hD
                  refine lv_astore (lv' := [(14, .ref (ad33 p32.1)), (13, .ref (ad33 ((o27.2).1))), (12, .int z31), (0, .ref (sa.1 3)), (1, .ref (h 0)), (2, .ref hs), (3, .int x3_22), (5, .int z8), (6, .int (1 + z9)), (7, .int z10.1), (8, .ref (ad33 ((o4.2.2.2).1))), (10, .int t22), (11, .ref (ad33 ((o12.1).1)))]) hx hb dL_law_276 hl (by decide) rfl (fun ls hl => ?_)
                  refine lv_iconst (v := 0) hx hb dL_law_278 (by decide) ?_
                  refine lv_istore (lv' := [(15, .int 0), (14, .ref (ad33 p32.1)), (13, .ref (ad33 ((o27.2).1))), (12, .int z31), (0, .ref (sa.1 3)), (1, .ref (h 0)), (2, .ref hs), (3, .int x3_22), (5, .int z8), (6, .int (1 + z9)), (7, .int z10.1), (8, .ref (ad33 ((o4.2.2.2).1))), (10, .int t22), (11, .ref (ad33 ((o12.1).1)))]) hx hb dL_law_279 hl (by decide) rfl (fun ls hl => ?_)
                  replace hF := bnd_some hF
                  obtain ⟨o34, hz_34, hF⟩ := hF
                  refine L281 h hs 300 o27.1 o4.2.1 o4.2.2.1 p33 x3_22 z8 (1 + z9) z10.1 ((o4.2.2.2).1) t22 ((o12.1).1) z31 ((o27.2).1) p32.1 0 o34 hz_34 ad33 (cu_22 + 14) (su_22 + 321) (cu_22 + 14) (su_22 + 321) (by omega) (by omega) (by show _ ≤ (8091 : Nat); omega) (by show _ ≤ (659622 : Nat); omega) _ _ _ hw33 hf_33 fr33_1 fr33_2 fr33_0 fn33 hP hD hS (lv_sub hl [4, 5, 6, 7, 8, 9, 10, 11, 12, 13, 3, 2, 1, 0] rfl) (fun H locs ls hw34_0 hf34_0 fk34_0_8 fk34_0_11 fk34_0_13 fk34_0_14 hP hD hS hl => ?_)
                  refine lv_iconst (v := 0) hx hb dL_law_337 (by decide) ?_
                  refine lv_istore (lv' := [(15, .int 0), (0, .ref (sa.1 3)), (1, .ref (h 0)), (2, .ref hs), (3, .int x3_22), (5, .int z8), (6, .int (1 + z9)), (7, .int z10.1), (8, .ref (ad33 ((o4.2.2.2).1))), (11, .ref (ad33 ((o12.1).1))), (12, .int z31), (13, .ref (ad33 ((o27.2).1))), (14, .ref (ad33 p32.1))]) hx hb dL_law_338 hl (by decide) rfl (fun ls hl => ?_)
                  refine lv_aload_n hx hb dL_law_340 rfl (lv_at hl 3 rfl) ?_
                  refine va_get (D := D) (C := RX6) (T := TX6) (N := 12) hx hb hts hiX6 hown hK hP _ zs_at rfl 8 (by decide) hf9 (fun _ h9 => h9) rfl dL_law_341 ?_
                  replace hF := bnd_some hF
                  obtain ⟨x44, hz_44, hF⟩ := hF
                  refine sx_len hx hb hK hP hz_44 dL_law_344 ?_
                  replace hF := bnd_some hF
                  obtain ⟨p45, hz_45, hF⟩ := hF
                  refine sx_nwi hx hb (hts (.arrayClass .int) (by decide +kernel)) hK hw34_0 hP hD hS hA hz_45 (Nat.le_of_ble_eq_true rfl) (by show _ ≤ (600130 : Nat); omega) (by show _ ≤ (7301080 : Nat); omega) dL_law_345 (fun ad45 H ha45 hP hD hS => ?_)
                  obtain ⟨hw45, hn45⟩ := zs_nwi_wf hw34_0 hz_45
                  have lf45 : (o34).1 ≤ p45.1 := by rw [hn45]; exact Nat.le_succ _
                  have fn45 : (o34).1 < p45.1 := by rw [hn45]; exact Nat.lt_succ_self _
                  rw [zs_W_up hf34_0 ha45] at hP hD
                  have hf_45 := zs_fs_le hf34_0 lf45
                  rw [← ha45 ((o4.2.2.2).1) fk34_0_8] at hl
                  rw [← ha45 ((o12.1).1) fk34_0_11] at hl
                  rw [← ha45 ((o27.2).1) fk34_0_13] at hl
                  rw [← ha45 p32.1 fk34_0_14] at hl
                  have fr45_0 : ((o4.2.2.2).1) < (p45).1 := Nat.lt_of_lt_of_le fk34_0_8 lf45
                  have fr45_1 : ((o12.1).1) < (p45).1 := Nat.lt_of_lt_of_le fk34_0_11 lf45
                  have fr45_2 : ((o27.2).1) < (p45).1 := Nat.lt_of_lt_of_le fk34_0_13 lf45
                  have fr45_3 : p32.1 < (p45).1 := Nat.lt_of_lt_of_le fk34_0_14 lf45
                  replace hP : va_P D vwCl (zs_W (zx_W cy h o27.1) cy hs ad45 o4.2.1 o4.2.2.1 p45) H := hP
                  replace hD : va_D A (zs_W (zx_W cy h o27.1) cy hs ad45 o4.2.1 o4.2.2.1 p45) := hD
                  refine lv_astore (lv' := [(16, .ref (ad45 o34.1)), (15, .int 0), (0, .ref (sa.1 3)), (1, .ref (h 0)), (2, .ref hs), (3, .int x3_22), (5, .int z8), (6, .int (1 + z9)), (7, .int z10.1), (8, .ref (ad45 ((o4.2.2.2).1))), (11, .ref (ad45 ((o12.1).1))), (12, .int z31), (13, .ref (ad45 ((o27.2).1))), (14, .ref (ad45 p32.1))]) hx hb dL_law_347 hl (by decide) rfl (fun ls hl => ?_)
                  refine lv_iconst (v := 0) hx hb dL_law_349 (by decide) ?_
                  refine lv_istore (lv' := [(17, .int 0), (16, .ref (ad45 o34.1)), (15, .int 0), (0, .ref (sa.1 3)), (1, .ref (h 0)), (2, .ref hs), (3, .int x3_22), (5, .int z8), (6, .int (1 + z9)), (7, .int z10.1), (8, .ref (ad45 ((o4.2.2.2).1))), (11, .ref (ad45 ((o12.1).1))), (12, .int z31), (13, .ref (ad45 ((o27.2).1))), (14, .ref (ad45 p32.1))]) hx hb dL_law_350 hl (by decide) rfl (fun ls hl => ?_)
                  replace hF := bnd_some hF
                  obtain ⟨o46, hz_46, hF⟩ := hF
                  refine L352 h hs 300 o27.1 o4.2.1 o4.2.2.1 p45 x3_22 z8 (1 + z9) z10.1 ((o4.2.2.2).1) ((o12.1).1) z31 ((o27.2).1) p32.1 0 o34.1 0 o46 hz_46 ad45 (cu_22 + 15) (su_22 + 329) (cu_22 + 15) (su_22 + 329) (by omega) (by omega) (by show _ ≤ (8091 : Nat); omega) (by show _ ≤ (659622 : Nat); omega) _ _ _ hw45 hf_45 fr45_0 fr45_1 fr45_2 fr45_3 fn45 hP hD hS (lv_sub hl [3, 4, 5, 6, 7, 8, 9, 10, 11, 12, 13, 14, 2, 1, 0] rfl) (fun H locs ls hw46_0 hf46_0 fk46_0_8 fk46_0_11 fk46_0_13 fk46_0_14 fk46_0_16 hP hD hS hl => ?_)
                  refine lv_iconst (v := 0) hx hb dL_law_378 (by decide) ?_
                  refine lv_istore (lv' := [(17, .int 0), (0, .ref (sa.1 3)), (1, .ref (h 0)), (2, .ref hs), (3, .int x3_22), (5, .int z8), (6, .int (1 + z9)), (7, .int z10.1), (8, .ref (ad45 ((o4.2.2.2).1))), (11, .ref (ad45 ((o12.1).1))), (12, .int z31), (13, .ref (ad45 ((o27.2).1))), (14, .ref (ad45 p32.1)), (15, .int 0), (16, .ref (ad45 o34.1))]) hx hb dL_law_379 hl (by decide) rfl (fun ls hl => ?_)
                  replace hF := bnd_some hF
                  obtain ⟨o51, hz_51, hF⟩ := hF
                  refine L381 h hs 300 o27.1 o4.2.1 o4.2.2.1 o46 x3_22 z8 (1 + z9) z10.1 ((o4.2.2.2).1) ((o12.1).1) z31 ((o27.2).1) p32.1 0 o34.1 0 o51 hz_51 ad45 (cu_22 + 15) (su_22 + 329) (cu_22 + 15) (su_22 + 329) (by omega) (by omega) (by show _ ≤ (8091 : Nat); omega) (by show _ ≤ (659622 : Nat); omega) _ _ _ hw46_0 hf46_0 fk46_0_8 fk46_0_11 fk46_0_13 fk46_0_14 fk46_0_16 hP hD hS (lv_sub hl [1, 2, 3, 4, 5, 6, 7, 8, 9, 10, 11, 12, 13, 14, 0] rfl) (fun H locs ls hw51_0 hf51_0 fk51_0_8 fk51_0_11 fk51_0_13 fk51_0_14 fk51_0_16 hP hD hS hl => ?_)
                  refine lv_aload_n hx hb dL_law_530 rfl (lv_at hl 1 rfl) ?_
                  refine lv_iconst (v := 1) hx hb dL_law_531 (by decide) ?_
                  replace hF := bnd_some hF
                  obtain ⟨z71, hz_71, hF⟩ := hF
                  refine zw_xI (P2 := zx_W cy h z71.2) (kV (As := [.int 1]) ⟨hx, hb, hml, hown, hts⟩ (kzx_pass l D cy sa h o27.1 1 z71 hz_71 _) (cwV 1 hts gL_law_X5_pass rfl rfl rfl (by decide +kernel) ⟨Nat.le_of_ble_eq_true rfl, Nat.le_of_ble_eq_true rfl⟩) hK hP hD hS hA hG (List.range (zx_W cy h o27.1).length) zw_map1 (zp_nd1 _) zx_at rfl rfl rfl hl.1 [] rfl (Nat.le_of_ble_eq_true rfl) dL_law_532 ⟨(by show _ ≤ (600130 : Nat); omega), (by show _ ≤ (7301080 : Nat); omega)⟩) hP hD hS hA zx_m (fun H locs hP hD hS => ?_)
                  refine lv_iload hx hb dL_law_535 (lv_at hl 12 rfl) ?_
                  refine lv_icmp_ne (tgt := 549) hx hb dL_law_537 (by decide) (fun c_72 => ?_) (fun c_72 => ?_)
                  ·   replace hF := if_f hF c_72
                      cases hF
                  ·   replace hF := if_t hF c_72
                      refine lv_aload_n hx hb dL_law_540 rfl (lv_at hl 2 rfl) ?_
                      replace hF := bnd_some hF
                      obtain ⟨z73, hz_73, hF⟩ := hF
                      refine zw_I (kV (As := []) ⟨hx, hb, hml, hown, hts⟩ (kX6_pass l D cy sa hs ad45 o4.2.1 o4.2.2.1 o51.1  hw51_0 hf51_0  z73 hz_73 _) (cwV 0 hts gL_law_X6_pass rfl rfl rfl (by decide +kernel) ⟨Nat.le_of_ble_eq_true rfl, Nat.le_of_ble_eq_true rfl⟩) hK hP hD hS hA hG (List.range' ((zx_W cy h z71.2) : va_W).length (zs_W [] cy hs ad45 o4.2.1 o4.2.2.1 o51.1).length) zw_map2 (zp_nd2 _ _) (zs_at (P := [])) rfl rfl rfl hl.1 [] rfl (Nat.le_of_ble_eq_true rfl) dL_law_541 ⟨(by show _ ≤ (600130 : Nat); omega), (by show _ ≤ (7301080 : Nat); omega)⟩) hP hD hS hA (fun r73 ad73 H locs hq73 hP hD hS => ?_)
                      obtain ⟨rfl, hw73, hf_73, lf73, ha73⟩ := hq73
                      rw [← ha73 ((o4.2.2.2).1) fk51_0_8] at hl
                      rw [← ha73 ((o12.1).1) fk51_0_11] at hl
                      rw [← ha73 ((o27.2).1) fk51_0_13] at hl
                      rw [← ha73 p32.1 fk51_0_14] at hl
                      rw [← ha73 o34.1 fk51_0_16] at hl
                      have fr73_0 : ((o4.2.2.2).1) < (z73.2.2.2).1 := Nat.lt_of_lt_of_le fk51_0_8 lf73
                      have fr73_1 : ((o12.1).1) < (z73.2.2.2).1 := Nat.lt_of_lt_of_le fk51_0_11 lf73
                      have fr73_2 : ((o27.2).1) < (z73.2.2.2).1 := Nat.lt_of_lt_of_le fk51_0_13 lf73
                      have fr73_3 : p32.1 < (z73.2.2.2).1 := Nat.lt_of_lt_of_le fk51_0_14 lf73
                      have fr73_4 : o34.1 < (z73.2.2.2).1 := Nat.lt_of_lt_of_le fk51_0_16 lf73
                      replace hP : va_P D vwCl (zs_W (zx_W cy h z71.2) cy hs ad73 z73.2.1 z73.2.2.1 z73.2.2.2) H := hP
                      replace hD : va_D A (zs_W (zx_W cy h z71.2) cy hs ad73 z73.2.1 z73.2.2.1 z73.2.2.2) := hD
                      refine lv_iload hx hb dL_law_544 (lv_at hl 12 rfl) ?_
                      refine lv_icmp_eq (tgt := 551) hx hb dL_law_546 (by decide) (fun c_74 => ?_) (fun c_74 => ?_)
                      ·   replace hF := if_t hF c_74
                          refine lv_iconst (v := 0) hx hb dL_law_551 (by decide) ?_
                          refine lv_istore (lv' := [(17, .int 0), (0, .ref (sa.1 3)), (1, .ref (h 0)), (2, .ref hs), (3, .int x3_22), (5, .int z8), (6, .int (1 + z9)), (7, .int z10.1), (8, .ref (ad73 ((o4.2.2.2).1))), (11, .ref (ad73 ((o12.1).1))), (12, .int o51.2.1), (13, .ref (ad73 ((o27.2).1))), (14, .ref (ad73 p32.1)), (15, .int o51.2.2), (16, .ref (ad73 o34.1))]) hx hb dL_law_552 hl (by decide) rfl (fun ls hl => ?_)
                          replace hF := bnd_some hF
                          obtain ⟨o75, hz_75, hF⟩ := hF
                          refine L554 h hs 300 z71.2 z73.2.1 z73.2.2.1 z73.2.2.2 x3_22 z8 (1 + z9) z10.1 ((o4.2.2.2).1) ((o12.1).1) o51.2.1 ((o27.2).1) p32.1 o34.1 0 o75 hz_75 ad73 (cu_22 + 118) (su_22 + 9268) (cu_22 + 118) (su_22 + 9268) (by omega) (by omega) (by show _ ≤ (8091 : Nat); omega) (by show _ ≤ (659622 : Nat); omega) _ _ _ hw73 hf_73 fr73_0 fr73_1 fr73_2 fr73_3 fr73_4 hP hD hS (lv_sub hl [1, 2, 3, 4, 5, 6, 7, 8, 9, 10, 11, 12, 14, 0] rfl) (fun H locs ls hw75_0 hf75_0 fk75_0_8 fk75_0_13 fk75_0_14 fk75_0_16 hP hD hS hl => ?_)
                          refine lv_iconst (v := 0) hx hb dL_law_583 (by decide) ?_
                          refine lv_istore (lv' := [(17, .int 0), (0, .ref (sa.1 3)), (1, .ref (h 0)), (2, .ref hs), (3, .int x3_22), (5, .int z8), (6, .int (1 + z9)), (7, .int z10.1), (8, .ref (ad73 ((o4.2.2.2).1))), (12, .int o51.2.1), (13, .ref (ad73 ((o27.2).1))), (14, .ref (ad73 p32.1)), (16, .ref (ad73 o34.1))]) hx hb dL_law_584 hl (by decide) rfl (fun ls hl => ?_)
                          replace hF := bnd_some hF
                          obtain ⟨o80, hz_80, hF⟩ := hF
                          refine L586 h hs 300 z71.2 z73.2.1 z73.2.2.1 z73.2.2.2 x3_22 z8 (1 + z9) z10.1 ((o4.2.2.2).1) o51.2.1 ((o27.2).1) p32.1 o34.1 0 o80 hz_80 ad73 (cu_22 + 118) (su_22 + 9268) (cu_22 + 118) (su_22 + 9268) (by omega) (by omega) (by show _ ≤ (8091 : Nat); omega) (by show _ ≤ (659622 : Nat); omega) _ _ _ hw75_0 hf75_0 fk75_0_8 fk75_0_13 fk75_0_14 fk75_0_16 hP hD hS (lv_sub hl [1, 2, 3, 4, 5, 6, 7, 8, 9, 10, 11, 12, 0] rfl) (fun H locs ls hw80_0 hf80_0 fk80_0_8 fk80_0_16 hP hD hS hl => ?_)
                          refine lv_iconst (v := 0) hx hb dL_law_671 (by decide) ?_
                          refine lv_istore (lv' := [(17, .int 0), (0, .ref (sa.1 3)), (1, .ref (h 0)), (2, .ref hs), (3, .int x3_22), (5, .int z8), (6, .int (1 + z9)), (7, .int z10.1), (8, .ref (ad73 ((o4.2.2.2).1))), (12, .int o51.2.1), (16, .ref (ad73 o34.1))]) hx hb dL_law_672 hl (by decide) rfl (fun ls hl => ?_)
                          replace hF := bnd_some hF
                          obtain ⟨o96, hz_96, hF⟩ := hF
                          refine L674 h hs 300 z71.2 z73.2.1 z73.2.2.1 z73.2.2.2 x3_22 z8 (1 + z9) z10.1 ((o4.2.2.2).1) o51.2.1 o34.1 0 o96 hz_96 ad73 (cu_22 + 118) (su_22 + 9268) (cu_22 + 118) (su_22 + 9268) (by omega) (by omega) (by show _ ≤ (8091 : Nat); omega) (by show _ ≤ (659622 : Nat); omega) _ _ _ hw80_0 hf80_0 fk80_0_8 fk80_0_16 hP hD hS (lv_sub hl [1, 2, 3, 4, 5, 6, 7, 8, 9, 10, 0] rfl) (fun H locs ls hw96_0 hf96_0 fk96_0_8 hP hD hS hl => ?_)
                          refine lv_aload_n hx hb dL_law_705 rfl (lv_at hl 1 rfl) ?_
                          refine lv_iconst (v := 3) hx hb dL_law_706 (by decide) ?_
                          replace hF := bnd_some hF
                          obtain ⟨z102, hz_102, hF⟩ := hF
                          refine zw_xI (P2 := zx_W cy h z71.2) (kV (As := [.int 3]) ⟨hx, hb, hml, hown, hts⟩ (kzx_count l D cy sa h z71.2 3 z102 hz_102 _) (cwV 1 hts gL_law_X5_count rfl rfl rfl (by decide +kernel) ⟨Nat.le_of_ble_eq_true rfl, Nat.le_of_ble_eq_true rfl⟩) hK hP hD hS hA hG (List.range (zx_W cy h z71.2).length) zw_map1 (zp_nd1 _) zx_at rfl rfl rfl hl.1 [] rfl (Nat.le_of_ble_eq_true rfl) dL_law_707 ⟨(by show _ ≤ (600130 : Nat); omega), (by show _ ≤ (7301080 : Nat); omega)⟩) hP hD hS hA zx_m (fun H locs hP hD hS => ?_)
                          refine lv_iload hx hb dL_law_710 (lv_at hl 8 rfl) ?_
                          refine lv_bipush (v := 24) hx hb dL_law_712 (by decide) ?_
                          refine lv_aload_n hx hb dL_law_714 rfl (lv_at hl 1 rfl) ?_
                          refine lv_iconst (v := 2) hx hb dL_law_715 (by decide) ?_
                          replace hF := bnd_some hF
                          obtain ⟨z103, hz_103, hF⟩ := hF
                          refine zw_xI (P2 := zx_W cy h z71.2) (kV (As := [.int 2]) ⟨hx, hb, hml, hown, hts⟩ (kzx_count l D cy sa h z71.2 2 z103 hz_103 _) (cwV 1 hts gL_law_X5_count rfl rfl rfl (by decide +kernel) ⟨Nat.le_of_ble_eq_true rfl, Nat.le_of_ble_eq_true rfl⟩) hK hP hD hS hA hG (List.range (zx_W cy h z71.2).length) zw_map1 (zp_nd1 _) zx_at rfl rfl rfl hl.1 [.int 24, .int o51.2.1, .int z102] rfl (Nat.le_of_ble_eq_true rfl) dL_law_716 ⟨(by show _ ≤ (600130 : Nat); omega), (by show _ ≤ (7301080 : Nat); omega)⟩) hP hD hS hA zx_m (fun H locs hP hD hS => ?_)
                          refine lv_iload hx hb dL_law_719 (lv_at hl 8 rfl) ?_
                          refine lv_isub hx hb dL_law_721 ?_
                          refine va_mmin hx hb (hml.trans hl.1.symm) hown (hts (.methodLink RL 124 Lib.Math.min.name) (by decide +kernel)) (hts (.static Lib.Math.min.name) (by decide +kernel)) (hts (.initialized "java/lang/Math") (by decide +kernel)) (hts (.code Lib.Math.min.name Lib.Math.min.code 2 (some .int)) (by decide +kernel)) (Nat.le_of_ble_eq_true rfl) (Nat.le_of_ble_eq_true rfl) (by show _ ≤ (600130 : Nat); omega) (by show _ ≤ (7301080 : Nat); omega) dL_law_722 ?_
                          refine lv_iadd hx hb dL_law_725 ?_
                          refine lv_icmp_eq (tgt := 731) hx hb dL_law_726 (by decide) (fun c_104 => ?_) (fun c_104 => ?_)
                          ·   replace hF := if_t hF c_104
                              refine lv_iload hx hb dL_law_731 (lv_at hl 6 rfl) ?_
                              replace hF := bnd_some hF
                              obtain ⟨t105, hz_105, hF⟩ := hF
                              have J105 : ∀ (H : Heap) (locs : List Loc) (ls : Array Slot), va_P D vwCl (zs_W (zx_W cy h t105) cy hs ad73 z73.2.1 z73.2.2.1 z73.2.2.2) H → va_D A (zs_W (zx_W cy h t105) cy hs ad73 z73.2.1 z73.2.2.1 z73.2.2.2) → va_S A s.heap H locs → lv_has ls 21 [(0, .ref (sa.1 3)), (1, .ref (h 0)), (2, .ref hs), (3, .int x3_22), (5, .int z8), (6, .int (1 + z9)), (7, .int z10.1), (8, .ref (ad73 ((o4.2.2.2).1)))] → W pg l e room_1 s m args below meth c H locs (cu_22 + 118) (su_22 + 9268) Q (F0 m 751 ls []) := by
                                  intro H locs ls hP hD hS hl
                                  refine lv_iload hx hb dL_law_751 (lv_at hl 6 rfl) ?_
                                  replace hF := bnd_some hF
                                  obtain ⟨t108, hz_108, hF⟩ := hF
                                  have J108 : ∀ (H : Heap) (locs : List Loc) (ls : Array Slot), va_P D vwCl (zs_W (zx_W cy h t105) cy hs ad73 z73.2.1 z73.2.2.1 z73.2.2.2) H → va_D A (zs_W (zx_W cy h t105) cy hs ad73 z73.2.1 z73.2.2.1 z73.2.2.2) → va_S A s.heap H locs → lv_has ls 21 [(0, .ref (sa.1 3)), (1, .ref (h 0)), (2, .ref hs), (3, .int x3_22), (5, .int z8), (6, .int (1 + z9)), (7, .int z10.1)] → W pg l e room_1 s m args below meth c H locs (cu_22 + 118) (su_22 + 9268) Q (F0 m 770 ls []) := by
                                      intro H locs ls hP hD hS hl
                                      refine lv_iload hx hb dL_law_770 (lv_at hl 6 rfl) ?_
                                      refine lv_iconst (v := 1) hx hb dL_law_772 (by decide) ?_
                                      replace hF := bnd_some hF
                                      obtain ⟨t112, hz_112, hF⟩ := hF
                                      have J112 : ∀ (H : Heap) (locs : List Loc) (ls : Array Slot), va_P D vwCl (zs_W (zx_W cy h t105) cy hs ad73 z73.2.1 z73.2.2.1 z73.2.2.2) H → va_D A (zs_W (zx_W cy h t105) cy hs ad73 z73.2.1 z73.2.2.1 z73.2.2.2) → va_S A s.heap H locs → lv_has ls 21 [(0, .ref (sa.1 3)), (1, .ref (h 0)), (2, .ref hs), (3, .int x3_22)] → W pg l e room_1 s m args below meth c H locs (cu_22 + 118) (su_22 + 9268) Q (F0 m 790 ls []) := by
                                          intro H locs ls hP hD hS hl
                                          refine lv_iinc (v := x3_22 + 1) (lv' := [(3, .int (x3_22 + 1)), (0, .ref (sa.1 3)), (1, .ref (h 0)), (2, .ref hs)]) hx hb dL_law_790 hl (k := 3) rfl rfl (by decide) rfl (fun ls hl => ?_)
                                          refine lv_goto (tgt := 22) hx hb dL_law_793 (by decide) ?_
                                          exact ih t105 z73.2.1 z73.2.2.1 z73.2.2.2 (x3_22 + 1) o hF ad73 (cu_22 + 118) (su_22 + 9268) T_ TS_ (by omega) (by omega) hT_ hTS_ _ _ _ hw96_0 hf96_0 hP hD hS (lv_sub hl [1, 2, 3, 0] rfl) kk0
                                      replace hF := hz_112
                                      refine lv_icmp_ne (tgt := 790) hx hb dL_law_773 (by decide) (fun c_112 => ?_) (fun c_112 => ?_)
                                      ·   replace hF := if_f hF c_112
                                          cases hF
                                          exact J112 _ _ _ hP hD hS (lv_sub hl [0, 1, 2, 3] rfl)
                                      ·   replace hF := if_t hF c_112
                                          refine lv_aload_n hx hb dL_law_776 rfl (lv_at hl 1 rfl) ?_
                                          refine lv_iload hx hb dL_law_777 (lv_at hl 4 rfl) ?_
                                          refine lv_iconst (v := 1) hx hb dL_law_779 (by decide) ?_
                                          replace hF := bnd_some hF
                                          obtain ⟨z113, hz_113, hF⟩ := hF
                                          refine zw_xI (P2 := zx_W cy h t105) (kV (As := [.int z8, .int 1]) ⟨hx, hb, hml, hown, hts⟩ (kzx_about l D cy sa h t105 z8 1 z113 hz_113 _) (cwV 2 hts gL_law_X5_about rfl rfl rfl (by decide +kernel) ⟨Nat.le_of_ble_eq_true rfl, Nat.le_of_ble_eq_true rfl⟩) hK hP hD hS hA hG (List.range (zx_W cy h t105).length) zw_map1 (zp_nd1 _) zx_at rfl rfl rfl hl.1 [] rfl (Nat.le_of_ble_eq_true rfl) dL_law_780 ⟨(by show _ ≤ (600130 : Nat); omega), (by show _ ≤ (7301080 : Nat); omega)⟩) hP hD hS hA zx_m (fun H locs hP hD hS => ?_)
                                          refine lv_iload hx hb dL_law_783 (lv_at hl 5 rfl) ?_
                                          refine lv_icmp_ge (tgt := 790) hx hb dL_law_785 (by decide) (fun c_114 => ?_) (fun c_114 => ?_)
                                          ·   replace hF := if_t hF c_114
                                              cases hF
                                              exact J112 _ _ _ hP hD hS (lv_sub hl [0, 1, 2, 3] rfl)
                                          ·   replace hF := if_f hF c_114
                                              cases hF
                                  replace hF := hz_108
                                  refine lv_if_ne (tgt := 770) hx hb dL_law_753 (by decide) (fun c_108 => ?_) (fun c_108 => ?_)
                                  ·   replace hF := if_f hF c_108
                                      cases hF
                                      exact J108 _ _ _ hP hD hS (lv_sub hl [0, 1, 2, 3, 4, 5, 6] rfl)
                                  ·   replace hF := if_t hF c_108
                                      refine lv_aload hx hb dL_law_756 (lv_at hl 7 rfl) ?_
                                      refine lv_iload hx hb dL_law_758 (lv_at hl 4 rfl) ?_
                                      replace hF := bnd_some hF
                                      obtain ⟨x109, hz_109, hF⟩ := hF
                                      refine sx_ldr hx hb hK hP hz_109 dL_law_760 ?_
                                      have fx109 : x109 < (z73.2.2.2).1 := zs_ldr_lt hw96_0 hz_109
                                      refine lv_iconst (v := 1) hx hb dL_law_761 (by decide) ?_
                                      replace hF := bnd_some hF
                                      obtain ⟨x110, hz_110, hF⟩ := hF
                                      refine sx_ld hx hb hK hP hz_110 dL_law_762 ?_
                                      refine lv_iload hx hb dL_law_763 (lv_at hl 5 rfl) ?_
                                      refine lv_icmp_ge (tgt := 770) hx hb dL_law_765 (by decide) (fun c_111 => ?_) (fun c_111 => ?_)
                                      ·   replace hF := if_t hF c_111
                                          cases hF
                                          exact J108 _ _ _ hP hD hS (lv_sub hl [0, 1, 2, 3, 4, 5, 6] rfl)
                                      ·   replace hF := if_f hF c_111
                                          cases hF
                              replace hF := hz_105
                              refine lv_if_le (tgt := 751) hx hb dL_law_733 (by decide) (fun c_105 => ?_) (fun c_105 => ?_)
                              ·   replace hF := if_t hF c_105
                                  cases hF
                                  exact J105 _ _ _ hP hD hS (lv_sub hl [0, 1, 2, 3, 4, 5, 6, 7] rfl)
                              ·   replace hF := if_f hF c_105
                                  refine lv_aload_n hx hb dL_law_736 rfl (lv_at hl 1 rfl) ?_
                                  refine lv_iload hx hb dL_law_737 (lv_at hl 4 rfl) ?_
                                  refine lv_iload hx hb dL_law_739 (lv_at hl 5 rfl) ?_
                                  replace hF := bnd_some hF
                                  obtain ⟨z106, hz_106, hF⟩ := hF
                                  refine zw_xI (P2 := zx_W cy h z106.2) (kV (As := [.int z8, .int (1 + z9)]) ⟨hx, hb, hml, hown, hts⟩ (kzx_ripe l D cy sa h z71.2 z8 (1 + z9) z106 hz_106 _) (cwV 2 hts gL_law_X5_ripe rfl rfl rfl (by decide +kernel) ⟨Nat.le_of_ble_eq_true rfl, Nat.le_of_ble_eq_true rfl⟩) hK hP hD hS hA hG (List.range (zx_W cy h z71.2).length) zw_map1 (zp_nd1 _) zx_at rfl rfl rfl hl.1 [] rfl (Nat.le_of_ble_eq_true rfl) dL_law_741 ⟨(by show _ ≤ (600130 : Nat); omega), (by show _ ≤ (7301080 : Nat); omega)⟩) hP hD hS hA zx_m (fun H locs hP hD hS => ?_)
                                  refine lv_iload hx hb dL_law_744 (lv_at hl 6 rfl) ?_
                                  refine lv_iconst (v := 1) hx hb dL_law_746 (by decide) ?_
                                  refine lv_isub hx hb dL_law_747 ?_
                                  refine lv_icmp_ne (tgt := 768) hx hb dL_law_748 (by decide) (fun c_107 => ?_) (fun c_107 => ?_)
                                  ·   replace hF := if_f hF c_107
                                      cases hF
                                  ·   replace hF := if_t hF c_107
                                      cases hF
                                      exact J105 _ _ _ hP hD hS (lv_sub hl [0, 1, 2, 3, 4, 5, 6, 7] rfl)
                          ·   replace hF := if_f hF c_104
                              cases hF
                      ·   replace hF := if_f hF c_74
                          cases hF
              replace hF := hz_22
              refine lv_if_ne (tgt := 207) hx hb dL_law_200 (by decide) (fun c_22 => ?_) (fun c_22 => ?_)
              ·   replace hF := if_f hF c_22
                  refine lv_iconst (v := 3) hx hb dL_law_207 (by decide) ?_
                  refine lv_aload_n hx hb dL_law_208 rfl (lv_at hl 2 rfl) ?_
                  refine va_get (D := D) (C := RX6) (T := TX6) (N := 12) hx hb hts hiX6 hown hK hP _ zs_at rfl 5 (by decide) hf73 (fun _ h9 => h9) rfl dL_law_209 ?_
                  refine lv_aload_n hx hb dL_law_212 rfl (lv_at hl 1 rfl) ?_
                  refine lv_iconst (v := 0) hx hb dL_law_213 (by decide) ?_
                  replace hF := bnd_some hF
                  obtain ⟨z23, hz_23, hF⟩ := hF
                  refine zw_xI (P2 := zx_W cy h z10.2) (kV (As := [.int 0]) ⟨hx, hb, hml, hown, hts⟩ (kzx_count l D cy sa h z10.2 0 z23 hz_23 _) (cwV 1 hts gL_law_X5_count rfl rfl rfl (by decide +kernel) ⟨Nat.le_of_ble_eq_true rfl, Nat.le_of_ble_eq_true rfl⟩) hK hP hD hS hA hG (List.range (zx_W cy h z10.2).length) zw_map1 (zp_nd1 _) zx_at rfl rfl rfl hl.1 [.ref (ad11 (o4.2.2.1 5)), .int 3] rfl (Nat.le_of_ble_eq_true rfl) dL_law_214 ⟨(by show _ ≤ (600130 : Nat); omega), (by show _ ≤ (7301080 : Nat); omega)⟩) hP hD hS hA zx_m (fun H locs hP hD hS => ?_)
                  refine lv_bipush (v := 7) hx hb dL_law_217 (by decide) ?_
                  refine lv_irem hx hb dL_law_219 (by decide) ?_
                  replace hF := bnd_some hF
                  obtain ⟨x24, hz_24, hF⟩ := hF
                  refine sx_ld hx hb hK hP hz_24 dL_law_220 ?_
                  refine lv_imul hx hb dL_law_221 ?_
                  refine lv_iload hx hb dL_law_222 (lv_at hl 8 rfl) ?_
                  replace hF := ckZ_some hF
                  obtain ⟨hz_25, hF⟩ := hF
                  refine lv_idiv hx hb dL_law_224 hz_25 ?_
                  cases hF
                  exact J22 _ _ _ hP hD hS (lv_sub hl [0, 1, 2, 3, 4, 5, 6, 7] rfl)
              ·   replace hF := if_t hF c_22
                  refine lv_iconst (v := 0) hx hb dL_law_203 (by decide) ?_
                  refine lv_goto (tgt := 225) hx hb dL_law_204 (by decide) ?_
                  cases hF
                  exact J22 _ _ _ hP hD hS (lv_sub hl [0, 1, 2, 3, 4, 5, 6, 7] rfl)
  unfold fL_law at hF
  have hP : va_P D vwCl ([] : va_W) s.heap := fun k q h => by simp at h
  have hD : va_D A ([] : va_W) := ⟨fun i j p q h => by simp at h, fun k q h => by simp at h⟩
  refine va_new (ci := 5) (fs := [.null, .null]) (C := RX5) (T := TX5) (N := 2) hx hb hts hiX5 tyX5 tyX5_ok hown (hts (.classLink RL 36 RX5) (by decide +kernel)) (hts (.instantiable RX5 2) (by decide +kernel)) (hts (.initialized RX5) (by decide +kernel)) hK hP hD hS hA rfl (fun j hj => by rcases (show j = 0 ∨ j = 1 by omega) with rfl | rfl <;> rfl) (Nat.le_of_ble_eq_true rfl) (Nat.le_of_ble_eq_true rfl) dL_law_0 (fun q1 H hP hD hS => ?_)
  replace hP : va_P D vwCl ([(q1, .inr (5, [.null, .null]))] : va_W) H := hP
  replace hD : va_D A ([(q1, .inr (5, [.null, .null]))] : va_W) := hD
  refine lv_dup hx hb dL_law_3 rfl ?_
  refine knV (kN (As := []) ⟨hx, hb, hml, hown, hts⟩ (kX5_init l D cy sa (fun _ => q1) _) (cwI 0 hts gL_law_X5_init rfl rfl rfl (hts (.initialized RX5) (by decide +kernel)) (hts (.methodLink RL 106 yX5_init) (by decide +kernel)) (hts (.instanceMethod yX5_init) (by decide +kernel)) rfl (by decide +kernel) ⟨Nat.le_of_ble_eq_true rfl, Nat.le_of_ble_eq_true rfl⟩) hK hP hD hS hA hG [0] rfl rfl rfl hl.1 [.ref q1] rfl (Nat.le_of_ble_eq_true rfl) dL_law_4 ⟨(Nat.le_of_ble_eq_true rfl), (Nat.le_of_ble_eq_true rfl)⟩) hP hD hS hA [0] [] rfl rfl rfl (by decide) (fun ad1 H locs hP hD hS => ?_)
  obtain ⟨h, hh⟩ : ∃ h, h = kh q1 ad1 := ⟨_, rfl⟩
  have hq1 : h 0 = q1 := by rw [hh]; rfl
  replace hP : va_P D vwCl (zx_W cy h zx_0) H := by rw [hh]; exact hP
  replace hD : va_D A (zx_W cy h zx_0) := by rw [hh]; exact hD
  rw [← hq1]
  refine lv_astore_n (lv' := [(1, .ref (h 0)), (0, .ref (sa.1 3))]) hx hb dL_law_7 rfl hl (by decide) rfl (fun ls hl => ?_)
  refine lv_aload_n hx hb dL_law_8 rfl (lv_at hl 0 rfl) ?_
  refine lv_aload_n hx hb dL_law_9 rfl (lv_at hl 1 rfl) ?_
  replace hF := bnd_some hF
  obtain ⟨z0, hz_0, hF⟩ := hF
  refine zc_R (P := []) (kS (As := [.ref (h 0), .ref (sa.1 3)]) ⟨hx, hb, hml, hown, hts⟩ (kL_build l D cy sa h zx_0 z0 hz_0 _) (va_cwS 2 hts gL_law_L_build rfl rfl rfl (by decide +kernel) ⟨Nat.le_of_ble_eq_true rfl, Nat.le_of_ble_eq_true rfl⟩) hK hP hD hS hA hG (List.range' ([] : va_W).length (zx_W cy h zx_0).length) (zp_map2 [] _) (zp_nd2 _ _) rfl hl.1 [] rfl (Nat.le_of_ble_eq_true rfl) dL_law_10 ⟨(Nat.le_of_ble_eq_true rfl), (Nat.le_of_ble_eq_true rfl)⟩) hP hD hS hA (fun u H locs hq hP hD hS => ?_)
  obtain ⟨hs, ad0⟩ := u
  obtain ⟨hw, hf⟩ := hq
  replace hP : va_P D vwCl (zs_W (zx_W cy h z0.1) cy hs ad0 z0.2.1 z0.2.2.1 z0.2.2.2) H := hP
  replace hD : va_D A (zs_W (zx_W cy h z0.1) cy hs ad0 z0.2.1 z0.2.2.1 z0.2.2.2) := hD
  refine lv_astore_n (lv' := [(2, .ref hs), (1, .ref (h 0)), (0, .ref (sa.1 3))]) hx hb dL_law_13 rfl hl (by decide) rfl (fun ls hl => ?_)
  refine lv_aload_n hx hb dL_law_14 rfl (lv_at hl 0 rfl) ?_
  refine lv_ifnonnull (tgt := 20) hx hb dL_law_15 (by decide) ?_
  refine lv_iconst (v := 0) hx hb dL_law_20 (by decide) ?_
  refine lv_istore_n (lv' := [(3, .int 0), (2, .ref hs), (1, .ref (h 0)), (0, .ref (sa.1 3))]) hx hb dL_law_21 rfl hl (by decide) rfl (fun ls hl => ?_)
  replace hF := bnd_some hF
  obtain ⟨o1, hz_1, hF⟩ := hF
  refine L22 h hs 35 z0.1 z0.2.1 z0.2.2.1 z0.2.2.2 0 o1 hz_1 ad0 (3948) (335086) (8078) (659466) (Nat.le_of_ble_eq_true rfl) (Nat.le_of_ble_eq_true rfl) (Nat.le_of_ble_eq_true rfl) (Nat.le_of_ble_eq_true rfl) _ _ _ hw hf hP hD hS (lv_sub hl [3, 2, 1, 0] rfl) (fun ad1_0 H locs ls hw1_0 hf1_0 hP hD hS hl => ?_)
  refine lv_aload_n hx hb dL_law_796 rfl (lv_at hl 1 rfl) ?_
  refine lv_aload_n hx hb dL_law_797 rfl (lv_at hl 0 rfl) ?_
  replace hF := bnd_some hF
  obtain ⟨z115, hz_115, hF⟩ := hF
  refine zc_I (P := []) (kVj (As := [.ref (h 0)]) ⟨hx, hb, hml, hown, hts⟩ (kX6_isSame l D cy sa h hs ad1_0 o1.1 o1.2.1 o1.2.2.1 o1.2.2.2  hw1_0 hf1_0  z115 hz_115 _) (cwV 1 hts gL_law_X6_isSame rfl rfl rfl (by decide +kernel) ⟨Nat.le_of_ble_eq_true rfl, Nat.le_of_ble_eq_true rfl⟩) hK hP hD hS hA hG (List.range' ([] : va_W).length (zs_W (zx_W cy h o1.1) cy hs ad1_0 o1.2.1 o1.2.2.1 o1.2.2.2).length) (zp_map2 [] _) (zp_nd2 _ _) zs_at rfl rfl rfl hl.1 [] rfl (Nat.le_of_ble_eq_true rfl) dL_law_798 ⟨(Nat.le_of_ble_eq_true rfl), (Nat.le_of_ble_eq_true rfl)⟩) hP hD hS hA (fun r115 ad115 H locs hq115 hP hD hS => ?_)
  obtain ⟨rfl, hw115, hf_115, lf115, ha115⟩ := hq115
  replace hl := lv_sub (l' := []) hl [] rfl
  replace hP : va_P D vwCl (zs_W (zx_W cy h o1.1) cy hs ad115 o1.2.1 o1.2.2.1 z115) H := hP
  replace hD : va_D A (zs_W (zx_W cy h o1.1) cy hs ad115 o1.2.1 o1.2.2.1 z115) := hD
  exact hQ _ _ _ _ _ _ dL_law_801 hS (Nat.le_of_ble_eq_true rfl) (Nat.le_of_ble_eq_true rfl)
