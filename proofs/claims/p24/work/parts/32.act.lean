def fLL_act_973 (F_973 : Nat → Nat) (p_973 : zs_H) (x4_973 : Int32) (x18_973 : Int32) (x20_973 : Int32) : Nat → Int32 → Option ((Unit) ⊕ (Unit))
  | 0, _ => none
  | k + 1, x21_973 => if x4_973 ≤ x21_973 then some (.inr ()) else if x21_973 = x18_973 then fLL_act_973 F_973 p_973 x4_973 x18_973 x20_973 k (x21_973 + 1) else if x20_973 < 0 then fLL_act_973 F_973 p_973 x4_973 x18_973 x20_973 k (x21_973 + 1) else (zs_ldr p_973 (F_973 9) x21_973).bind fun x19 => (zs_ld p_973 x19 2).bind fun x20 => if x20 = x20_973 then some (.inl ()) else fLL_act_973 F_973 p_973 x4_973 x18_973 x20_973 k (x21_973 + 1)
def fBL_act_906 (X_906 : XT) (G_906 : FN) (F_906 : Nat → Nat) (p_906 : zs_H) (x2_906 : Int32) (x3_906 : Int32) (x4_906 : Int32) (x5_906 : Int32) : Option (XT × FN × (Nat → Nat) × zs_H) := if x4_906 = 0 then some (X_906, G_906, F_906, p_906) else (fL_below (x2_906 >>> (1 &&& 31)) x4_906).bind fun z8 => (fL_below (x2_906 >>> (3 &&& 31)) 9).bind fun z9 => (if z9 = 0 then some (-1) else some x5_906 : Option (Int32)).bind fun (t10 : Int32) => (if x3_906 = 0 then some (-1) else (fL_below (x2_906 >>> (4 &&& 31)) 9).bind fun z12 => if z12 = 0 then some (-1) else (fL_below (x2_906 >>> (5 &&& 31)) x3_906).bind fun z14 => some z14 : Option (Int32)).bind fun (t11 : Int32) => (fLL_act_973 F_906 p_906 x4_906 z8 t11 300 0).bind fun (o15 : (Unit) ⊕ (Unit)) => Sum.elim (fun y15_0 => some (X_906, G_906, F_906, p_906)) (fun y15_1 => (zs_ldr p_906 (F_906 9) z8).bind fun x22 => (zs_st p_906 x22 1 t10).bind fun p23 => (zs_ldr p23 (F_906 9) z8).bind fun x24 => (zs_st p23 x24 2 t11).bind fun p25 => (zx_place X_906 z8 t10 t11).bind fun z26 => (zs_ldr p25 (F_906 9) z8).bind fun x27 => (fX6_makes G_906 F_906 p25 x27).bind fun z28 => if z26.1 = z28 then some (z26.2, G_906, F_906, p25) else none) o15
def fBL_act_180 (X_180 : XT) (G_180 : FN) (F_180 : Nat → Nat) (p_180 : zs_H) (x7_180 : Int32) (x8_180 : Int32) (x9_180 : Int32) : Option (XT × FN × (Nat → Nat) × zs_H) := (if x7_180 = 3 then some (upd (upd G_180 1 ((G_180 1) - x9_180)) 2 ((G_180 2) + x8_180), p_180) else (zs_ld p_180 (F_180 6) x7_180).bind fun x37 => (zs_st p_180 (F_180 6) x7_180 (x37 + x8_180)).bind fun p38 => some (upd G_180 1 ((G_180 1) - x9_180), p38) : Option (FN × zs_H)).bind fun (t36 : FN × zs_H) => (zx_buy X_180 x7_180 x8_180).bind fun z39 => if x7_180 = 3 then if z39.1 = (t36.1 2) then some (z39.2, t36.1, F_180, t36.2) else none else (zs_ld t36.2 (F_180 6) x7_180).bind fun x41 => if z39.1 = x41 then some (z39.2, t36.1, F_180, t36.2) else none
def fBL_act_108 (X_108 : XT) (G_108 : FN) (F_108 : Nat → Nat) (p_108 : zs_H) (x2_108 : Int32) : Option (XT × FN × (Nat → Nat) × zs_H) := (fL_below (x2_108 >>> (1 &&& 31)) 4).bind fun z31 => (fL_below (x2_108 >>> (4 &&& 31)) 12).bind fun z32 => (if z31 = 3 then some ((1 + z32) * 2) else some ((1 + z32) * (3 - z31)) : Option (Int32)).bind fun (t33 : Int32) => if (G_108 1) < t33 then some (X_108, G_108, F_108, p_108) else if z31 = 3 then if ((G_108 2) + (1 + z32)) ≤ 90 then fBL_act_180 X_108 G_108 F_108 p_108 z31 (1 + z32) t33 else some (X_108, G_108, F_108, p_108) else fBL_act_180 X_108 G_108 F_108 p_108 z31 (1 + z32) t33
def fLL_act_273 (F_273 : Nat → Nat) (p_273 : zs_H) (x6_273 : Int32) : Nat → Int32 → Int32 → Option (Int32)
  | 0, _, _ => none
  | k + 1, x10_273, x11_273 => if 10 ≤ x11_273 then some x10_273 else (zs_ldr p_273 (F_273 11) x10_273).bind fun x50 => (zs_ld p_273 x50 x6_273).bind fun x51 => if 24 ≤ x51 then some x10_273 else fLL_act_273 F_273 p_273 x6_273 k ((x10_273 + 1) - (x10_273 + 1) / 10 * 10) (x11_273 + 1)
def fBL_act_310 (X_310 : XT) (G_310 : FN) (F_310 : Nat → Nat) (p_310 : zs_H) (x2_310 : Int32) (x6_310 : Int32) (x10_310 : Int32) : Option (XT × FN × (Nat → Nat) × zs_H) := (zs_ldr p_310 (F_310 11) x10_310).bind fun x53 => (zs_ld p_310 x53 x6_310).bind fun x54 => if 24 ≤ x54 then (zs_ldr p_310 (F_310 11) x10_310).bind fun x56 => (zs_ld p_310 x56 x6_310).bind fun x57 => (if (x57 / 24) ≤ 9 then (zs_ldr p_310 (F_310 11) x10_310).bind fun x59 => (zs_ld p_310 x59 x6_310).bind fun x60 => some (x60 / 24) else some 9 : Option (Int32)).bind fun (t58 : Int32) => (fL_below (x2_310 >>> (4 &&& 31)) t58).bind fun z61 => (zs_ldr p_310 (F_310 11) x10_310).bind fun x62 => (zs_ld p_310 x62 x6_310).bind fun x63 => (zs_st p_310 x62 x6_310 (x63 - (24 * (1 + z61)))).bind fun p64 => (fX6_worth x6_310).bind fun z65 => (zx_sell X_310 x10_310 x6_310 (1 + z61)).bind fun z66 => (fX6_worth x6_310).bind fun z67 => if z66.1 = ((1 + z61) * z67) then some (z66.2, upd G_310 1 ((G_310 1) + ((1 + z61) * z65)), F_310, p64) else none else some (X_310, G_310, F_310, p_310)
def fBL_act_260 (X_260 : XT) (G_260 : FN) (F_260 : Nat → Nat) (p_260 : zs_H) (x2_260 : Int32) (x6_260 : Int32) : Option (XT × FN × (Nat → Nat) × zs_H) := (fL_below (x2_260 >>> (1 &&& 31)) 10).bind fun z47 => (fLL_act_273 F_260 p_260 x6_260 300 z47 0).bind fun (o48 : Int32) => fBL_act_310 X_260 G_260 F_260 p_260 x2_260 x6_260 o48
def fBL_act_435 (X_435 : XT) (G_435 : FN) (F_435 : Nat → Nat) (p_435 : zs_H) (x2_435 : Int32) (x5_435 : Int32) (x6_435 : Int32) : Option (XT × FN × (Nat → Nat) × zs_H) := (fL_below (x2_435 >>> (4 &&& 31)) 40).bind fun z71 => (zs_ldr p_435 (F_435 7) x5_435).bind fun x72 => (zs_ld p_435 x72 0).bind fun x73 => if 0 < x73 then some (X_435, G_435, F_435, p_435) else (zs_ld p_435 (F_435 6) x6_435).bind fun x75 => if (1 + z71) ≤ x75 then (zs_ld p_435 (F_435 6) x6_435).bind fun x77 => (zs_st p_435 (F_435 6) x6_435 (x77 - (1 + z71))).bind fun p78 => (zs_nwi p78 3 3).bind fun p79 => (zs_st p79 p78.1 0 (1 + z71)).bind fun p80 => (zs_st p80 p78.1 1 0).bind fun p81 => (zs_st p81 p78.1 2 x6_435).bind fun p82 => (zs_str p82 (F_435 7) x5_435 p78.1).bind fun p83 => (zx_fill X_435 x5_435 x6_435 (1 + z71)).bind fun z84 => (zs_ld p83 (F_435 6) x6_435).bind fun x85 => if z84.1 = x85 then some (z84.2, G_435, F_435, p83) else none else some (X_435, G_435, F_435, p_435)
def fBL_act_535 (X_535 : XT) (G_535 : FN) (F_535 : Nat → Nat) (p_535 : zs_H) (x2_535 : Int32) (x5_535 : Int32) : Option (XT × FN × (Nat → Nat) × zs_H) := (zs_ldr p_535 (F_535 7) x5_535).bind fun x91 => (zs_ld p_535 x91 0).bind fun x92 => if x92 = 0 then some (X_535, G_535, F_535, p_535) else (fL_below (x2_535 >>> (3 &&& 31)) 4).bind fun z94 => if z94 ≤ 0 then (zs_ldr p_535 (F_535 7) x5_535).bind fun x96 => (zs_ld p_535 x96 0).bind fun x97 => (zs_nwi p_535 3 3).bind fun p98 => (zs_st p98 p_535.1 0 0).bind fun p99 => (zs_st p99 p_535.1 1 0).bind fun p100 => (zs_st p100 p_535.1 2 (-1)).bind fun p101 => (zs_str p101 (F_535 7) x5_535 p_535.1).bind fun p102 => (zx_drain X_535 x5_535).bind fun z103 => if z103.1 = x97 then some (z103.2, G_535, F_535, p102) else none else some (X_535, G_535, F_535, p_535)
def fBL_act_609 (X_609 : XT) (G_609 : FN) (F_609 : Nat → Nat) (p_609 : zs_H) (x2_609 : Int32) (x3_609 : Int32) : Option (XT × FN × (Nat → Nat) × zs_H) := if x3_609 = 5 then some (X_609, G_609, F_609, p_609) else (zs_nwi p_609 3 3).bind fun p107 => (fL_below (x2_609 >>> (1 &&& 31)) 10).bind fun z108 => (zs_st p107 p_609.1 0 z108).bind fun p109 => (fL_below (x2_609 >>> (5 &&& 31)) 3).bind fun z110 => (zs_st p109 p_609.1 1 (1 + z110)).bind fun p111 => (zs_st p111 p_609.1 2 0).bind fun p112 => (fX6_more p112 (F_609 8) p_609.1).bind fun z113 => (zs_ldr z113.2 z113.1 x3_609).bind fun x115 => (zs_ld z113.2 x115 0).bind fun x116 => (zs_ldr z113.2 z113.1 x3_609).bind fun x117 => (zs_ld z113.2 x117 1).bind fun x118 => (zx_pair X_609 x116 x118).bind fun z119 => if z119.1 = x3_609 then some (z119.2, G_609, va_up F_609 8 z113.1, z113.2) else none
def fBL_act_687 (X_687 : XT) (G_687 : FN) (F_687 : Nat → Nat) (p_687 : zs_H) (x2_687 : Int32) (x3_687 : Int32) : Option (XT × FN × (Nat → Nat) × zs_H) := if x3_687 = 0 then some (X_687, G_687, F_687, p_687) else (fL_below (x2_687 >>> (1 &&& 31)) x3_687).bind fun z124 => (zs_ldr p_687 (F_687 8) z124).bind fun x125 => (zs_ld p_687 x125 2).bind fun x126 => if x126 = 0 then some (X_687, G_687, F_687, p_687) else if 5 ≤ (G_687 1) then (zs_ld p_687 x125 2).bind fun x129 => (zs_st p_687 x125 2 0).bind fun p130 => (fL_below (x2_687 >>> (1 &&& 31)) x3_687).bind fun z131 => (zx_wire X_687 z131).bind fun z132 => if z132.1 = x129 then some (z132.2, upd G_687 1 ((G_687 1) - 5), F_687, p130) else none else some (X_687, G_687, F_687, p_687)
def fBL_act_767 (X_767 : XT) (G_767 : FN) (F_767 : Nat → Nat) (p_767 : zs_H) (x2_767 : Int32) (x4_767 : Int32) : Option (XT × FN × (Nat → Nat) × zs_H) := if x4_767 = 3 then some (X_767, G_767, F_767, p_767) else (zs_nwi p_767 3 3).bind fun p136 => (fL_below (x2_767 >>> (1 &&& 31)) 12).bind fun z137 => (zs_st p136 p_767.1 0 (1 + z137)).bind fun p138 => (zs_st p138 p_767.1 1 (-1)).bind fun p139 => (zs_st p139 p_767.1 2 (-1)).bind fun p140 => (fX6_more p140 (F_767 9) p_767.1).bind fun z141 => (zs_ldr z141.2 z141.1 x4_767).bind fun x143 => (zs_ld z141.2 x143 0).bind fun x144 => (zx_team X_767 x144).bind fun z145 => if z145.1 = x4_767 then some (z145.2, G_767, va_up F_767 9 z141.1, z141.2) else none
def fBL_act_834 (X_834 : XT) (G_834 : FN) (F_834 : Nat → Nat) (p_834 : zs_H) (x2_834 : Int32) : Option (XT × FN × (Nat → Nat) × zs_H) := (fL_below (x2_834 >>> (1 &&& 31)) 7).bind fun z147 => (zs_ld p_834 (F_834 5) z147).bind fun x148 => (zs_cl p_834 (F_834 5) 7).bind fun p149 => (fL_below (x2_834 >>> (4 &&& 31)) 10).bind fun z151 => (zs_st p149 p_834.1 z147 z151).bind fun p152 => (zs_ld p152 p_834.1 z147).bind fun x153 => (zx_setWater X_834 z147 x153).bind fun z154 => if z154.1 = x148 then some (z154.2, G_834, va_up F_834 5 p_834.1, p152) else none
def fL_act (X : XT) (G : FN) (F : Nat → Nat) (p : zs_H) (a3 : Int32) : Option (XT × FN × (Nat → Nat) × zs_H) := (zs_len p (F 8)).bind fun x1 => (zs_len p (F 9)).bind fun x2 => (fL_below a3 4).bind fun z3 => (fL_below (a3 >>> (2 &&& 31)) 3).bind fun z4 => (fL_below (a3 >>> (9 &&& 31)) 18).bind fun z5 => if (z5.toInt < 0 ∨ 13 < z5.toInt) then fBL_act_906 X G F p a3 x1 x2 z3 else if z5.toInt = 0 then fBL_act_108 X G F p a3 else if z5.toInt = 1 then fBL_act_108 X G F p a3 else if z5.toInt = 2 then fBL_act_260 X G F p a3 z4 else if z5.toInt = 3 then fBL_act_260 X G F p a3 z4 else if z5.toInt = 4 then fBL_act_435 X G F p a3 z3 z4 else if z5.toInt = 5 then fBL_act_435 X G F p a3 z3 z4 else if z5.toInt = 6 then fBL_act_435 X G F p a3 z3 z4 else if z5.toInt = 7 then fBL_act_435 X G F p a3 z3 z4 else if z5.toInt = 8 then fBL_act_535 X G F p a3 z3 else if z5.toInt = 9 then fBL_act_609 X G F p a3 x1 else if z5.toInt = 10 then fBL_act_609 X G F p a3 x1 else if z5.toInt = 11 then fBL_act_687 X G F p a3 x1 else if z5.toInt = 12 then fBL_act_767 X G F p a3 x2 else fBL_act_834 X G F p a3
abbrev rL_act : Room := { frames := 4, cells := 2, slots := 95, locals := 91 }
set_option maxHeartbeats 40000000 in
set_option maxRecDepth 100000 in
theorem kL_act (l : Launch) (D : va_G) (cy : Nat → ClassId) (sa : SAT) (h : Nat → Nat) (hs : Nat) (ad : Nat → Nat) (X : XT) (G : FN) (F : Nat → Nat) (p : zs_H) (a3 : Int32) (hw : zs_wf p) (hf : zs_fs F p) (z : XT × FN × (Nat → Nat) × zs_H) (hF : fL_act X G F p a3 = some z) : zg_I l D (tyW cy) sa yL_act wsL_act rL_act [.ref (h 0), .ref hs, .int a3] (zs_W (zx_W cy h X) cy hs ad G F p) (fun r u => r = 1 ∧ zs_ok p z.2.2.1 z.2.2.2 ad u) (fun u => zs_W (zx_W cy h z.1) cy hs u z.2.1 z.2.2.1 z.2.2.2) 2 95 := by
  refine zg_I.ofZ (cc := cL_act) (maxL := 22) (by decide +kernel) rfl (Nat.le_of_ble_eq_true rfl) ?_
  intro pg e s m args below meth c A ls Q hE hQ
  obtain ⟨hx, hb, hml, hown, hts, hA, hP, hK, hD, hG, hl, hnm⟩ := hE
  replace hown : s.vm.findClass RL = some m.cls := hown
  have hiX6 : ∀ w ∈ u_ws RX6 TX6 12, w ∈ wsL_act := by decide +kernel
  have hf9 : (Cond.fieldLink RL 9 "RagVatsLaw$Sim" "pairs" "[[I").before args s = true := hts _ (by decide +kernel)
  have hf15 : (Cond.fieldLink RL 15 "RagVatsLaw$Sim" "teams" "[[I").before args s = true := hts _ (by decide +kernel)
  have hf24 : (Cond.fieldLink RL 24 "RagVatsLaw$Sim" "coins" "I").before args s = true := hts _ (by decide +kernel)
  have hf28 : (Cond.fieldLink RL 28 "RagVatsLaw$Sim" "felts" "I").before args s = true := hts _ (by decide +kernel)
  have hf31 : (Cond.fieldLink RL 31 "RagVatsLaw$Sim" "rags" "[I").before args s = true := hts _ (by decide +kernel)
  have hf40 : (Cond.fieldLink RL 40 "RagVatsLaw$Sim" "loft" "[[I").before args s = true := hts _ (by decide +kernel)
  have hf51 : (Cond.fieldLink RL 51 "RagVatsLaw$Sim" "vats" "[[I").before args s = true := hts _ (by decide +kernel)
  have hf73 : (Cond.fieldLink RL 73 "RagVatsLaw$Sim" "water" "[I").before args s = true := hts _ (by decide +kernel)
  replace hl : lv_has ls 22 [(0, .ref (h 0)), (1, .ref hs), (2, .int a3)] := hl
  have hS : va_S A s.heap s.heap [] := va_S.rf
  have L973 : ∀ (k : Nat) (X_973 : XT) (G_973 : FN) (F_973 : Nat → Nat) (p_973 : zs_H) (x4_973 : Int32) (x18_973 : Int32) (x19_973 : Int32) (x20_973 : Int32) (x21_973 : Int32) (o : (Unit) ⊕ (Unit)), fLL_act_973 F_973 p_973 x4_973 x18_973 x20_973 k x21_973 = some o → ∀ (ad_973 : Nat → Nat) (cu_973 su_973 T_ TS_ : Nat), cu_973 + 0 * k ≤ T_ → su_973 + 0 * k ≤ TS_ → T_ ≤ 2 → TS_ ≤ 95 → ∀ (H : Heap) (locs : List Loc) (ls : Array Slot), zs_wf p_973 → zs_fs F_973 p_973 → p.1 ≤ (p_973).1 → (∀ i, i < p.1 → ad_973 i = ad i) → va_P D vwCl (zs_W (zx_W cy h X_973) cy hs ad_973 G_973 F_973 p_973) H → va_D A (zs_W (zx_W cy h X_973) cy hs ad_973 G_973 F_973 p_973) → va_S A s.heap H locs → lv_has ls 22 [(0, .ref (h 0)), (1, .ref hs), (4, .int x4_973), (18, .int x18_973), (19, .int x19_973), (20, .int x20_973), (21, .int x21_973)] → (∀ o0, o = .inl o0 → ∀ (H : Heap) (locs : List Loc) (ls : Array Slot), zs_wf p_973 → zs_fs F_973 p_973 → p.1 ≤ (p_973).1 → (∀ i, i < p.1 → ad_973 i = ad i) → va_P D vwCl (zs_W (zx_W cy h X_973) cy hs ad_973 G_973 F_973 p_973) H → va_D A (zs_W (zx_W cy h X_973) cy hs ad_973 G_973 F_973 p_973) → va_S A s.heap H locs → lv_has ls 22 [] → W pg l e rL_act s m args below meth c H locs T_ TS_ Q (F0 m 1006 ls [])) → (∀ o1, o = .inr o1 → ∀ (H : Heap) (locs : List Loc) (ls : Array Slot), zs_wf p_973 → zs_fs F_973 p_973 → p.1 ≤ (p_973).1 → (∀ i, i < p.1 → ad_973 i = ad i) → va_P D vwCl (zs_W (zx_W cy h X_973) cy hs ad_973 G_973 F_973 p_973) H → va_D A (zs_W (zx_W cy h X_973) cy hs ad_973 G_973 F_973 p_973) → va_S A s.heap H locs → lv_has ls 22 [(0, .ref (h 0)), (1, .ref hs), (18, .int x18_973), (19, .int x19_973), (20, .int x20_973)] → W pg l e rL_act s m args below meth c H locs T_ TS_ Q (F0 m 1014 ls [])) → W pg l e rL_act s m args below meth c H locs cu_973 su_973 Q (F0 m 973 ls []) := by
      intro k
      induction k with
      | zero =>
          intro X_973 G_973 F_973 p_973 x4_973 x18_973 x19_973 x20_973 x21_973 o hF
          rw [fLL_act_973] at hF
          cases hF
      | succ k ih =>
          intro X_973 G_973 F_973 p_973 x4_973 x18_973 x19_973 x20_973 x21_973 o hF ad_973 cu_973 su_973 T_ TS_ hcu_ hsu_ hT_ hTS_ H locs ls hw_973 hf_973 le_973 ha_973 hP hD hS hl kk0 kk1
          rw [fLL_act_973] at hF
          refine lv_iload hx hb dL_act_973 (lv_at hl 6 rfl) ?_
          refine lv_iload hx hb dL_act_975 (lv_at hl 2 rfl) ?_
          refine lv_icmp_ge (tgt := 1014) hx hb dL_act_977 (by decide) (fun c_16 => ?_) (fun c_16 => ?_)
          ·   replace hF := if_t hF c_16
              cases hF
              refine W.widen (k := T_) (n := TS_) (by omega) (by omega) ?_
              exact kk1 _ rfl _ _ _ hw_973 hf_973 le_973 ha_973 hP hD hS (lv_sub hl [0, 1, 3, 4, 5] rfl)
          ·   replace hF := if_f hF c_16
              refine lv_iload hx hb dL_act_980 (lv_at hl 6 rfl) ?_
              refine lv_iload hx hb dL_act_982 (lv_at hl 3 rfl) ?_
              refine lv_icmp_eq (tgt := 1008) hx hb dL_act_984 (by decide) (fun c_17 => ?_) (fun c_17 => ?_)
              ·   replace hF := if_t hF c_17
                  refine lv_iinc (v := x21_973 + 1) (lv' := [(21, .int (x21_973 + 1)), (0, .ref (h 0)), (1, .ref hs), (4, .int x4_973), (18, .int x18_973), (19, .int x19_973), (20, .int x20_973)]) hx hb dL_act_1008 hl (k := 6) rfl rfl (by decide) rfl (fun ls hl => ?_)
                  refine lv_goto (tgt := 973) hx hb dL_act_1011 (by decide) ?_
                  exact ih X_973 G_973 F_973 p_973 x4_973 x18_973 x19_973 x20_973 (x21_973 + 1) o hF ad_973 (cu_973) (su_973) T_ TS_ (by omega) (by omega) hT_ hTS_ _ _ _ hw_973 hf_973 le_973 ha_973 hP hD hS (lv_sub hl [1, 2, 3, 4, 5, 6, 0] rfl) kk0 kk1
              ·   replace hF := if_f hF c_17
                  refine lv_iload hx hb dL_act_987 (lv_at hl 5 rfl) ?_
                  refine lv_if_lt (tgt := 1008) hx hb dL_act_989 (by decide) (fun c_18 => ?_) (fun c_18 => ?_)
                  ·   replace hF := if_t hF c_18
                      refine lv_iinc (v := x21_973 + 1) (lv' := [(21, .int (x21_973 + 1)), (0, .ref (h 0)), (1, .ref hs), (4, .int x4_973), (18, .int x18_973), (19, .int x19_973), (20, .int x20_973)]) hx hb dL_act_1008 hl (k := 6) rfl rfl (by decide) rfl (fun ls hl => ?_)
                      refine lv_goto (tgt := 973) hx hb dL_act_1011 (by decide) ?_
                      exact ih X_973 G_973 F_973 p_973 x4_973 x18_973 x19_973 x20_973 (x21_973 + 1) o hF ad_973 (cu_973) (su_973) T_ TS_ (by omega) (by omega) hT_ hTS_ _ _ _ hw_973 hf_973 le_973 ha_973 hP hD hS (lv_sub hl [1, 2, 3, 4, 5, 6, 0] rfl) kk0 kk1
                  ·   replace hF := if_f hF c_18
                      refine lv_aload_n hx hb dL_act_992 rfl (lv_at hl 1 rfl) ?_
                      refine va_get (D := D) (C := RX6) (T := TX6) (N := 12) hx hb hts hiX6 hown hK hP _ zs_at rfl 9 (by decide) hf15 (fun _ h9 => h9) rfl dL_act_993 ?_
                      refine lv_iload hx hb dL_act_996 (lv_at hl 6 rfl) ?_
                      replace hF := bnd_some hF
                      obtain ⟨x19, hz_19, hF⟩ := hF
                      refine sx_ldr hx hb hK hP hz_19 dL_act_998 ?_
                      have fx19 : x19 < (p_973).1 := zs_ldr_lt hw_973 hz_19
                      refine lv_iconst (v := 2) hx hb dL_act_999 (by decide) ?_
                      replace hF := bnd_some hF
                      obtain ⟨x20, hz_20, hF⟩ := hF
                      refine sx_ld hx hb hK hP hz_20 dL_act_1000 ?_
                      refine lv_iload hx hb dL_act_1001 (lv_at hl 5 rfl) ?_
                      refine lv_icmp_ne (tgt := 1008) hx hb dL_act_1003 (by decide) (fun c_21 => ?_) (fun c_21 => ?_)
                      ·   replace hF := if_f hF c_21
                          refine lv_iinc (v := x21_973 + 1) (lv' := [(21, .int (x21_973 + 1)), (0, .ref (h 0)), (1, .ref hs), (4, .int x4_973), (18, .int x18_973), (19, .int x19_973), (20, .int x20_973)]) hx hb dL_act_1008 hl (k := 6) rfl rfl (by decide) rfl (fun ls hl => ?_)
                          refine lv_goto (tgt := 973) hx hb dL_act_1011 (by decide) ?_
                          exact ih X_973 G_973 F_973 p_973 x4_973 x18_973 x19_973 x20_973 (x21_973 + 1) o hF ad_973 (cu_973) (su_973) T_ TS_ (by omega) (by omega) hT_ hTS_ _ _ _ hw_973 hf_973 le_973 ha_973 hP hD hS (lv_sub hl [1, 2, 3, 4, 5, 6, 0] rfl) kk0 kk1
                      ·   replace hF := if_t hF c_21
                          cases hF
                          refine W.widen (k := T_) (n := TS_) (by omega) (by omega) ?_
                          exact kk0 _ rfl _ _ _ hw_973 hf_973 le_973 ha_973 hP hD hS (lv_sub hl [] rfl)
  have B906 : ∀ (X_906 : XT) (G_906 : FN) (F_906 : Nat → Nat) (p_906 : zs_H) (x2_906 : Int32) (x3_906 : Int32) (x4_906 : Int32) (x5_906 : Int32), fBL_act_906 X_906 G_906 F_906 p_906 x2_906 x3_906 x4_906 x5_906 = some z → ∀ (ad_906 : Nat → Nat) (H : Heap) (locs : List Loc) (ls : Array Slot), zs_wf p_906 → zs_fs F_906 p_906 → p.1 ≤ (p_906).1 → (∀ i, i < p.1 → ad_906 i = ad i) → va_P D vwCl (zs_W (zx_W cy h X_906) cy hs ad_906 G_906 F_906 p_906) H → va_D A (zs_W (zx_W cy h X_906) cy hs ad_906 G_906 F_906 p_906) → va_S A s.heap H locs → lv_has ls 22 [(0, .ref (h 0)), (1, .ref hs), (2, .int x2_906), (3, .int x3_906), (4, .int x4_906), (5, .int x5_906)] → W pg l e rL_act s m args below meth c H locs (0) (0) Q (F0 m 906 ls []) := by
      intro X_906 G_906 F_906 p_906 x2_906 x3_906 x4_906 x5_906 hF ad_906 H locs ls hw_906 hf_906 le_906 ha_906 hP hD hS hl
      unfold fBL_act_906 at hF
      refine lv_iload hx hb dL_act_906 (lv_at hl 4 rfl) ?_
      refine lv_if_ne (tgt := 913) hx hb dL_act_908 (by decide) (fun c_7 => ?_) (fun c_7 => ?_)
      ·   replace hF := if_f hF c_7
          refine lv_iload_n hx hb dL_act_913 rfl (lv_at hl 2 rfl) ?_
          refine lv_iconst (v := 1) hx hb dL_act_914 (by decide) ?_
          refine lv_ishr hx hb dL_act_915 ?_
          refine lv_iload hx hb dL_act_916 (lv_at hl 4 rfl) ?_
          replace hF := bnd_some hF
          obtain ⟨z8, hz_8, hF⟩ := hF
          refine krI (kS (As := [.int (x2_906 >>> (1 &&& 31)), .int x4_906]) ⟨hx, hb, hml, hown, hts⟩ (kL_below l D cy sa (x2_906 >>> (1 &&& 31)) x4_906 z8 hz_8 _) (va_cwS 2 hts gL_act_L_below rfl rfl rfl (by decide +kernel) ⟨Nat.le_of_ble_eq_true rfl, Nat.le_of_ble_eq_true rfl⟩) hK hP hD hS hA hG [] rfl rfl rfl hl.1 [] rfl (Nat.le_of_ble_eq_true rfl) dL_act_918 ⟨(Nat.le_of_ble_eq_true rfl), (Nat.le_of_ble_eq_true rfl)⟩) hP hD hS hA [] rfl (fun H locs hP hS => ?_)
          refine lv_istore (lv' := [(18, .int z8), (0, .ref (h 0)), (1, .ref hs), (2, .int x2_906), (3, .int x3_906), (4, .int x4_906), (5, .int x5_906)]) hx hb dL_act_921 hl (by decide) rfl (fun ls hl => ?_)
          refine lv_iload_n hx hb dL_act_923 rfl (lv_at hl 3 rfl) ?_
          refine lv_iconst (v := 3) hx hb dL_act_924 (by decide) ?_
          refine lv_ishr hx hb dL_act_925 ?_
          refine lv_bipush (v := 9) hx hb dL_act_926 (by decide) ?_
          replace hF := bnd_some hF
          obtain ⟨z9, hz_9, hF⟩ := hF
          refine krI (kS (As := [.int (x2_906 >>> (3 &&& 31)), .int 9]) ⟨hx, hb, hml, hown, hts⟩ (kL_below l D cy sa (x2_906 >>> (3 &&& 31)) 9 z9 hz_9 _) (va_cwS 2 hts gL_act_L_below rfl rfl rfl (by decide +kernel) ⟨Nat.le_of_ble_eq_true rfl, Nat.le_of_ble_eq_true rfl⟩) hK hP hD hS hA hG [] rfl rfl rfl hl.1 [] rfl (Nat.le_of_ble_eq_true rfl) dL_act_928 ⟨(Nat.le_of_ble_eq_true rfl), (Nat.le_of_ble_eq_true rfl)⟩) hP hD hS hA [] rfl (fun H locs hP hS => ?_)
          replace hF := bnd_some hF
          obtain ⟨t10, hz_10, hF⟩ := hF
          have J10 : ∀ (H : Heap) (locs : List Loc) (ls : Array Slot), va_P D vwCl (zs_W (zx_W cy h X_906) cy hs ad_906 G_906 F_906 p_906) H → va_D A (zs_W (zx_W cy h X_906) cy hs ad_906 G_906 F_906 p_906) → va_S A s.heap H locs → lv_has ls 22 [(0, .ref (h 0)), (1, .ref hs), (2, .int x2_906), (3, .int x3_906), (4, .int x4_906), (18, .int z8)] → W pg l e rL_act s m args below meth c H locs (0) (0) Q (F0 m 940 ls [.int t10]) := by
              intro H locs ls hP hD hS hl
              refine lv_istore (lv' := [(19, .int t10), (0, .ref (h 0)), (1, .ref hs), (2, .int x2_906), (3, .int x3_906), (4, .int x4_906), (18, .int z8)]) hx hb dL_act_940 hl (by decide) rfl (fun ls hl => ?_)
              refine lv_iload_n hx hb dL_act_942 rfl (lv_at hl 4 rfl) ?_
              replace hF := bnd_some hF
              obtain ⟨t11, hz_11, hF⟩ := hF
              have J11 : ∀ (H : Heap) (locs : List Loc) (ls : Array Slot), va_P D vwCl (zs_W (zx_W cy h X_906) cy hs ad_906 G_906 F_906 p_906) H → va_D A (zs_W (zx_W cy h X_906) cy hs ad_906 G_906 F_906 p_906) → va_S A s.heap H locs → lv_has ls 22 [(0, .ref (h 0)), (1, .ref hs), (4, .int x4_906), (18, .int z8), (19, .int t10)] → W pg l e rL_act s m args below meth c H locs (0) (0) Q (F0 m 968 ls [.int t11]) := by
                  intro H locs ls hP hD hS hl
                  refine lv_istore (lv' := [(20, .int t11), (0, .ref (h 0)), (1, .ref hs), (4, .int x4_906), (18, .int z8), (19, .int t10)]) hx hb dL_act_968 hl (by decide) rfl (fun ls hl => ?_)
                  refine lv_iconst (v := 0) hx hb dL_act_970 (by decide) ?_
                  refine lv_istore (lv' := [(21, .int 0), (20, .int t11), (0, .ref (h 0)), (1, .ref hs), (4, .int x4_906), (18, .int z8), (19, .int t10)]) hx hb dL_act_971 hl (by decide) rfl (fun ls hl => ?_)
                  replace hF := bnd_some hF
                  obtain ⟨o15, hz_15, hF⟩ := hF
                  cases o15 with
                  | inl y15_0 =>
                      refine L973 300 X_906 G_906 F_906 p_906 x4_906 z8 t10 t11 0 (.inl y15_0) hz_15 ad_906 (0) (0) (0) (0) (Nat.le_of_ble_eq_true rfl) (Nat.le_of_ble_eq_true rfl) (Nat.le_of_ble_eq_true rfl) (Nat.le_of_ble_eq_true rfl) _ _ _ hw_906 hf_906 le_906 ha_906 hP hD hS (lv_sub hl [2, 3, 4, 5, 6, 1, 0] rfl) (fun _ h9 => ?_) (fun _ h9 => by cases h9)
                      cases h9
                      intro H locs ls hw15_0 hf15_0 le15_0 ha15_0 hP hD hS hl
                      refine lv_iconst (v := 1) hx hb dL_act_1006 (by decide) ?_
                      cases hF
                      exact hQ _ _ _ _ _ _ _ ad_906 rfl dL_act_1007 ⟨rfl, ⟨hw15_0, hf15_0, le15_0, ha15_0⟩⟩ hP hD hS (Nat.le_of_ble_eq_true rfl) (Nat.le_of_ble_eq_true rfl)
                  | inr y15_1 =>
                      refine L973 300 X_906 G_906 F_906 p_906 x4_906 z8 t10 t11 0 (.inr y15_1) hz_15 ad_906 (0) (0) (0) (0) (Nat.le_of_ble_eq_true rfl) (Nat.le_of_ble_eq_true rfl) (Nat.le_of_ble_eq_true rfl) (Nat.le_of_ble_eq_true rfl) _ _ _ hw_906 hf_906 le_906 ha_906 hP hD hS (lv_sub hl [2, 3, 4, 5, 6, 1, 0] rfl) (fun _ h9 => by cases h9) (fun _ h9 => ?_)
                      cases h9
                      intro H locs ls hw15_1 hf15_1 le15_1 ha15_1 hP hD hS hl
                      refine lv_aload_n hx hb dL_act_1014 rfl (lv_at hl 1 rfl) ?_
                      refine va_get (D := D) (C := RX6) (T := TX6) (N := 12) hx hb hts hiX6 hown hK hP _ zs_at rfl 9 (by decide) hf15 (fun _ h9 => h9) rfl dL_act_1015 ?_
                      refine lv_iload hx hb dL_act_1018 (lv_at hl 2 rfl) ?_
                      replace hF := bnd_some hF
                      obtain ⟨x22, hz_22, hF⟩ := hF
                      refine sx_ldr hx hb hK hP hz_22 dL_act_1020 ?_
                      have fx22 : x22 < (p_906).1 := zs_ldr_lt hw15_1 hz_22
                      refine lv_iconst (v := 1) hx hb dL_act_1021 (by decide) ?_
                      refine lv_iload hx hb dL_act_1022 (lv_at hl 3 rfl) ?_
                      replace hF := bnd_some hF
                      obtain ⟨p23, hz_23, hF⟩ := hF
                      refine sx_st hx hb hK hP hD hS hz_23 dL_act_1024 (fun H locs hP hD hS => ?_)
                      obtain ⟨hw23, hn23⟩ := zs_st_wf hw15_1 hz_23
                      have lf23 : (p_906).1 ≤ p23.1 := Nat.le_of_eq hn23.symm
                      have hf_23 := zs_fs_le hf15_1 lf23
                      have le23 : p.1 ≤ (p23).1 := Nat.le_trans le15_1 lf23
                      replace hP : va_P D vwCl (zs_W (zx_W cy h X_906) cy hs ad_906 G_906 F_906 p23) H := hP
                      replace hD : va_D A (zs_W (zx_W cy h X_906) cy hs ad_906 G_906 F_906 p23) := hD
                      refine lv_aload_n hx hb dL_act_1025 rfl (lv_at hl 1 rfl) ?_
                      refine va_get (D := D) (C := RX6) (T := TX6) (N := 12) hx hb hts hiX6 hown hK hP _ zs_at rfl 9 (by decide) hf15 (fun _ h9 => h9) rfl dL_act_1026 ?_
                      refine lv_iload hx hb dL_act_1029 (lv_at hl 2 rfl) ?_
                      replace hF := bnd_some hF
                      obtain ⟨x24, hz_24, hF⟩ := hF
                      refine sx_ldr hx hb hK hP hz_24 dL_act_1031 ?_
                      have fx24 : x24 < (p23).1 := zs_ldr_lt hw23 hz_24
                      refine lv_iconst (v := 2) hx hb dL_act_1032 (by decide) ?_
                      refine lv_iload hx hb dL_act_1033 (lv_at hl 4 rfl) ?_
                      replace hF := bnd_some hF
                      obtain ⟨p25, hz_25, hF⟩ := hF
                      refine sx_st hx hb hK hP hD hS hz_25 dL_act_1035 (fun H locs hP hD hS => ?_)
                      obtain ⟨hw25, hn25⟩ := zs_st_wf hw23 hz_25
                      have lf25 : (p23).1 ≤ p25.1 := Nat.le_of_eq hn25.symm
                      have hf_25 := zs_fs_le hf_23 lf25
                      have le25 : p.1 ≤ (p25).1 := Nat.le_trans le23 lf25
                      replace hP : va_P D vwCl (zs_W (zx_W cy h X_906) cy hs ad_906 G_906 F_906 p25) H := hP
                      replace hD : va_D A (zs_W (zx_W cy h X_906) cy hs ad_906 G_906 F_906 p25) := hD
                      refine lv_aload_n hx hb dL_act_1036 rfl (lv_at hl 0 rfl) ?_
                      refine lv_iload hx hb dL_act_1037 (lv_at hl 2 rfl) ?_
                      refine lv_iload hx hb dL_act_1039 (lv_at hl 3 rfl) ?_
                      refine lv_iload hx hb dL_act_1041 (lv_at hl 4 rfl) ?_
                      replace hF := bnd_some hF
                      obtain ⟨z26, hz_26, hF⟩ := hF
                      refine zw_xI (P2 := zx_W cy h z26.2) (kV (As := [.int z8, .int t10, .int t11]) ⟨hx, hb, hml, hown, hts⟩ (kzx_place l D cy sa h X_906 z8 t10 t11 z26 hz_26 _) (cwV 3 hts gL_act_X5_place rfl rfl rfl (by decide +kernel) ⟨Nat.le_of_ble_eq_true rfl, Nat.le_of_ble_eq_true rfl⟩) hK hP hD hS hA hG (List.range (zx_W cy h X_906).length) zw_map1 (zp_nd1 _) zx_at rfl rfl rfl hl.1 [] rfl (Nat.le_of_ble_eq_true rfl) dL_act_1043 ⟨(Nat.le_of_ble_eq_true rfl), (Nat.le_of_ble_eq_true rfl)⟩) hP hD hS hA zx_m (fun H locs hP hD hS => ?_)
                      refine lv_aload_n hx hb dL_act_1046 rfl (lv_at hl 1 rfl) ?_
                      refine lv_aload_n hx hb dL_act_1047 rfl (lv_at hl 1 rfl) ?_
                      refine va_get (D := D) (C := RX6) (T := TX6) (N := 12) hx hb hts hiX6 hown hK hP _ zs_at rfl 9 (by decide) hf15 (fun _ h9 => h9) rfl dL_act_1048 ?_
                      refine lv_iload hx hb dL_act_1051 (lv_at hl 2 rfl) ?_
                      replace hF := bnd_some hF
                      obtain ⟨x27, hz_27, hF⟩ := hF
                      refine sx_ldr hx hb hK hP hz_27 dL_act_1053 ?_
                      have fx27 : x27 < (p25).1 := zs_ldr_lt hw25 hz_27
                      replace hF := bnd_some hF
                      obtain ⟨z28, hz_28, hF⟩ := hF
                      refine zw_rI (kV (As := [.ref (ad_906 x27)]) ⟨hx, hb, hml, hown, hts⟩ (kX6_makes l D cy sa hs ad_906 G_906 F_906 p25 x27 z28 hz_28 _) (cwV 1 hts gL_act_X6_makes rfl rfl rfl (by decide +kernel) ⟨Nat.le_of_ble_eq_true rfl, Nat.le_of_ble_eq_true rfl⟩) hK hP hD hS hA hG (List.range' ((zx_W cy h z26.2) : va_W).length (zs_W [] cy hs ad_906 G_906 F_906 p25).length) zw_map2 (zp_nd2 _ _) (zs_at (P := [])) rfl rfl rfl hl.1 [.int z26.1] rfl (Nat.le_of_ble_eq_true rfl) dL_act_1054 ⟨(Nat.le_of_ble_eq_true rfl), (Nat.le_of_ble_eq_true rfl)⟩) hP hD hS hA (fun H locs hP hS => ?_)
                      refine lv_icmp_ne (tgt := 1064) hx hb dL_act_1057 (by decide) (fun c_29 => ?_) (fun c_29 => ?_)
                      ·   replace hF := if_f hF c_29
                          cases hF
                      ·   replace hF := if_t hF c_29
                          refine lv_iconst (v := 1) hx hb dL_act_1060 (by decide) ?_
                          refine lv_goto (tgt := 1065) hx hb dL_act_1061 (by decide) ?_
                          cases hF
                          exact hQ _ _ _ _ _ _ _ ad_906 rfl dL_act_1065 ⟨rfl, ⟨hw25, hf_25, le25, ha15_1⟩⟩ hP hD hS (Nat.le_of_ble_eq_true rfl) (Nat.le_of_ble_eq_true rfl)
              replace hF := hz_11
              refine lv_if_eq (tgt := 957) hx hb dL_act_943 (by decide) (fun c_11 => ?_) (fun c_11 => ?_)
              ·   replace hF := if_t hF c_11
                  refine lv_iconst (v := -1) hx hb dL_act_957 (by decide) ?_
                  refine lv_goto (tgt := 968) hx hb dL_act_958 (by decide) ?_
                  cases hF
                  exact J11 _ _ _ hP hD hS (lv_sub hl [1, 2, 5, 6, 0] rfl)
              ·   replace hF := if_f hF c_11
                  refine lv_iload_n hx hb dL_act_946 rfl (lv_at hl 3 rfl) ?_
                  refine lv_iconst (v := 4) hx hb dL_act_947 (by decide) ?_
                  refine lv_ishr hx hb dL_act_948 ?_
                  refine lv_bipush (v := 9) hx hb dL_act_949 (by decide) ?_
                  replace hF := bnd_some hF
                  obtain ⟨z12, hz_12, hF⟩ := hF
                  refine krI (kS (As := [.int (x2_906 >>> (4 &&& 31)), .int 9]) ⟨hx, hb, hml, hown, hts⟩ (kL_below l D cy sa (x2_906 >>> (4 &&& 31)) 9 z12 hz_12 _) (va_cwS 2 hts gL_act_L_below rfl rfl rfl (by decide +kernel) ⟨Nat.le_of_ble_eq_true rfl, Nat.le_of_ble_eq_true rfl⟩) hK hP hD hS hA hG [] rfl rfl rfl hl.1 [] rfl (Nat.le_of_ble_eq_true rfl) dL_act_951 ⟨(Nat.le_of_ble_eq_true rfl), (Nat.le_of_ble_eq_true rfl)⟩) hP hD hS hA [] rfl (fun H locs hP hS => ?_)
                  refine lv_if_ne (tgt := 961) hx hb dL_act_954 (by decide) (fun c_13 => ?_) (fun c_13 => ?_)
                  ·   replace hF := if_f hF c_13
                      refine lv_iload_n hx hb dL_act_961 rfl (lv_at hl 3 rfl) ?_
                      refine lv_iconst (v := 5) hx hb dL_act_962 (by decide) ?_
                      refine lv_ishr hx hb dL_act_963 ?_
                      refine lv_iload_n hx hb dL_act_964 rfl (lv_at hl 4 rfl) ?_
                      replace hF := bnd_some hF
                      obtain ⟨z14, hz_14, hF⟩ := hF
                      refine krI (kS (As := [.int (x2_906 >>> (5 &&& 31)), .int x3_906]) ⟨hx, hb, hml, hown, hts⟩ (kL_below l D cy sa (x2_906 >>> (5 &&& 31)) x3_906 z14 hz_14 _) (va_cwS 2 hts gL_act_L_below rfl rfl rfl (by decide +kernel) ⟨Nat.le_of_ble_eq_true rfl, Nat.le_of_ble_eq_true rfl⟩) hK hP hD hS hA hG [] rfl rfl rfl hl.1 [] rfl (Nat.le_of_ble_eq_true rfl) dL_act_965 ⟨(Nat.le_of_ble_eq_true rfl), (Nat.le_of_ble_eq_true rfl)⟩) hP hD hS hA [] rfl (fun H locs hP hS => ?_)
                      cases hF
                      exact J11 _ _ _ hP hD hS (lv_sub hl [1, 2, 5, 6, 0] rfl)
                  ·   replace hF := if_t hF c_13
                      refine lv_iconst (v := -1) hx hb dL_act_957 (by decide) ?_
                      refine lv_goto (tgt := 968) hx hb dL_act_958 (by decide) ?_
                      cases hF
                      exact J11 _ _ _ hP hD hS (lv_sub hl [1, 2, 5, 6, 0] rfl)
          replace hF := hz_10
          refine lv_if_ne (tgt := 938) hx hb dL_act_931 (by decide) (fun c_10 => ?_) (fun c_10 => ?_)
          ·   replace hF := if_f hF c_10
              refine lv_iload hx hb dL_act_938 (lv_at hl 6 rfl) ?_
              cases hF
              exact J10 _ _ _ hP hD hS (lv_sub hl [1, 2, 3, 4, 5, 0] rfl)
          ·   replace hF := if_t hF c_10
              refine lv_iconst (v := -1) hx hb dL_act_934 (by decide) ?_
              refine lv_goto (tgt := 940) hx hb dL_act_935 (by decide) ?_
              cases hF
              exact J10 _ _ _ hP hD hS (lv_sub hl [1, 2, 3, 4, 5, 0] rfl)
      ·   replace hF := if_t hF c_7
          refine lv_iconst (v := 1) hx hb dL_act_911 (by decide) ?_
          cases hF
          exact hQ _ _ _ _ _ _ _ ad_906 rfl dL_act_912 ⟨rfl, ⟨hw_906, hf_906, le_906, ha_906⟩⟩ hP hD hS (Nat.le_of_ble_eq_true rfl) (Nat.le_of_ble_eq_true rfl)
  have B180 : ∀ (X_180 : XT) (G_180 : FN) (F_180 : Nat → Nat) (p_180 : zs_H) (x7_180 : Int32) (x8_180 : Int32) (x9_180 : Int32), fBL_act_180 X_180 G_180 F_180 p_180 x7_180 x8_180 x9_180 = some z → ∀ (ad_180 : Nat → Nat) (H : Heap) (locs : List Loc) (ls : Array Slot), zs_wf p_180 → zs_fs F_180 p_180 → p.1 ≤ (p_180).1 → (∀ i, i < p.1 → ad_180 i = ad i) → va_P D vwCl (zs_W (zx_W cy h X_180) cy hs ad_180 G_180 F_180 p_180) H → va_D A (zs_W (zx_W cy h X_180) cy hs ad_180 G_180 F_180 p_180) → va_S A s.heap H locs → lv_has ls 22 [(0, .ref (h 0)), (1, .ref hs), (7, .int x7_180), (8, .int x8_180), (9, .int x9_180)] → W pg l e rL_act s m args below meth c H locs (0) (0) Q (F0 m 180 ls []) := by
      intro X_180 G_180 F_180 p_180 x7_180 x8_180 x9_180 hF ad_180 H locs ls hw_180 hf_180 le_180 ha_180 hP hD hS hl
      unfold fBL_act_180 at hF
      refine lv_aload_n hx hb dL_act_180 rfl (lv_at hl 1 rfl) ?_
      refine lv_dup hx hb dL_act_181 rfl ?_
      refine va_get (D := D) (C := RX6) (T := TX6) (N := 12) hx hb hts hiX6 hown hK hP _ zs_at rfl 1 (by decide) hf24 (fun _ h9 => h9) rfl dL_act_182 ?_
      refine lv_iload hx hb dL_act_185 (lv_at hl 4 rfl) ?_
      refine lv_isub hx hb dL_act_187 ?_
      refine va_put (D := D) (v := .int ((G_180 1) - x9_180)) (ty := .int) (C := RX6) (T := TX6) (N := 12) hx hb hts hiX6 tyX6 tyX6_ok nmX6 hown hK hP hD hS _ zs_at rfl 1 (by decide) hf24 (fun _ h9 => h9) rfl (by decide +kernel) rfl rfl (Nat.le_of_ble_eq_true rfl) dL_act_188 (fun H locs hP hD hS => ?_)
      rw [zs_set (vs := (zs_obj ad_180 G_180 F_180).set 1 (.int ((G_180 1) - x9_180))) (G2 := upd G_180 1 ((G_180 1) - x9_180)) (F2 := F_180) rfl] at hP hD
      refine lv_iload hx hb dL_act_191 (lv_at hl 2 rfl) ?_
      refine lv_iconst (v := 3) hx hb dL_act_193 (by decide) ?_
      replace hF := bnd_some hF
      obtain ⟨t36, hz_36, hF⟩ := hF
      have J36 : ∀ (H : Heap) (locs : List Loc) (ls : Array Slot), (zs_wf t36.2) → (zs_fs F_180 t36.2) → (p.1 ≤ (t36.2).1) → va_P D vwCl (zs_W (zx_W cy h X_180) cy hs ad_180 t36.1 F_180 t36.2) H → va_D A (zs_W (zx_W cy h X_180) cy hs ad_180 t36.1 F_180 t36.2) → va_S A s.heap H locs → lv_has ls 22 [(0, .ref (h 0)), (1, .ref hs), (7, .int x7_180), (8, .int x8_180)] → W pg l e rL_act s m args below meth c H locs (0) (0) Q (F0 m 223 ls []) := by
          intro H locs ls hw36j hf36j le36j hP hD hS hl
          refine lv_aload_n hx hb dL_act_223 rfl (lv_at hl 0 rfl) ?_
          refine lv_iload hx hb dL_act_224 (lv_at hl 2 rfl) ?_
          refine lv_iload hx hb dL_act_226 (lv_at hl 3 rfl) ?_
          replace hF := bnd_some hF
          obtain ⟨z39, hz_39, hF⟩ := hF
          refine zw_xI (P2 := zx_W cy h z39.2) (kV (As := [.int x7_180, .int x8_180]) ⟨hx, hb, hml, hown, hts⟩ (kzx_buy l D cy sa h X_180 x7_180 x8_180 z39 hz_39 _) (cwV 2 hts gL_act_X5_buy rfl rfl rfl (by decide +kernel) ⟨Nat.le_of_ble_eq_true rfl, Nat.le_of_ble_eq_true rfl⟩) hK hP hD hS hA hG (List.range (zx_W cy h X_180).length) zw_map1 (zp_nd1 _) zx_at rfl rfl rfl hl.1 [] rfl (Nat.le_of_ble_eq_true rfl) dL_act_228 ⟨(Nat.le_of_ble_eq_true rfl), (Nat.le_of_ble_eq_true rfl)⟩) hP hD hS hA zx_m (fun H locs hP hD hS => ?_)
          refine lv_iload hx hb dL_act_231 (lv_at hl 2 rfl) ?_
          refine lv_iconst (v := 3) hx hb dL_act_233 (by decide) ?_
          refine lv_icmp_ne (tgt := 244) hx hb dL_act_234 (by decide) (fun c_40 => ?_) (fun c_40 => ?_)
          ·   replace hF := if_f hF c_40
              refine lv_aload_n hx hb dL_act_244 rfl (lv_at hl 1 rfl) ?_
              refine va_get (D := D) (C := RX6) (T := TX6) (N := 12) hx hb hts hiX6 hown hK hP _ zs_at rfl 6 (by decide) hf31 (fun _ h9 => h9) rfl dL_act_245 ?_
              refine lv_iload hx hb dL_act_248 (lv_at hl 2 rfl) ?_
              replace hF := bnd_some hF
              obtain ⟨x41, hz_41, hF⟩ := hF
              refine sx_ld hx hb hK hP hz_41 dL_act_250 ?_
              refine lv_icmp_ne (tgt := 258) hx hb dL_act_251 (by decide) (fun c_42 => ?_) (fun c_42 => ?_)
              ·   replace hF := if_f hF c_42
                  cases hF
              ·   replace hF := if_t hF c_42
                  refine lv_iconst (v := 1) hx hb dL_act_254 (by decide) ?_
                  refine lv_goto (tgt := 259) hx hb dL_act_255 (by decide) ?_
                  cases hF
                  exact hQ _ _ _ _ _ _ _ ad_180 rfl dL_act_259 ⟨rfl, ⟨hw36j, hf36j, le36j, ha_180⟩⟩ hP hD hS (Nat.le_of_ble_eq_true rfl) (Nat.le_of_ble_eq_true rfl)
          ·   replace hF := if_t hF c_40
              refine lv_aload_n hx hb dL_act_237 rfl (lv_at hl 1 rfl) ?_
              refine va_get (D := D) (C := RX6) (T := TX6) (N := 12) hx hb hts hiX6 hown hK hP _ zs_at rfl 2 (by decide) hf28 (fun _ h9 => h9) rfl dL_act_238 ?_
              refine lv_goto (tgt := 251) hx hb dL_act_241 (by decide) ?_
              refine lv_icmp_ne (tgt := 258) hx hb dL_act_251 (by decide) (fun c_43 => ?_) (fun c_43 => ?_)
              ·   replace hF := if_f hF c_43
                  cases hF
              ·   replace hF := if_t hF c_43
                  refine lv_iconst (v := 1) hx hb dL_act_254 (by decide) ?_
                  refine lv_goto (tgt := 259) hx hb dL_act_255 (by decide) ?_
                  cases hF
                  exact hQ _ _ _ _ _ _ _ ad_180 rfl dL_act_259 ⟨rfl, ⟨hw36j, hf36j, le36j, ha_180⟩⟩ hP hD hS (Nat.le_of_ble_eq_true rfl) (Nat.le_of_ble_eq_true rfl)
      replace hF := hz_36
      refine lv_icmp_ne (tgt := 211) hx hb dL_act_194 (by decide) (fun c_36 => ?_) (fun c_36 => ?_)
      ·   replace hF := if_f hF c_36
          refine lv_aload_n hx hb dL_act_211 rfl (lv_at hl 1 rfl) ?_
          refine va_get (D := D) (C := RX6) (T := TX6) (N := 12) hx hb hts hiX6 hown hK hP _ zs_at rfl 6 (by decide) hf31 (fun _ h9 => h9) rfl dL_act_212 ?_
          refine lv_iload hx hb dL_act_215 (lv_at hl 2 rfl) ?_
          refine lv_dup2_11 hx hb dL_act_217 rfl rfl ?_
          replace hF := bnd_some hF
          obtain ⟨x37, hz_37, hF⟩ := hF
          refine sx_ld hx hb hK hP hz_37 dL_act_218 ?_
          refine lv_iload hx hb dL_act_219 (lv_at hl 3 rfl) ?_
          refine lv_iadd hx hb dL_act_221 ?_
          replace hF := bnd_some hF
          obtain ⟨p38, hz_38, hF⟩ := hF
          refine sx_st hx hb hK hP hD hS hz_38 dL_act_222 (fun H locs hP hD hS => ?_)
          obtain ⟨hw38, hn38⟩ := zs_st_wf hw_180 hz_38
          have lf38 : (p_180).1 ≤ p38.1 := Nat.le_of_eq hn38.symm
          have hf_38 := zs_fs_le hf_180 lf38
          have le38 : p.1 ≤ (p38).1 := Nat.le_trans le_180 lf38
          replace hP : va_P D vwCl (zs_W (zx_W cy h X_180) cy hs ad_180 (upd G_180 1 ((G_180 1) - x9_180)) F_180 p38) H := hP
          replace hD : va_D A (zs_W (zx_W cy h X_180) cy hs ad_180 (upd G_180 1 ((G_180 1) - x9_180)) F_180 p38) := hD
          cases hF
          exact J36 _ _ _ hw38 hf_38 le38 hP hD hS (lv_sub hl [0, 1, 2, 3] rfl)
      ·   replace hF := if_t hF c_36
          refine lv_aload_n hx hb dL_act_197 rfl (lv_at hl 1 rfl) ?_
          refine lv_dup hx hb dL_act_198 rfl ?_
          refine va_get (D := D) (C := RX6) (T := TX6) (N := 12) hx hb hts hiX6 hown hK hP _ zs_at rfl 2 (by decide) hf28 (fun _ h9 => h9) rfl dL_act_199 ?_
          refine lv_iload hx hb dL_act_202 (lv_at hl 3 rfl) ?_
          refine lv_iadd hx hb dL_act_204 ?_
          refine va_put (D := D) (v := .int ((G_180 2) + x8_180)) (ty := .int) (C := RX6) (T := TX6) (N := 12) hx hb hts hiX6 tyX6 tyX6_ok nmX6 hown hK hP hD hS _ zs_at rfl 2 (by decide) hf28 (fun _ h9 => h9) rfl (by decide +kernel) rfl rfl (Nat.le_of_ble_eq_true rfl) dL_act_205 (fun H locs hP hD hS => ?_)
          rw [zs_set (vs := (zs_obj ad_180 (upd G_180 1 ((G_180 1) - x9_180)) F_180).set 2 (.int ((G_180 2) + x8_180))) (G2 := upd (upd G_180 1 ((G_180 1) - x9_180)) 2 ((G_180 2) + x8_180)) (F2 := F_180) rfl] at hP hD
          refine lv_goto (tgt := 223) hx hb dL_act_208 (by decide) ?_
          cases hF
          exact J36 _ _ _ hw_180 hf_180 le_180 hP hD hS (lv_sub hl [0, 1, 2, 3] rfl)
  have B108 : ∀ (X_108 : XT) (G_108 : FN) (F_108 : Nat → Nat) (p_108 : zs_H) (x2_108 : Int32), fBL_act_108 X_108 G_108 F_108 p_108 x2_108 = some z → ∀ (ad_108 : Nat → Nat) (H : Heap) (locs : List Loc) (ls : Array Slot), zs_wf p_108 → zs_fs F_108 p_108 → p.1 ≤ (p_108).1 → (∀ i, i < p.1 → ad_108 i = ad i) → va_P D vwCl (zs_W (zx_W cy h X_108) cy hs ad_108 G_108 F_108 p_108) H → va_D A (zs_W (zx_W cy h X_108) cy hs ad_108 G_108 F_108 p_108) → va_S A s.heap H locs → lv_has ls 22 [(0, .ref (h 0)), (1, .ref hs), (2, .int x2_108)] → W pg l e rL_act s m args below meth c H locs (0) (0) Q (F0 m 108 ls []) := by
      intro X_108 G_108 F_108 p_108 x2_108 hF ad_108 H locs ls hw_108 hf_108 le_108 ha_108 hP hD hS hl
      unfold fBL_act_108 at hF
      refine lv_iload_n hx hb dL_act_108 rfl (lv_at hl 2 rfl) ?_
      refine lv_iconst (v := 1) hx hb dL_act_109 (by decide) ?_
      refine lv_ishr hx hb dL_act_110 ?_
      refine lv_iconst (v := 4) hx hb dL_act_111 (by decide) ?_
      replace hF := bnd_some hF
      obtain ⟨z31, hz_31, hF⟩ := hF
      refine krI (kS (As := [.int (x2_108 >>> (1 &&& 31)), .int 4]) ⟨hx, hb, hml, hown, hts⟩ (kL_below l D cy sa (x2_108 >>> (1 &&& 31)) 4 z31 hz_31 _) (va_cwS 2 hts gL_act_L_below rfl rfl rfl (by decide +kernel) ⟨Nat.le_of_ble_eq_true rfl, Nat.le_of_ble_eq_true rfl⟩) hK hP hD hS hA hG [] rfl rfl rfl hl.1 [] rfl (Nat.le_of_ble_eq_true rfl) dL_act_112 ⟨(Nat.le_of_ble_eq_true rfl), (Nat.le_of_ble_eq_true rfl)⟩) hP hD hS hA [] rfl (fun H locs hP hS => ?_)
      refine lv_istore (lv' := [(7, .int z31), (0, .ref (h 0)), (1, .ref hs), (2, .int x2_108)]) hx hb dL_act_115 hl (by decide) rfl (fun ls hl => ?_)
      refine lv_iconst (v := 1) hx hb dL_act_117 (by decide) ?_
      refine lv_iload_n hx hb dL_act_118 rfl (lv_at hl 3 rfl) ?_
      refine lv_iconst (v := 4) hx hb dL_act_119 (by decide) ?_
      refine lv_ishr hx hb dL_act_120 ?_
      refine lv_bipush (v := 12) hx hb dL_act_121 (by decide) ?_
      replace hF := bnd_some hF
      obtain ⟨z32, hz_32, hF⟩ := hF
      refine krI (kS (As := [.int (x2_108 >>> (4 &&& 31)), .int 12]) ⟨hx, hb, hml, hown, hts⟩ (kL_below l D cy sa (x2_108 >>> (4 &&& 31)) 12 z32 hz_32 _) (va_cwS 2 hts gL_act_L_below rfl rfl rfl (by decide +kernel) ⟨Nat.le_of_ble_eq_true rfl, Nat.le_of_ble_eq_true rfl⟩) hK hP hD hS hA hG [] rfl rfl rfl hl.1 [.int 1] rfl (Nat.le_of_ble_eq_true rfl) dL_act_123 ⟨(Nat.le_of_ble_eq_true rfl), (Nat.le_of_ble_eq_true rfl)⟩) hP hD hS hA [] rfl (fun H locs hP hS => ?_)
      refine lv_iadd hx hb dL_act_126 ?_
      refine lv_istore (lv' := [(8, .int (1 + z32)), (7, .int z31), (0, .ref (h 0)), (1, .ref hs), (2, .int x2_108)]) hx hb dL_act_127 hl (by decide) rfl (fun ls hl => ?_)
      refine lv_iload hx hb dL_act_129 (lv_at hl 1 rfl) ?_
      refine lv_iconst (v := 3) hx hb dL_act_131 (by decide) ?_
      replace hF := bnd_some hF
      obtain ⟨t33, hz_33, hF⟩ := hF
      have J33 : ∀ (H : Heap) (locs : List Loc) (ls : Array Slot), va_P D vwCl (zs_W (zx_W cy h X_108) cy hs ad_108 G_108 F_108 p_108) H → va_D A (zs_W (zx_W cy h X_108) cy hs ad_108 G_108 F_108 p_108) → va_S A s.heap H locs → lv_has ls 22 [(0, .ref (h 0)), (1, .ref hs), (7, .int z31), (8, .int (1 + z32))] → W pg l e rL_act s m args below meth c H locs (0) (0) Q (F0 m 149 ls [.int t33]) := by
          intro H locs ls hP hD hS hl
          refine lv_istore (lv' := [(9, .int t33), (0, .ref (h 0)), (1, .ref hs), (7, .int z31), (8, .int (1 + z32))]) hx hb dL_act_149 hl (by decide) rfl (fun ls hl => ?_)
          refine lv_iload hx hb dL_act_151 (lv_at hl 0 rfl) ?_
          refine lv_aload_n hx hb dL_act_153 rfl (lv_at hl 2 rfl) ?_
          refine va_get (D := D) (C := RX6) (T := TX6) (N := 12) hx hb hts hiX6 hown hK hP _ zs_at rfl 1 (by decide) hf24 (fun _ h9 => h9) rfl dL_act_154 ?_
          refine lv_icmp_gt (tgt := 178) hx hb dL_act_157 (by decide) (fun c_34 => ?_) (fun c_34 => ?_)
          ·   replace hF := if_t hF c_34
              refine lv_iconst (v := 1) hx hb dL_act_178 (by decide) ?_
              cases hF
              exact hQ _ _ _ _ _ _ _ ad_108 rfl dL_act_179 ⟨rfl, ⟨hw_108, hf_108, le_108, ha_108⟩⟩ hP hD hS (Nat.le_of_ble_eq_true rfl) (Nat.le_of_ble_eq_true rfl)
          ·   replace hF := if_f hF c_34
              refine lv_iload hx hb dL_act_160 (lv_at hl 3 rfl) ?_
              refine lv_iconst (v := 3) hx hb dL_act_162 (by decide) ?_
              refine lv_icmp_ne (tgt := 180) hx hb dL_act_163 (by decide) (fun c_35 => ?_) (fun c_35 => ?_)
              ·   replace hF := if_f hF c_35
                  exact B180 X_108 G_108 F_108 p_108 z31 (1 + z32) t33 hF ad_108 _ _ _ hw_108 hf_108 le_108 ha_108 hP hD hS (lv_sub hl [1, 2, 3, 4, 0] rfl)
              ·   replace hF := if_t hF c_35
                  refine lv_aload_n hx hb dL_act_166 rfl (lv_at hl 2 rfl) ?_
                  refine va_get (D := D) (C := RX6) (T := TX6) (N := 12) hx hb hts hiX6 hown hK hP _ zs_at rfl 2 (by decide) hf28 (fun _ h9 => h9) rfl dL_act_167 ?_
                  refine lv_iload hx hb dL_act_170 (lv_at hl 4 rfl) ?_
                  refine lv_iadd hx hb dL_act_172 ?_
                  refine lv_bipush (v := 90) hx hb dL_act_173 (by decide) ?_
                  refine lv_icmp_le (tgt := 180) hx hb dL_act_175 (by decide) (fun c_44 => ?_) (fun c_44 => ?_)
                  ·   replace hF := if_t hF c_44
                      exact B180 X_108 G_108 F_108 p_108 z31 (1 + z32) t33 hF ad_108 _ _ _ hw_108 hf_108 le_108 ha_108 hP hD hS (lv_sub hl [1, 2, 3, 4, 0] rfl)
                  ·   replace hF := if_f hF c_44
                      refine lv_iconst (v := 1) hx hb dL_act_178 (by decide) ?_
                      cases hF
                      exact hQ _ _ _ _ _ _ _ ad_108 rfl dL_act_179 ⟨rfl, ⟨hw_108, hf_108, le_108, ha_108⟩⟩ hP hD hS (Nat.le_of_ble_eq_true rfl) (Nat.le_of_ble_eq_true rfl)
      replace hF := hz_33
      refine lv_icmp_ne (tgt := 142) hx hb dL_act_132 (by decide) (fun c_33 => ?_) (fun c_33 => ?_)
      ·   replace hF := if_f hF c_33
          refine lv_iload hx hb dL_act_142 (lv_at hl 0 rfl) ?_
          refine lv_iconst (v := 3) hx hb dL_act_144 (by decide) ?_
          refine lv_iload hx hb dL_act_145 (lv_at hl 1 rfl) ?_
          refine lv_isub hx hb dL_act_147 ?_
          refine lv_imul hx hb dL_act_148 ?_
          cases hF
          exact J33 _ _ _ hP hD hS (lv_sub hl [2, 3, 1, 0] rfl)
      ·   replace hF := if_t hF c_33
          refine lv_iload hx hb dL_act_135 (lv_at hl 0 rfl) ?_
          refine lv_iconst (v := 2) hx hb dL_act_137 (by decide) ?_
          refine lv_imul hx hb dL_act_138 ?_
          refine lv_goto (tgt := 149) hx hb dL_act_139 (by decide) ?_
          cases hF
          exact J33 _ _ _ hP hD hS (lv_sub hl [2, 3, 1, 0] rfl)
  have L273 : ∀ (k : Nat) (X_273 : XT) (G_273 : FN) (F_273 : Nat → Nat) (p_273 : zs_H) (x2_273 : Int32) (x6_273 : Int32) (x10_273 : Int32) (x11_273 : Int32) (o : Int32), fLL_act_273 F_273 p_273 x6_273 k x10_273 x11_273 = some o → ∀ (ad_273 : Nat → Nat) (cu_273 su_273 T_ TS_ : Nat), cu_273 + 0 * k ≤ T_ → su_273 + 0 * k ≤ TS_ → T_ ≤ 2 → TS_ ≤ 95 → ∀ (H : Heap) (locs : List Loc) (ls : Array Slot), zs_wf p_273 → zs_fs F_273 p_273 → p.1 ≤ (p_273).1 → (∀ i, i < p.1 → ad_273 i = ad i) → va_P D vwCl (zs_W (zx_W cy h X_273) cy hs ad_273 G_273 F_273 p_273) H → va_D A (zs_W (zx_W cy h X_273) cy hs ad_273 G_273 F_273 p_273) → va_S A s.heap H locs → lv_has ls 22 [(0, .ref (h 0)), (1, .ref hs), (2, .int x2_273), (6, .int x6_273), (10, .int x10_273), (11, .int x11_273)] → (∀ (H : Heap) (locs : List Loc) (ls : Array Slot), zs_wf p_273 → zs_fs F_273 p_273 → p.1 ≤ (p_273).1 → (∀ i, i < p.1 → ad_273 i = ad i) → va_P D vwCl (zs_W (zx_W cy h X_273) cy hs ad_273 G_273 F_273 p_273) H → va_D A (zs_W (zx_W cy h X_273) cy hs ad_273 G_273 F_273 p_273) → va_S A s.heap H locs → lv_has ls 22 [(0, .ref (h 0)), (1, .ref hs), (2, .int x2_273), (6, .int x6_273), (10, .int o)] → W pg l e rL_act s m args below meth c H locs T_ TS_ Q (F0 m 310 ls [])) → W pg l e rL_act s m args below meth c H locs cu_273 su_273 Q (F0 m 273 ls []) := by
      intro k
      induction k with
      | zero =>
          intro X_273 G_273 F_273 p_273 x2_273 x6_273 x10_273 x11_273 o hF
          rw [fLL_act_273] at hF
          cases hF
      | succ k ih =>
          intro X_273 G_273 F_273 p_273 x2_273 x6_273 x10_273 x11_273 o hF ad_273 cu_273 su_273 T_ TS_ hcu_ hsu_ hT_ hTS_ H locs ls hw_273 hf_273 le_273 ha_273 hP hD hS hl kk0
          rw [fLL_act_273] at hF
          refine lv_iload hx hb dL_act_273 (lv_at hl 5 rfl) ?_
          refine lv_bipush (v := 10) hx hb dL_act_275 (by decide) ?_
          refine lv_icmp_ge (tgt := 310) hx hb dL_act_277 (by decide) (fun c_49 => ?_) (fun c_49 => ?_)
          ·   replace hF := if_t hF c_49
              cases hF
              refine W.widen (k := T_) (n := TS_) (by omega) (by omega) ?_
              exact kk0 _ _ _ hw_273 hf_273 le_273 ha_273 hP hD hS (lv_sub hl [0, 1, 2, 3, 4] rfl)
          ·   replace hF := if_f hF c_49
              refine lv_aload_n hx hb dL_act_280 rfl (lv_at hl 1 rfl) ?_
              refine va_get (D := D) (C := RX6) (T := TX6) (N := 12) hx hb hts hiX6 hown hK hP _ zs_at rfl 11 (by decide) hf40 (fun _ h9 => h9) rfl dL_act_281 ?_
              refine lv_iload hx hb dL_act_284 (lv_at hl 4 rfl) ?_
              replace hF := bnd_some hF
              obtain ⟨x50, hz_50, hF⟩ := hF
              refine sx_ldr hx hb hK hP hz_50 dL_act_286 ?_
              have fx50 : x50 < (p_273).1 := zs_ldr_lt hw_273 hz_50
              refine lv_iload hx hb dL_act_287 (lv_at hl 3 rfl) ?_
              replace hF := bnd_some hF
              obtain ⟨x51, hz_51, hF⟩ := hF
              refine sx_ld hx hb hK hP hz_51 dL_act_289 ?_
              refine lv_bipush (v := 24) hx hb dL_act_290 (by decide) ?_
              refine lv_icmp_ge (tgt := 310) hx hb dL_act_292 (by decide) (fun c_52 => ?_) (fun c_52 => ?_)
              ·   replace hF := if_t hF c_52
                  cases hF
                  refine W.widen (k := T_) (n := TS_) (by omega) (by omega) ?_
                  exact kk0 _ _ _ hw_273 hf_273 le_273 ha_273 hP hD hS (lv_sub hl [0, 1, 2, 3, 4] rfl)
              ·   replace hF := if_f hF c_52
                  refine lv_iload hx hb dL_act_295 (lv_at hl 4 rfl) ?_
                  refine lv_iconst (v := 1) hx hb dL_act_297 (by decide) ?_
                  refine lv_iadd hx hb dL_act_298 ?_
                  refine lv_bipush (v := 10) hx hb dL_act_299 (by decide) ?_
                  refine lv_irem hx hb dL_act_301 (by decide) ?_
                  refine lv_istore (lv' := [(10, .int ((x10_273 + 1) - (x10_273 + 1) / 10 * 10)), (0, .ref (h 0)), (1, .ref hs), (2, .int x2_273), (6, .int x6_273), (11, .int x11_273)]) hx hb dL_act_302 hl (by decide) rfl (fun ls hl => ?_)
                  refine lv_iinc (v := x11_273 + 1) (lv' := [(11, .int (x11_273 + 1)), (10, .int ((x10_273 + 1) - (x10_273 + 1) / 10 * 10)), (0, .ref (h 0)), (1, .ref hs), (2, .int x2_273), (6, .int x6_273)]) hx hb dL_act_304 hl (k := 5) rfl rfl (by decide) rfl (fun ls hl => ?_)
                  refine lv_goto (tgt := 273) hx hb dL_act_307 (by decide) ?_
                  exact ih X_273 G_273 F_273 p_273 x2_273 x6_273 ((x10_273 + 1) - (x10_273 + 1) / 10 * 10) (x11_273 + 1) o hF ad_273 (cu_273) (su_273) T_ TS_ (by omega) (by omega) hT_ hTS_ _ _ _ hw_273 hf_273 le_273 ha_273 hP hD hS (lv_sub hl [2, 3, 4, 5, 1, 0] rfl) kk0
  have B310 : ∀ (X_310 : XT) (G_310 : FN) (F_310 : Nat → Nat) (p_310 : zs_H) (x2_310 : Int32) (x6_310 : Int32) (x10_310 : Int32), fBL_act_310 X_310 G_310 F_310 p_310 x2_310 x6_310 x10_310 = some z → ∀ (ad_310 : Nat → Nat) (H : Heap) (locs : List Loc) (ls : Array Slot), zs_wf p_310 → zs_fs F_310 p_310 → p.1 ≤ (p_310).1 → (∀ i, i < p.1 → ad_310 i = ad i) → va_P D vwCl (zs_W (zx_W cy h X_310) cy hs ad_310 G_310 F_310 p_310) H → va_D A (zs_W (zx_W cy h X_310) cy hs ad_310 G_310 F_310 p_310) → va_S A s.heap H locs → lv_has ls 22 [(0, .ref (h 0)), (1, .ref hs), (2, .int x2_310), (6, .int x6_310), (10, .int x10_310)] → W pg l e rL_act s m args below meth c H locs (0) (0) Q (F0 m 310 ls []) := by
      intro X_310 G_310 F_310 p_310 x2_310 x6_310 x10_310 hF ad_310 H locs ls hw_310 hf_310 le_310 ha_310 hP hD hS hl
      unfold fBL_act_310 at hF
      refine lv_aload_n hx hb dL_act_310 rfl (lv_at hl 1 rfl) ?_
      refine va_get (D := D) (C := RX6) (T := TX6) (N := 12) hx hb hts hiX6 hown hK hP _ zs_at rfl 11 (by decide) hf40 (fun _ h9 => h9) rfl dL_act_311 ?_
      refine lv_iload hx hb dL_act_314 (lv_at hl 4 rfl) ?_
      replace hF := bnd_some hF
      obtain ⟨x53, hz_53, hF⟩ := hF
      refine sx_ldr hx hb hK hP hz_53 dL_act_316 ?_
      have fx53 : x53 < (p_310).1 := zs_ldr_lt hw_310 hz_53
      refine lv_iload hx hb dL_act_317 (lv_at hl 3 rfl) ?_
      replace hF := bnd_some hF
      obtain ⟨x54, hz_54, hF⟩ := hF
      refine sx_ld hx hb hK hP hz_54 dL_act_319 ?_
      refine lv_bipush (v := 24) hx hb dL_act_320 (by decide) ?_
      refine lv_icmp_ge (tgt := 327) hx hb dL_act_322 (by decide) (fun c_55 => ?_) (fun c_55 => ?_)
      ·   replace hF := if_t hF c_55
          refine lv_iconst (v := 1) hx hb dL_act_327 (by decide) ?_
          refine lv_iload_n hx hb dL_act_328 rfl (lv_at hl 2 rfl) ?_
          refine lv_iconst (v := 4) hx hb dL_act_329 (by decide) ?_
          refine lv_ishr hx hb dL_act_330 ?_
          refine lv_aload_n hx hb dL_act_331 rfl (lv_at hl 1 rfl) ?_
          refine va_get (D := D) (C := RX6) (T := TX6) (N := 12) hx hb hts hiX6 hown hK hP _ zs_at rfl 11 (by decide) hf40 (fun _ h9 => h9) rfl dL_act_332 ?_
          refine lv_iload hx hb dL_act_335 (lv_at hl 4 rfl) ?_
          replace hF := bnd_some hF
          obtain ⟨x56, hz_56, hF⟩ := hF
          refine sx_ldr hx hb hK hP hz_56 dL_act_337 ?_
          have fx56 : x56 < (p_310).1 := zs_ldr_lt hw_310 hz_56
          refine lv_iload hx hb dL_act_338 (lv_at hl 3 rfl) ?_
          replace hF := bnd_some hF
          obtain ⟨x57, hz_57, hF⟩ := hF
          refine sx_ld hx hb hK hP hz_57 dL_act_340 ?_
          refine lv_bipush (v := 24) hx hb dL_act_341 (by decide) ?_
          refine lv_idiv hx hb dL_act_343 (by decide) ?_
          refine lv_bipush (v := 9) hx hb dL_act_344 (by decide) ?_
          replace hF := bnd_some hF
          obtain ⟨t58, hz_58, hF⟩ := hF
          have J58 : ∀ (H : Heap) (locs : List Loc) (ls : Array Slot), va_P D vwCl (zs_W (zx_W cy h X_310) cy hs ad_310 G_310 F_310 p_310) H → va_D A (zs_W (zx_W cy h X_310) cy hs ad_310 G_310 F_310 p_310) → va_S A s.heap H locs → lv_has ls 22 [(0, .ref (h 0)), (1, .ref hs), (6, .int x6_310), (10, .int x10_310)] → W pg l e rL_act s m args below meth c H locs (0) (0) Q (F0 m 367 ls [.int t58, .int (x2_310 >>> (4 &&& 31)), .int 1]) := by
              intro H locs ls hP hD hS hl
              replace hF := bnd_some hF
              obtain ⟨z61, hz_61, hF⟩ := hF
              refine krI (kS (As := [.int (x2_310 >>> (4 &&& 31)), .int t58]) ⟨hx, hb, hml, hown, hts⟩ (kL_below l D cy sa (x2_310 >>> (4 &&& 31)) t58 z61 hz_61 _) (va_cwS 2 hts gL_act_L_below rfl rfl rfl (by decide +kernel) ⟨Nat.le_of_ble_eq_true rfl, Nat.le_of_ble_eq_true rfl⟩) hK hP hD hS hA hG [] rfl rfl rfl hl.1 [.int 1] rfl (Nat.le_of_ble_eq_true rfl) dL_act_367 ⟨(Nat.le_of_ble_eq_true rfl), (Nat.le_of_ble_eq_true rfl)⟩) hP hD hS hA [] rfl (fun H locs hP hS => ?_)
              refine lv_iadd hx hb dL_act_370 ?_
              refine lv_istore (lv' := [(11, .int (1 + z61)), (0, .ref (h 0)), (1, .ref hs), (6, .int x6_310), (10, .int x10_310)]) hx hb dL_act_371 hl (by decide) rfl (fun ls hl => ?_)
              refine lv_aload_n hx hb dL_act_373 rfl (lv_at hl 2 rfl) ?_
              refine va_get (D := D) (C := RX6) (T := TX6) (N := 12) hx hb hts hiX6 hown hK hP _ zs_at rfl 11 (by decide) hf40 (fun _ h9 => h9) rfl dL_act_374 ?_
              refine lv_iload hx hb dL_act_377 (lv_at hl 4 rfl) ?_
              replace hF := bnd_some hF
              obtain ⟨x62, hz_62, hF⟩ := hF
              refine sx_ldr hx hb hK hP hz_62 dL_act_379 ?_
              have fx62 : x62 < (p_310).1 := zs_ldr_lt hw_310 hz_62
              refine lv_iload hx hb dL_act_380 (lv_at hl 3 rfl) ?_
              refine lv_dup2_11 hx hb dL_act_382 rfl rfl ?_
              replace hF := bnd_some hF
              obtain ⟨x63, hz_63, hF⟩ := hF
              refine sx_ld hx hb hK hP hz_63 dL_act_383 ?_
              refine lv_bipush (v := 24) hx hb dL_act_384 (by decide) ?_
              refine lv_iload hx hb dL_act_386 (lv_at hl 0 rfl) ?_
              refine lv_imul hx hb dL_act_388 ?_
              refine lv_isub hx hb dL_act_389 ?_
              replace hF := bnd_some hF
              obtain ⟨p64, hz_64, hF⟩ := hF
              refine sx_st hx hb hK hP hD hS hz_64 dL_act_390 (fun H locs hP hD hS => ?_)
              obtain ⟨hw64, hn64⟩ := zs_st_wf hw_310 hz_64
              have lf64 : (p_310).1 ≤ p64.1 := Nat.le_of_eq hn64.symm
              have hf_64 := zs_fs_le hf_310 lf64
              have le64 : p.1 ≤ (p64).1 := Nat.le_trans le_310 lf64
              replace hP : va_P D vwCl (zs_W (zx_W cy h X_310) cy hs ad_310 G_310 F_310 p64) H := hP
              replace hD : va_D A (zs_W (zx_W cy h X_310) cy hs ad_310 G_310 F_310 p64) := hD
              refine lv_aload_n hx hb dL_act_391 rfl (lv_at hl 2 rfl) ?_
              refine lv_dup hx hb dL_act_392 rfl ?_
              refine va_get (D := D) (C := RX6) (T := TX6) (N := 12) hx hb hts hiX6 hown hK hP _ zs_at rfl 1 (by decide) hf24 (fun _ h9 => h9) rfl dL_act_393 ?_
              refine lv_iload hx hb dL_act_396 (lv_at hl 0 rfl) ?_
              refine lv_iload hx hb dL_act_398 (lv_at hl 3 rfl) ?_
              replace hF := bnd_some hF
              obtain ⟨z65, hz_65, hF⟩ := hF
              refine krI (kS (As := [.int x6_310]) ⟨hx, hb, hml, hown, hts⟩ (kX6_worth l D cy sa x6_310 z65 hz_65 _) (va_cwS 1 hts gL_act_X6_worth rfl rfl rfl (by decide +kernel) ⟨Nat.le_of_ble_eq_true rfl, Nat.le_of_ble_eq_true rfl⟩) hK hP hD hS hA hG [] rfl rfl rfl hl.1 [.int (1 + z61), .int (G_310 1), .ref hs] rfl (Nat.le_of_ble_eq_true rfl) dL_act_400 ⟨(Nat.le_of_ble_eq_true rfl), (Nat.le_of_ble_eq_true rfl)⟩) hP hD hS hA [] rfl (fun H locs hP hS => ?_)
              refine lv_imul hx hb dL_act_403 ?_
              refine lv_iadd hx hb dL_act_404 ?_
              refine va_put (D := D) (v := .int ((G_310 1) + ((1 + z61) * z65))) (ty := .int) (C := RX6) (T := TX6) (N := 12) hx hb hts hiX6 tyX6 tyX6_ok nmX6 hown hK hP hD hS _ zs_at rfl 1 (by decide) hf24 (fun _ h9 => h9) rfl (by decide +kernel) rfl rfl (Nat.le_of_ble_eq_true rfl) dL_act_405 (fun H locs hP hD hS => ?_)
              rw [zs_set (vs := (zs_obj ad_310 G_310 F_310).set 1 (.int ((G_310 1) + ((1 + z61) * z65)))) (G2 := upd G_310 1 ((G_310 1) + ((1 + z61) * z65))) (F2 := F_310) rfl] at hP hD
              refine lv_aload_n hx hb dL_act_408 rfl (lv_at hl 1 rfl) ?_
              refine lv_iload hx hb dL_act_409 (lv_at hl 4 rfl) ?_
              refine lv_iload hx hb dL_act_411 (lv_at hl 3 rfl) ?_
              refine lv_iload hx hb dL_act_413 (lv_at hl 0 rfl) ?_
              replace hF := bnd_some hF
              obtain ⟨z66, hz_66, hF⟩ := hF
              refine zw_xI (P2 := zx_W cy h z66.2) (kV (As := [.int x10_310, .int x6_310, .int (1 + z61)]) ⟨hx, hb, hml, hown, hts⟩ (kzx_sell l D cy sa h X_310 x10_310 x6_310 (1 + z61) z66 hz_66 _) (cwV 3 hts gL_act_X5_sell rfl rfl rfl (by decide +kernel) ⟨Nat.le_of_ble_eq_true rfl, Nat.le_of_ble_eq_true rfl⟩) hK hP hD hS hA hG (List.range (zx_W cy h X_310).length) zw_map1 (zp_nd1 _) zx_at rfl rfl rfl hl.1 [] rfl (Nat.le_of_ble_eq_true rfl) dL_act_415 ⟨(Nat.le_of_ble_eq_true rfl), (Nat.le_of_ble_eq_true rfl)⟩) hP hD hS hA zx_m (fun H locs hP hD hS => ?_)
              refine lv_iload hx hb dL_act_418 (lv_at hl 0 rfl) ?_
              refine lv_iload hx hb dL_act_420 (lv_at hl 3 rfl) ?_
              replace hF := bnd_some hF
              obtain ⟨z67, hz_67, hF⟩ := hF
              refine krI (kS (As := [.int x6_310]) ⟨hx, hb, hml, hown, hts⟩ (kX6_worth l D cy sa x6_310 z67 hz_67 _) (va_cwS 1 hts gL_act_X6_worth rfl rfl rfl (by decide +kernel) ⟨Nat.le_of_ble_eq_true rfl, Nat.le_of_ble_eq_true rfl⟩) hK hP hD hS hA hG [] rfl rfl rfl hl.1 [.int (1 + z61), .int z66.1] rfl (Nat.le_of_ble_eq_true rfl) dL_act_422 ⟨(Nat.le_of_ble_eq_true rfl), (Nat.le_of_ble_eq_true rfl)⟩) hP hD hS hA [] rfl (fun H locs hP hS => ?_)
              refine lv_imul hx hb dL_act_425 ?_
              refine lv_icmp_ne (tgt := 433) hx hb dL_act_426 (by decide) (fun c_68 => ?_) (fun c_68 => ?_)
              ·   replace hF := if_f hF c_68
                  cases hF
              ·   replace hF := if_t hF c_68
                  refine lv_iconst (v := 1) hx hb dL_act_429 (by decide) ?_
                  refine lv_goto (tgt := 434) hx hb dL_act_430 (by decide) ?_
                  cases hF
                  exact hQ _ _ _ _ _ _ _ ad_310 rfl dL_act_434 ⟨rfl, ⟨hw64, hf_64, le64, ha_310⟩⟩ hP hD hS (Nat.le_of_ble_eq_true rfl) (Nat.le_of_ble_eq_true rfl)
          replace hF := hz_58
          refine lv_icmp_le (tgt := 354) hx hb dL_act_346 (by decide) (fun c_58 => ?_) (fun c_58 => ?_)
          ·   replace hF := if_t hF c_58
              refine lv_aload_n hx hb dL_act_354 rfl (lv_at hl 1 rfl) ?_
              refine va_get (D := D) (C := RX6) (T := TX6) (N := 12) hx hb hts hiX6 hown hK hP _ zs_at rfl 11 (by decide) hf40 (fun _ h9 => h9) rfl dL_act_355 ?_
              refine lv_iload hx hb dL_act_358 (lv_at hl 4 rfl) ?_
              replace hF := bnd_some hF
              obtain ⟨x59, hz_59, hF⟩ := hF
              refine sx_ldr hx hb hK hP hz_59 dL_act_360 ?_
              have fx59 : x59 < (p_310).1 := zs_ldr_lt hw_310 hz_59
              refine lv_iload hx hb dL_act_361 (lv_at hl 3 rfl) ?_
              replace hF := bnd_some hF
              obtain ⟨x60, hz_60, hF⟩ := hF
              refine sx_ld hx hb hK hP hz_60 dL_act_363 ?_
              refine lv_bipush (v := 24) hx hb dL_act_364 (by decide) ?_
              refine lv_idiv hx hb dL_act_366 (by decide) ?_
              cases hF
              exact J58 _ _ _ hP hD hS (lv_sub hl [0, 1, 3, 4] rfl)
          ·   replace hF := if_f hF c_58
              refine lv_bipush (v := 9) hx hb dL_act_349 (by decide) ?_
              refine lv_goto (tgt := 367) hx hb dL_act_351 (by decide) ?_
              cases hF
              exact J58 _ _ _ hP hD hS (lv_sub hl [0, 1, 3, 4] rfl)
      ·   replace hF := if_f hF c_55
          refine lv_iconst (v := 1) hx hb dL_act_325 (by decide) ?_
          cases hF
          exact hQ _ _ _ _ _ _ _ ad_310 rfl dL_act_326 ⟨rfl, ⟨hw_310, hf_310, le_310, ha_310⟩⟩ hP hD hS (Nat.le_of_ble_eq_true rfl) (Nat.le_of_ble_eq_true rfl)
  have B260 : ∀ (X_260 : XT) (G_260 : FN) (F_260 : Nat → Nat) (p_260 : zs_H) (x2_260 : Int32) (x6_260 : Int32), fBL_act_260 X_260 G_260 F_260 p_260 x2_260 x6_260 = some z → ∀ (ad_260 : Nat → Nat) (H : Heap) (locs : List Loc) (ls : Array Slot), zs_wf p_260 → zs_fs F_260 p_260 → p.1 ≤ (p_260).1 → (∀ i, i < p.1 → ad_260 i = ad i) → va_P D vwCl (zs_W (zx_W cy h X_260) cy hs ad_260 G_260 F_260 p_260) H → va_D A (zs_W (zx_W cy h X_260) cy hs ad_260 G_260 F_260 p_260) → va_S A s.heap H locs → lv_has ls 22 [(0, .ref (h 0)), (1, .ref hs), (2, .int x2_260), (6, .int x6_260)] → W pg l e rL_act s m args below meth c H locs (0) (0) Q (F0 m 260 ls []) := by
      intro X_260 G_260 F_260 p_260 x2_260 x6_260 hF ad_260 H locs ls hw_260 hf_260 le_260 ha_260 hP hD hS hl
      unfold fBL_act_260 at hF
      refine lv_iload_n hx hb dL_act_260 rfl (lv_at hl 2 rfl) ?_
      refine lv_iconst (v := 1) hx hb dL_act_261 (by decide) ?_
      refine lv_ishr hx hb dL_act_262 ?_
      refine lv_bipush (v := 10) hx hb dL_act_263 (by decide) ?_
      replace hF := bnd_some hF
      obtain ⟨z47, hz_47, hF⟩ := hF
      refine krI (kS (As := [.int (x2_260 >>> (1 &&& 31)), .int 10]) ⟨hx, hb, hml, hown, hts⟩ (kL_below l D cy sa (x2_260 >>> (1 &&& 31)) 10 z47 hz_47 _) (va_cwS 2 hts gL_act_L_below rfl rfl rfl (by decide +kernel) ⟨Nat.le_of_ble_eq_true rfl, Nat.le_of_ble_eq_true rfl⟩) hK hP hD hS hA hG [] rfl rfl rfl hl.1 [] rfl (Nat.le_of_ble_eq_true rfl) dL_act_265 ⟨(Nat.le_of_ble_eq_true rfl), (Nat.le_of_ble_eq_true rfl)⟩) hP hD hS hA [] rfl (fun H locs hP hS => ?_)
      refine lv_istore (lv' := [(10, .int z47), (0, .ref (h 0)), (1, .ref hs), (2, .int x2_260), (6, .int x6_260)]) hx hb dL_act_268 hl (by decide) rfl (fun ls hl => ?_)
      refine lv_iconst (v := 0) hx hb dL_act_270 (by decide) ?_
      refine lv_istore (lv' := [(11, .int 0), (10, .int z47), (0, .ref (h 0)), (1, .ref hs), (2, .int x2_260), (6, .int x6_260)]) hx hb dL_act_271 hl (by decide) rfl (fun ls hl => ?_)
      replace hF := bnd_some hF
      obtain ⟨o48, hz_48, hF⟩ := hF
      refine L273 300 X_260 G_260 F_260 p_260 x2_260 x6_260 z47 0 o48 hz_48 ad_260 (0) (0) (0) (0) (Nat.le_of_ble_eq_true rfl) (Nat.le_of_ble_eq_true rfl) (Nat.le_of_ble_eq_true rfl) (Nat.le_of_ble_eq_true rfl) _ _ _ hw_260 hf_260 le_260 ha_260 hP hD hS (lv_sub hl [2, 3, 4, 5, 1, 0] rfl) (fun H locs ls hw48_0 hf48_0 le48_0 ha48_0 hP hD hS hl => ?_)
      exact B310 X_260 G_260 F_260 p_260 x2_260 x6_260 o48 hF ad_260 _ _ _ hw48_0 hf48_0 le48_0 ha48_0 hP hD hS (lv_sub hl [0, 1, 2, 3, 4] rfl)
  have B435 : ∀ (X_435 : XT) (G_435 : FN) (F_435 : Nat → Nat) (p_435 : zs_H) (x2_435 : Int32) (x5_435 : Int32) (x6_435 : Int32), fBL_act_435 X_435 G_435 F_435 p_435 x2_435 x5_435 x6_435 = some z → ∀ (ad_435 : Nat → Nat) (H : Heap) (locs : List Loc) (ls : Array Slot), zs_wf p_435 → zs_fs F_435 p_435 → p.1 ≤ (p_435).1 → (∀ i, i < p.1 → ad_435 i = ad i) → va_P D vwCl (zs_W (zx_W cy h X_435) cy hs ad_435 G_435 F_435 p_435) H → va_D A (zs_W (zx_W cy h X_435) cy hs ad_435 G_435 F_435 p_435) → va_S A s.heap H locs → lv_has ls 22 [(0, .ref (h 0)), (1, .ref hs), (2, .int x2_435), (5, .int x5_435), (6, .int x6_435)] → W pg l e rL_act s m args below meth c H locs (0) (0) Q (F0 m 435 ls []) := by
      intro X_435 G_435 F_435 p_435 x2_435 x5_435 x6_435 hF ad_435 H locs ls hw_435 hf_435 le_435 ha_435 hP hD hS hl
      unfold fBL_act_435 at hF
      refine lv_iconst (v := 1) hx hb dL_act_435 (by decide) ?_
      refine lv_iload_n hx hb dL_act_436 rfl (lv_at hl 2 rfl) ?_
      refine lv_iconst (v := 4) hx hb dL_act_437 (by decide) ?_
      refine lv_ishr hx hb dL_act_438 ?_
      refine lv_bipush (v := 40) hx hb dL_act_439 (by decide) ?_
      replace hF := bnd_some hF
      obtain ⟨z71, hz_71, hF⟩ := hF
      refine krI (kS (As := [.int (x2_435 >>> (4 &&& 31)), .int 40]) ⟨hx, hb, hml, hown, hts⟩ (kL_below l D cy sa (x2_435 >>> (4 &&& 31)) 40 z71 hz_71 _) (va_cwS 2 hts gL_act_L_below rfl rfl rfl (by decide +kernel) ⟨Nat.le_of_ble_eq_true rfl, Nat.le_of_ble_eq_true rfl⟩) hK hP hD hS hA hG [] rfl rfl rfl hl.1 [.int 1] rfl (Nat.le_of_ble_eq_true rfl) dL_act_441 ⟨(Nat.le_of_ble_eq_true rfl), (Nat.le_of_ble_eq_true rfl)⟩) hP hD hS hA [] rfl (fun H locs hP hS => ?_)
      refine lv_iadd hx hb dL_act_444 ?_
      refine lv_istore (lv' := [(12, .int (1 + z71)), (0, .ref (h 0)), (1, .ref hs), (2, .int x2_435), (5, .int x5_435), (6, .int x6_435)]) hx hb dL_act_445 hl (by decide) rfl (fun ls hl => ?_)
      refine lv_aload_n hx hb dL_act_447 rfl (lv_at hl 2 rfl) ?_
      refine va_get (D := D) (C := RX6) (T := TX6) (N := 12) hx hb hts hiX6 hown hK hP _ zs_at rfl 7 (by decide) hf51 (fun _ h9 => h9) rfl dL_act_448 ?_
      refine lv_iload hx hb dL_act_451 (lv_at hl 4 rfl) ?_
      replace hF := bnd_some hF
      obtain ⟨x72, hz_72, hF⟩ := hF
      refine sx_ldr hx hb hK hP hz_72 dL_act_453 ?_
      have fx72 : x72 < (p_435).1 := zs_ldr_lt hw_435 hz_72
      refine lv_iconst (v := 0) hx hb dL_act_454 (by decide) ?_
      replace hF := bnd_some hF
      obtain ⟨x73, hz_73, hF⟩ := hF
      refine sx_ld hx hb hK hP hz_73 dL_act_455 ?_
      refine lv_if_gt (tgt := 471) hx hb dL_act_456 (by decide) (fun c_74 => ?_) (fun c_74 => ?_)
      ·   replace hF := if_t hF c_74
          refine lv_iconst (v := 1) hx hb dL_act_471 (by decide) ?_
          cases hF
          exact hQ _ _ _ _ _ _ _ ad_435 rfl dL_act_472 ⟨rfl, ⟨hw_435, hf_435, le_435, ha_435⟩⟩ hP hD hS (Nat.le_of_ble_eq_true rfl) (Nat.le_of_ble_eq_true rfl)
      ·   replace hF := if_f hF c_74
          refine lv_aload_n hx hb dL_act_459 rfl (lv_at hl 2 rfl) ?_
          refine va_get (D := D) (C := RX6) (T := TX6) (N := 12) hx hb hts hiX6 hown hK hP _ zs_at rfl 6 (by decide) hf31 (fun _ h9 => h9) rfl dL_act_460 ?_
          refine lv_iload hx hb dL_act_463 (lv_at hl 5 rfl) ?_
          replace hF := bnd_some hF
          obtain ⟨x75, hz_75, hF⟩ := hF
          refine sx_ld hx hb hK hP hz_75 dL_act_465 ?_
          refine lv_iload hx hb dL_act_466 (lv_at hl 0 rfl) ?_
          refine lv_icmp_ge (tgt := 473) hx hb dL_act_468 (by decide) (fun c_76 => ?_) (fun c_76 => ?_)
          ·   replace hF := if_t hF c_76
              refine lv_aload_n hx hb dL_act_473 rfl (lv_at hl 2 rfl) ?_
              refine va_get (D := D) (C := RX6) (T := TX6) (N := 12) hx hb hts hiX6 hown hK hP _ zs_at rfl 6 (by decide) hf31 (fun _ h9 => h9) rfl dL_act_474 ?_
              refine lv_iload hx hb dL_act_477 (lv_at hl 5 rfl) ?_
              refine lv_dup2_11 hx hb dL_act_479 rfl rfl ?_
              replace hF := bnd_some hF
              obtain ⟨x77, hz_77, hF⟩ := hF
              refine sx_ld hx hb hK hP hz_77 dL_act_480 ?_
              refine lv_iload hx hb dL_act_481 (lv_at hl 0 rfl) ?_
              refine lv_isub hx hb dL_act_483 ?_
              replace hF := bnd_some hF
              obtain ⟨p78, hz_78, hF⟩ := hF
              refine sx_st hx hb hK hP hD hS hz_78 dL_act_484 (fun H locs hP hD hS => ?_)
              obtain ⟨hw78, hn78⟩ := zs_st_wf hw_435 hz_78
              have lf78 : (p_435).1 ≤ p78.1 := Nat.le_of_eq hn78.symm
              have hf_78 := zs_fs_le hf_435 lf78
              have le78 : p.1 ≤ (p78).1 := Nat.le_trans le_435 lf78
              replace hP : va_P D vwCl (zs_W (zx_W cy h X_435) cy hs ad_435 G_435 F_435 p78) H := hP
              replace hD : va_D A (zs_W (zx_W cy h X_435) cy hs ad_435 G_435 F_435 p78) := hD
              refine lv_aload_n hx hb dL_act_485 rfl (lv_at hl 2 rfl) ?_
              refine va_get (D := D) (C := RX6) (T := TX6) (N := 12) hx hb hts hiX6 hown hK hP _ zs_at rfl 7 (by decide) hf51 (fun _ h9 => h9) rfl dL_act_486 ?_
              refine lv_iload hx hb dL_act_489 (lv_at hl 4 rfl) ?_
              refine lv_iconst (v := 3) hx hb dL_act_491 (by decide) ?_
              replace hF := bnd_some hF
              obtain ⟨p79, hz_79, hF⟩ := hF
              refine sx_nwi hx hb (hts (.arrayClass .int) (by decide +kernel)) hK hw78 hP hD hS hA hz_79 (Nat.le_of_ble_eq_true rfl) (Nat.le_of_ble_eq_true rfl) (Nat.le_of_ble_eq_true rfl) dL_act_492 (fun ad79 H ha79 hP hD hS => ?_)
              obtain ⟨hw79, hn79⟩ := zs_nwi_wf hw78 hz_79
              have lf79 : (p78).1 ≤ p79.1 := by rw [hn79]; exact Nat.le_succ _
              have fn79 : (p78).1 < p79.1 := by rw [hn79]; exact Nat.lt_succ_self _
              rw [zs_W_up hf_78 ha79] at hP hD
              have hf_79 := zs_fs_le hf_78 lf79
              replace hl := lv_sub (l' := [(12, .int (1 + z71)), (0, .ref (h 0)), (1, .ref hs), (5, .int x5_435), (6, .int x6_435)]) hl [0, 1, 2, 4, 5] rfl
              rw [← ha79 (F_435 7) (hf_78 7)]
              have fr79_0 : (F_435 7) < (p79).1 := Nat.lt_of_lt_of_le (hf_78 7) lf79
              have le79 : p.1 ≤ (p79).1 := Nat.le_trans le78 lf79
              have hb79 : ∀ i, i < p.1 → ad79 i = ad i := fun i hi => (ha79 i (Nat.lt_of_lt_of_le hi le78)).trans (ha_435 i hi)
              replace hP : va_P D vwCl (zs_W (zx_W cy h X_435) cy hs ad79 G_435 F_435 p79) H := hP
              replace hD : va_D A (zs_W (zx_W cy h X_435) cy hs ad79 G_435 F_435 p79) := hD
              refine lv_dup hx hb dL_act_494 rfl ?_
              refine lv_iconst (v := 0) hx hb dL_act_495 (by decide) ?_
              refine lv_iload hx hb dL_act_496 (lv_at hl 0 rfl) ?_
              replace hF := bnd_some hF
              obtain ⟨p80, hz_80, hF⟩ := hF
              refine sx_st hx hb hK hP hD hS hz_80 dL_act_498 (fun H locs hP hD hS => ?_)
              obtain ⟨hw80, hn80⟩ := zs_st_wf hw79 hz_80
              have lf80 : (p79).1 ≤ p80.1 := Nat.le_of_eq hn80.symm
              have hf_80 := zs_fs_le hf_79 lf80
              have fr80_0 : (F_435 7) < (p80).1 := Nat.lt_of_lt_of_le fr79_0 lf80
              have fr80_1 : p78.1 < (p80).1 := Nat.lt_of_lt_of_le fn79 lf80
              have le80 : p.1 ≤ (p80).1 := Nat.le_trans le79 lf80
              replace hP : va_P D vwCl (zs_W (zx_W cy h X_435) cy hs ad79 G_435 F_435 p80) H := hP
              replace hD : va_D A (zs_W (zx_W cy h X_435) cy hs ad79 G_435 F_435 p80) := hD
              refine lv_dup hx hb dL_act_499 rfl ?_
              refine lv_iconst (v := 1) hx hb dL_act_500 (by decide) ?_
              refine lv_iconst (v := 0) hx hb dL_act_501 (by decide) ?_
              replace hF := bnd_some hF
              obtain ⟨p81, hz_81, hF⟩ := hF
              refine sx_st hx hb hK hP hD hS hz_81 dL_act_502 (fun H locs hP hD hS => ?_)
              obtain ⟨hw81, hn81⟩ := zs_st_wf hw80 hz_81
              have lf81 : (p80).1 ≤ p81.1 := Nat.le_of_eq hn81.symm
              have hf_81 := zs_fs_le hf_80 lf81
              have fr81_0 : (F_435 7) < (p81).1 := Nat.lt_of_lt_of_le fr80_0 lf81
              have fr81_1 : p78.1 < (p81).1 := Nat.lt_of_lt_of_le fr80_1 lf81
              have le81 : p.1 ≤ (p81).1 := Nat.le_trans le80 lf81
              replace hP : va_P D vwCl (zs_W (zx_W cy h X_435) cy hs ad79 G_435 F_435 p81) H := hP
              replace hD : va_D A (zs_W (zx_W cy h X_435) cy hs ad79 G_435 F_435 p81) := hD
              refine lv_dup hx hb dL_act_503 rfl ?_
              refine lv_iconst (v := 2) hx hb dL_act_504 (by decide) ?_
              refine lv_iload hx hb dL_act_505 (lv_at hl 4 rfl) ?_
              replace hF := bnd_some hF
              obtain ⟨p82, hz_82, hF⟩ := hF
              refine sx_st hx hb hK hP hD hS hz_82 dL_act_507 (fun H locs hP hD hS => ?_)
              obtain ⟨hw82, hn82⟩ := zs_st_wf hw81 hz_82
              have lf82 : (p81).1 ≤ p82.1 := Nat.le_of_eq hn82.symm
              have hf_82 := zs_fs_le hf_81 lf82
              have fr82_0 : (F_435 7) < (p82).1 := Nat.lt_of_lt_of_le fr81_0 lf82
              have fr82_1 : p78.1 < (p82).1 := Nat.lt_of_lt_of_le fr81_1 lf82
              have le82 : p.1 ≤ (p82).1 := Nat.le_trans le81 lf82
              replace hP : va_P D vwCl (zs_W (zx_W cy h X_435) cy hs ad79 G_435 F_435 p82) H := hP
              replace hD : va_D A (zs_W (zx_W cy h X_435) cy hs ad79 G_435 F_435 p82) := hD
              replace hF := bnd_some hF
              obtain ⟨p83, hz_83, hF⟩ := hF
              refine sx_str hx hb hK hG.1.2.2.2 hP hD hS hz_83 dL_act_508 (fun H locs hP hD hS => ?_)
              obtain ⟨hw83, hn83⟩ := zs_str_wf hw82 hz_83
              have lf83 : (p82).1 ≤ p83.1 := Nat.le_of_eq hn83.symm
              have hf_83 := zs_fs_le hf_82 lf83
              have le83 : p.1 ≤ (p83).1 := Nat.le_trans le82 lf83
              replace hP : va_P D vwCl (zs_W (zx_W cy h X_435) cy hs ad79 G_435 F_435 p83) H := hP
              replace hD : va_D A (zs_W (zx_W cy h X_435) cy hs ad79 G_435 F_435 p83) := hD
              refine lv_aload_n hx hb dL_act_509 rfl (lv_at hl 1 rfl) ?_
              refine lv_iload hx hb dL_act_510 (lv_at hl 3 rfl) ?_
              refine lv_iload hx hb dL_act_512 (lv_at hl 4 rfl) ?_
              refine lv_iload hx hb dL_act_514 (lv_at hl 0 rfl) ?_
              replace hF := bnd_some hF
              obtain ⟨z84, hz_84, hF⟩ := hF
              refine zw_xI (P2 := zx_W cy h z84.2) (kV (As := [.int x5_435, .int x6_435, .int (1 + z71)]) ⟨hx, hb, hml, hown, hts⟩ (kzx_fill l D cy sa h X_435 x5_435 x6_435 (1 + z71) z84 hz_84 _) (cwV 3 hts gL_act_X5_fill rfl rfl rfl (by decide +kernel) ⟨Nat.le_of_ble_eq_true rfl, Nat.le_of_ble_eq_true rfl⟩) hK hP hD hS hA hG (List.range (zx_W cy h X_435).length) zw_map1 (zp_nd1 _) zx_at rfl rfl rfl hl.1 [] rfl (Nat.le_of_ble_eq_true rfl) dL_act_516 ⟨(Nat.le_of_ble_eq_true rfl), (Nat.le_of_ble_eq_true rfl)⟩) hP hD hS hA zx_m (fun H locs hP hD hS => ?_)
              refine lv_aload_n hx hb dL_act_519 rfl (lv_at hl 2 rfl) ?_
              refine va_get (D := D) (C := RX6) (T := TX6) (N := 12) hx hb hts hiX6 hown hK hP _ zs_at rfl 6 (by decide) hf31 (fun _ h9 => h9) rfl dL_act_520 ?_
              refine lv_iload hx hb dL_act_523 (lv_at hl 4 rfl) ?_
              replace hF := bnd_some hF
              obtain ⟨x85, hz_85, hF⟩ := hF
              refine sx_ld hx hb hK hP hz_85 dL_act_525 ?_
              refine lv_icmp_ne (tgt := 533) hx hb dL_act_526 (by decide) (fun c_86 => ?_) (fun c_86 => ?_)
              ·   replace hF := if_f hF c_86
                  cases hF
              ·   replace hF := if_t hF c_86
                  refine lv_iconst (v := 1) hx hb dL_act_529 (by decide) ?_
                  refine lv_goto (tgt := 534) hx hb dL_act_530 (by decide) ?_
                  cases hF
                  exact hQ _ _ _ _ _ _ _ ad79 rfl dL_act_534 ⟨rfl, ⟨hw83, hf_83, le83, hb79⟩⟩ hP hD hS (Nat.le_of_ble_eq_true rfl) (Nat.le_of_ble_eq_true rfl)
          ·   replace hF := if_f hF c_76
              refine lv_iconst (v := 1) hx hb dL_act_471 (by decide) ?_
              cases hF
              exact hQ _ _ _ _ _ _ _ ad_435 rfl dL_act_472 ⟨rfl, ⟨hw_435, hf_435, le_435, ha_435⟩⟩ hP hD hS (Nat.le_of_ble_eq_true rfl) (Nat.le_of_ble_eq_true rfl)
  have B535 : ∀ (X_535 : XT) (G_535 : FN) (F_535 : Nat → Nat) (p_535 : zs_H) (x2_535 : Int32) (x5_535 : Int32), fBL_act_535 X_535 G_535 F_535 p_535 x2_535 x5_535 = some z → ∀ (ad_535 : Nat → Nat) (H : Heap) (locs : List Loc) (ls : Array Slot), zs_wf p_535 → zs_fs F_535 p_535 → p.1 ≤ (p_535).1 → (∀ i, i < p.1 → ad_535 i = ad i) → va_P D vwCl (zs_W (zx_W cy h X_535) cy hs ad_535 G_535 F_535 p_535) H → va_D A (zs_W (zx_W cy h X_535) cy hs ad_535 G_535 F_535 p_535) → va_S A s.heap H locs → lv_has ls 22 [(0, .ref (h 0)), (1, .ref hs), (2, .int x2_535), (5, .int x5_535)] → W pg l e rL_act s m args below meth c H locs (0) (0) Q (F0 m 535 ls []) := by
      intro X_535 G_535 F_535 p_535 x2_535 x5_535 hF ad_535 H locs ls hw_535 hf_535 le_535 ha_535 hP hD hS hl
      unfold fBL_act_535 at hF
      refine lv_aload_n hx hb dL_act_535 rfl (lv_at hl 1 rfl) ?_
      refine va_get (D := D) (C := RX6) (T := TX6) (N := 12) hx hb hts hiX6 hown hK hP _ zs_at rfl 7 (by decide) hf51 (fun _ h9 => h9) rfl dL_act_536 ?_
      refine lv_iload hx hb dL_act_539 (lv_at hl 3 rfl) ?_
      replace hF := bnd_some hF
      obtain ⟨x91, hz_91, hF⟩ := hF
      refine sx_ldr hx hb hK hP hz_91 dL_act_541 ?_
      have fx91 : x91 < (p_535).1 := zs_ldr_lt hw_535 hz_91
      refine lv_iconst (v := 0) hx hb dL_act_542 (by decide) ?_
      replace hF := bnd_some hF
      obtain ⟨x92, hz_92, hF⟩ := hF
      refine sx_ld hx hb hK hP hz_92 dL_act_543 ?_
      refine lv_if_eq (tgt := 557) hx hb dL_act_544 (by decide) (fun c_93 => ?_) (fun c_93 => ?_)
      ·   replace hF := if_t hF c_93
          refine lv_iconst (v := 1) hx hb dL_act_557 (by decide) ?_
          cases hF
          exact hQ _ _ _ _ _ _ _ ad_535 rfl dL_act_558 ⟨rfl, ⟨hw_535, hf_535, le_535, ha_535⟩⟩ hP hD hS (Nat.le_of_ble_eq_true rfl) (Nat.le_of_ble_eq_true rfl)
      ·   replace hF := if_f hF c_93
          refine lv_iload_n hx hb dL_act_547 rfl (lv_at hl 2 rfl) ?_
          refine lv_iconst (v := 3) hx hb dL_act_548 (by decide) ?_
          refine lv_ishr hx hb dL_act_549 ?_
          refine lv_iconst (v := 4) hx hb dL_act_550 (by decide) ?_
          replace hF := bnd_some hF
          obtain ⟨z94, hz_94, hF⟩ := hF
          refine krI (kS (As := [.int (x2_535 >>> (3 &&& 31)), .int 4]) ⟨hx, hb, hml, hown, hts⟩ (kL_below l D cy sa (x2_535 >>> (3 &&& 31)) 4 z94 hz_94 _) (va_cwS 2 hts gL_act_L_below rfl rfl rfl (by decide +kernel) ⟨Nat.le_of_ble_eq_true rfl, Nat.le_of_ble_eq_true rfl⟩) hK hP hD hS hA hG [] rfl rfl rfl hl.1 [] rfl (Nat.le_of_ble_eq_true rfl) dL_act_551 ⟨(Nat.le_of_ble_eq_true rfl), (Nat.le_of_ble_eq_true rfl)⟩) hP hD hS hA [] rfl (fun H locs hP hS => ?_)
          refine lv_if_le (tgt := 559) hx hb dL_act_554 (by decide) (fun c_95 => ?_) (fun c_95 => ?_)
          ·   replace hF := if_t hF c_95
              refine lv_aload_n hx hb dL_act_559 rfl (lv_at hl 1 rfl) ?_
              refine va_get (D := D) (C := RX6) (T := TX6) (N := 12) hx hb hts hiX6 hown hK hP _ zs_at rfl 7 (by decide) hf51 (fun _ h9 => h9) rfl dL_act_560 ?_
              refine lv_iload hx hb dL_act_563 (lv_at hl 3 rfl) ?_
              replace hF := bnd_some hF
              obtain ⟨x96, hz_96, hF⟩ := hF
              refine sx_ldr hx hb hK hP hz_96 dL_act_565 ?_
              have fx96 : x96 < (p_535).1 := zs_ldr_lt hw_535 hz_96
              refine lv_iconst (v := 0) hx hb dL_act_566 (by decide) ?_
              replace hF := bnd_some hF
              obtain ⟨x97, hz_97, hF⟩ := hF
              refine sx_ld hx hb hK hP hz_97 dL_act_567 ?_
              refine lv_istore (lv' := [(13, .int x97), (0, .ref (h 0)), (1, .ref hs), (2, .int x2_535), (5, .int x5_535)]) hx hb dL_act_568 hl (by decide) rfl (fun ls hl => ?_)
              refine lv_aload_n hx hb dL_act_570 rfl (lv_at hl 2 rfl) ?_
              refine va_get (D := D) (C := RX6) (T := TX6) (N := 12) hx hb hts hiX6 hown hK hP _ zs_at rfl 7 (by decide) hf51 (fun _ h9 => h9) rfl dL_act_571 ?_
              refine lv_iload hx hb dL_act_574 (lv_at hl 4 rfl) ?_
              refine lv_iconst (v := 3) hx hb dL_act_576 (by decide) ?_
              replace hF := bnd_some hF
              obtain ⟨p98, hz_98, hF⟩ := hF
              refine sx_nwi hx hb (hts (.arrayClass .int) (by decide +kernel)) hK hw_535 hP hD hS hA hz_98 (Nat.le_of_ble_eq_true rfl) (Nat.le_of_ble_eq_true rfl) (Nat.le_of_ble_eq_true rfl) dL_act_577 (fun ad98 H ha98 hP hD hS => ?_)
              obtain ⟨hw98, hn98⟩ := zs_nwi_wf hw_535 hz_98
              have lf98 : (p_535).1 ≤ p98.1 := by rw [hn98]; exact Nat.le_succ _
              have fn98 : (p_535).1 < p98.1 := by rw [hn98]; exact Nat.lt_succ_self _
              rw [zs_W_up hf_535 ha98] at hP hD
              have hf_98 := zs_fs_le hf_535 lf98
              replace hl := lv_sub (l' := [(13, .int x97), (0, .ref (h 0)), (5, .int x5_535)]) hl [0, 1, 4] rfl
              rw [← ha98 (F_535 7) (hf_535 7)]
              have fr98_0 : (F_535 7) < (p98).1 := Nat.lt_of_lt_of_le (hf_535 7) lf98
              have le98 : p.1 ≤ (p98).1 := Nat.le_trans le_535 lf98
              have hb98 : ∀ i, i < p.1 → ad98 i = ad i := fun i hi => (ha98 i (Nat.lt_of_lt_of_le hi le_535)).trans (ha_535 i hi)
              replace hP : va_P D vwCl (zs_W (zx_W cy h X_535) cy hs ad98 G_535 F_535 p98) H := hP
              replace hD : va_D A (zs_W (zx_W cy h X_535) cy hs ad98 G_535 F_535 p98) := hD
              refine lv_dup hx hb dL_act_579 rfl ?_
              refine lv_iconst (v := 0) hx hb dL_act_580 (by decide) ?_
              refine lv_iconst (v := 0) hx hb dL_act_581 (by decide) ?_
              replace hF := bnd_some hF
              obtain ⟨p99, hz_99, hF⟩ := hF
              refine sx_st hx hb hK hP hD hS hz_99 dL_act_582 (fun H locs hP hD hS => ?_)
              obtain ⟨hw99, hn99⟩ := zs_st_wf hw98 hz_99
              have lf99 : (p98).1 ≤ p99.1 := Nat.le_of_eq hn99.symm
              have hf_99 := zs_fs_le hf_98 lf99
              have fr99_0 : (F_535 7) < (p99).1 := Nat.lt_of_lt_of_le fr98_0 lf99
              have fr99_1 : p_535.1 < (p99).1 := Nat.lt_of_lt_of_le fn98 lf99
              have le99 : p.1 ≤ (p99).1 := Nat.le_trans le98 lf99
              replace hP : va_P D vwCl (zs_W (zx_W cy h X_535) cy hs ad98 G_535 F_535 p99) H := hP
              replace hD : va_D A (zs_W (zx_W cy h X_535) cy hs ad98 G_535 F_535 p99) := hD
              refine lv_dup hx hb dL_act_583 rfl ?_
              refine lv_iconst (v := 1) hx hb dL_act_584 (by decide) ?_
              refine lv_iconst (v := 0) hx hb dL_act_585 (by decide) ?_
              replace hF := bnd_some hF
              obtain ⟨p100, hz_100, hF⟩ := hF
              refine sx_st hx hb hK hP hD hS hz_100 dL_act_586 (fun H locs hP hD hS => ?_)
              obtain ⟨hw100, hn100⟩ := zs_st_wf hw99 hz_100
              have lf100 : (p99).1 ≤ p100.1 := Nat.le_of_eq hn100.symm
              have hf_100 := zs_fs_le hf_99 lf100
              have fr100_0 : (F_535 7) < (p100).1 := Nat.lt_of_lt_of_le fr99_0 lf100
              have fr100_1 : p_535.1 < (p100).1 := Nat.lt_of_lt_of_le fr99_1 lf100
              have le100 : p.1 ≤ (p100).1 := Nat.le_trans le99 lf100
              replace hP : va_P D vwCl (zs_W (zx_W cy h X_535) cy hs ad98 G_535 F_535 p100) H := hP
              replace hD : va_D A (zs_W (zx_W cy h X_535) cy hs ad98 G_535 F_535 p100) := hD
              refine lv_dup hx hb dL_act_587 rfl ?_
              refine lv_iconst (v := 2) hx hb dL_act_588 (by decide) ?_
              refine lv_iconst (v := -1) hx hb dL_act_589 (by decide) ?_
              replace hF := bnd_some hF
              obtain ⟨p101, hz_101, hF⟩ := hF
              refine sx_st hx hb hK hP hD hS hz_101 dL_act_590 (fun H locs hP hD hS => ?_)
              obtain ⟨hw101, hn101⟩ := zs_st_wf hw100 hz_101
              have lf101 : (p100).1 ≤ p101.1 := Nat.le_of_eq hn101.symm
              have hf_101 := zs_fs_le hf_100 lf101
              have fr101_0 : (F_535 7) < (p101).1 := Nat.lt_of_lt_of_le fr100_0 lf101
              have fr101_1 : p_535.1 < (p101).1 := Nat.lt_of_lt_of_le fr100_1 lf101
              have le101 : p.1 ≤ (p101).1 := Nat.le_trans le100 lf101
              replace hP : va_P D vwCl (zs_W (zx_W cy h X_535) cy hs ad98 G_535 F_535 p101) H := hP
              replace hD : va_D A (zs_W (zx_W cy h X_535) cy hs ad98 G_535 F_535 p101) := hD
              replace hF := bnd_some hF
              obtain ⟨p102, hz_102, hF⟩ := hF
              refine sx_str hx hb hK hG.1.2.2.2 hP hD hS hz_102 dL_act_591 (fun H locs hP hD hS => ?_)
              obtain ⟨hw102, hn102⟩ := zs_str_wf hw101 hz_102
              have lf102 : (p101).1 ≤ p102.1 := Nat.le_of_eq hn102.symm
              have hf_102 := zs_fs_le hf_101 lf102
              have le102 : p.1 ≤ (p102).1 := Nat.le_trans le101 lf102
              replace hP : va_P D vwCl (zs_W (zx_W cy h X_535) cy hs ad98 G_535 F_535 p102) H := hP
              replace hD : va_D A (zs_W (zx_W cy h X_535) cy hs ad98 G_535 F_535 p102) := hD
              refine lv_aload_n hx hb dL_act_592 rfl (lv_at hl 1 rfl) ?_
              refine lv_iload hx hb dL_act_593 (lv_at hl 2 rfl) ?_
              replace hF := bnd_some hF
              obtain ⟨z103, hz_103, hF⟩ := hF
              refine zw_xI (P2 := zx_W cy h z103.2) (kV (As := [.int x5_535]) ⟨hx, hb, hml, hown, hts⟩ (kzx_drain l D cy sa h X_535 x5_535 z103 hz_103 _) (cwV 1 hts gL_act_X5_drain rfl rfl rfl (by decide +kernel) ⟨Nat.le_of_ble_eq_true rfl, Nat.le_of_ble_eq_true rfl⟩) hK hP hD hS hA hG (List.range (zx_W cy h X_535).length) zw_map1 (zp_nd1 _) zx_at rfl rfl rfl hl.1 [] rfl (Nat.le_of_ble_eq_true rfl) dL_act_595 ⟨(Nat.le_of_ble_eq_true rfl), (Nat.le_of_ble_eq_true rfl)⟩) hP hD hS hA zx_m (fun H locs hP hD hS => ?_)
              refine lv_iload hx hb dL_act_598 (lv_at hl 0 rfl) ?_
              refine lv_icmp_ne (tgt := 607) hx hb dL_act_600 (by decide) (fun c_104 => ?_) (fun c_104 => ?_)
              ·   replace hF := if_f hF c_104
                  cases hF
              ·   replace hF := if_t hF c_104
                  refine lv_iconst (v := 1) hx hb dL_act_603 (by decide) ?_
                  refine lv_goto (tgt := 608) hx hb dL_act_604 (by decide) ?_
                  cases hF
                  exact hQ _ _ _ _ _ _ _ ad98 rfl dL_act_608 ⟨rfl, ⟨hw102, hf_102, le102, hb98⟩⟩ hP hD hS (Nat.le_of_ble_eq_true rfl) (Nat.le_of_ble_eq_true rfl)
          ·   replace hF := if_f hF c_95
              refine lv_iconst (v := 1) hx hb dL_act_557 (by decide) ?_
              cases hF
              exact hQ _ _ _ _ _ _ _ ad_535 rfl dL_act_558 ⟨rfl, ⟨hw_535, hf_535, le_535, ha_535⟩⟩ hP hD hS (Nat.le_of_ble_eq_true rfl) (Nat.le_of_ble_eq_true rfl)
  have B609 : ∀ (X_609 : XT) (G_609 : FN) (F_609 : Nat → Nat) (p_609 : zs_H) (x2_609 : Int32) (x3_609 : Int32), fBL_act_609 X_609 G_609 F_609 p_609 x2_609 x3_609 = some z → ∀ (ad_609 : Nat → Nat) (H : Heap) (locs : List Loc) (ls : Array Slot), zs_wf p_609 → zs_fs F_609 p_609 → p.1 ≤ (p_609).1 → (∀ i, i < p.1 → ad_609 i = ad i) → va_P D vwCl (zs_W (zx_W cy h X_609) cy hs ad_609 G_609 F_609 p_609) H → va_D A (zs_W (zx_W cy h X_609) cy hs ad_609 G_609 F_609 p_609) → va_S A s.heap H locs → lv_has ls 22 [(0, .ref (h 0)), (1, .ref hs), (2, .int x2_609), (3, .int x3_609)] → W pg l e rL_act s m args below meth c H locs (0) (0) Q (F0 m 609 ls []) := by
      intro X_609 G_609 F_609 p_609 x2_609 x3_609 hF ad_609 H locs ls hw_609 hf_609 le_609 ha_609 hP hD hS hl
      unfold fBL_act_609 at hF
      refine lv_iload_n hx hb dL_act_609 rfl (lv_at hl 3 rfl) ?_
      refine lv_iconst (v := 5) hx hb dL_act_610 (by decide) ?_
      refine lv_icmp_ne (tgt := 616) hx hb dL_act_611 (by decide) (fun c_106 => ?_) (fun c_106 => ?_)
      ·   replace hF := if_f hF c_106
          refine lv_aload_n hx hb dL_act_616 rfl (lv_at hl 1 rfl) ?_
          refine lv_aload_n hx hb dL_act_617 rfl (lv_at hl 1 rfl) ?_
          refine va_get (D := D) (C := RX6) (T := TX6) (N := 12) hx hb hts hiX6 hown hK hP _ zs_at rfl 8 (by decide) hf9 (fun _ h9 => h9) rfl dL_act_618 ?_
          refine lv_iconst (v := 3) hx hb dL_act_621 (by decide) ?_
          replace hF := bnd_some hF
          obtain ⟨p107, hz_107, hF⟩ := hF
          refine sx_nwi hx hb (hts (.arrayClass .int) (by decide +kernel)) hK hw_609 hP hD hS hA hz_107 (Nat.le_of_ble_eq_true rfl) (Nat.le_of_ble_eq_true rfl) (Nat.le_of_ble_eq_true rfl) dL_act_622 (fun ad107 H ha107 hP hD hS => ?_)
          obtain ⟨hw107, hn107⟩ := zs_nwi_wf hw_609 hz_107
          have lf107 : (p_609).1 ≤ p107.1 := by rw [hn107]; exact Nat.le_succ _
          have fn107 : (p_609).1 < p107.1 := by rw [hn107]; exact Nat.lt_succ_self _
          rw [zs_W_up hf_609 ha107] at hP hD
          have hf_107 := zs_fs_le hf_609 lf107
          rw [← ha107 (F_609 8) (hf_609 8)]
          have fr107_0 : (F_609 8) < (p107).1 := Nat.lt_of_lt_of_le (hf_609 8) lf107
          have le107 : p.1 ≤ (p107).1 := Nat.le_trans le_609 lf107
          have hb107 : ∀ i, i < p.1 → ad107 i = ad i := fun i hi => (ha107 i (Nat.lt_of_lt_of_le hi le_609)).trans (ha_609 i hi)
          replace hP : va_P D vwCl (zs_W (zx_W cy h X_609) cy hs ad107 G_609 F_609 p107) H := hP
          replace hD : va_D A (zs_W (zx_W cy h X_609) cy hs ad107 G_609 F_609 p107) := hD
          refine lv_dup hx hb dL_act_624 rfl ?_
          refine lv_iconst (v := 0) hx hb dL_act_625 (by decide) ?_
          refine lv_iload_n hx hb dL_act_626 rfl (lv_at hl 2 rfl) ?_
          refine lv_iconst (v := 1) hx hb dL_act_627 (by decide) ?_
          refine lv_ishr hx hb dL_act_628 ?_
          refine lv_bipush (v := 10) hx hb dL_act_629 (by decide) ?_
          replace hF := bnd_some hF
          obtain ⟨z108, hz_108, hF⟩ := hF
          refine krI (kS (As := [.int (x2_609 >>> (1 &&& 31)), .int 10]) ⟨hx, hb, hml, hown, hts⟩ (kL_below l D cy sa (x2_609 >>> (1 &&& 31)) 10 z108 hz_108 _) (va_cwS 2 hts gL_act_L_below rfl rfl rfl (by decide +kernel) ⟨Nat.le_of_ble_eq_true rfl, Nat.le_of_ble_eq_true rfl⟩) hK hP hD hS hA hG [] rfl rfl rfl hl.1 [.int 0, .ref (ad107 p_609.1), .ref (ad107 p_609.1), .ref (ad107 (F_609 8)), .ref hs] rfl (Nat.le_of_ble_eq_true rfl) dL_act_631 ⟨(Nat.le_of_ble_eq_true rfl), (Nat.le_of_ble_eq_true rfl)⟩) hP hD hS hA [] rfl (fun H locs hP hS => ?_)
          replace hF := bnd_some hF
          obtain ⟨p109, hz_109, hF⟩ := hF
          refine sx_st hx hb hK hP hD hS hz_109 dL_act_634 (fun H locs hP hD hS => ?_)
          obtain ⟨hw109, hn109⟩ := zs_st_wf hw107 hz_109
          have lf109 : (p107).1 ≤ p109.1 := Nat.le_of_eq hn109.symm
          have hf_109 := zs_fs_le hf_107 lf109
          have fr109_0 : (F_609 8) < (p109).1 := Nat.lt_of_lt_of_le fr107_0 lf109
          have fr109_1 : p_609.1 < (p109).1 := Nat.lt_of_lt_of_le fn107 lf109
          have le109 : p.1 ≤ (p109).1 := Nat.le_trans le107 lf109
          replace hP : va_P D vwCl (zs_W (zx_W cy h X_609) cy hs ad107 G_609 F_609 p109) H := hP
          replace hD : va_D A (zs_W (zx_W cy h X_609) cy hs ad107 G_609 F_609 p109) := hD
          refine lv_dup hx hb dL_act_635 rfl ?_
          refine lv_iconst (v := 1) hx hb dL_act_636 (by decide) ?_
          refine lv_iconst (v := 1) hx hb dL_act_637 (by decide) ?_
          refine lv_iload_n hx hb dL_act_638 rfl (lv_at hl 2 rfl) ?_
          refine lv_iconst (v := 5) hx hb dL_act_639 (by decide) ?_
          refine lv_ishr hx hb dL_act_640 ?_
          refine lv_iconst (v := 3) hx hb dL_act_641 (by decide) ?_
          replace hF := bnd_some hF
          obtain ⟨z110, hz_110, hF⟩ := hF
          refine krI (kS (As := [.int (x2_609 >>> (5 &&& 31)), .int 3]) ⟨hx, hb, hml, hown, hts⟩ (kL_below l D cy sa (x2_609 >>> (5 &&& 31)) 3 z110 hz_110 _) (va_cwS 2 hts gL_act_L_below rfl rfl rfl (by decide +kernel) ⟨Nat.le_of_ble_eq_true rfl, Nat.le_of_ble_eq_true rfl⟩) hK hP hD hS hA hG [] rfl rfl rfl hl.1 [.int 1, .int 1, .ref (ad107 p_609.1), .ref (ad107 p_609.1), .ref (ad107 (F_609 8)), .ref hs] rfl (Nat.le_of_ble_eq_true rfl) dL_act_642 ⟨(Nat.le_of_ble_eq_true rfl), (Nat.le_of_ble_eq_true rfl)⟩) hP hD hS hA [] rfl (fun H locs hP hS => ?_)
          refine lv_iadd hx hb dL_act_645 ?_
          replace hF := bnd_some hF
          obtain ⟨p111, hz_111, hF⟩ := hF
          refine sx_st hx hb hK hP hD hS hz_111 dL_act_646 (fun H locs hP hD hS => ?_)
          obtain ⟨hw111, hn111⟩ := zs_st_wf hw109 hz_111
          have lf111 : (p109).1 ≤ p111.1 := Nat.le_of_eq hn111.symm
          have hf_111 := zs_fs_le hf_109 lf111
          have fr111_0 : (F_609 8) < (p111).1 := Nat.lt_of_lt_of_le fr109_0 lf111
          have fr111_1 : p_609.1 < (p111).1 := Nat.lt_of_lt_of_le fr109_1 lf111
          have le111 : p.1 ≤ (p111).1 := Nat.le_trans le109 lf111
          replace hP : va_P D vwCl (zs_W (zx_W cy h X_609) cy hs ad107 G_609 F_609 p111) H := hP
          replace hD : va_D A (zs_W (zx_W cy h X_609) cy hs ad107 G_609 F_609 p111) := hD
          refine lv_dup hx hb dL_act_647 rfl ?_
          refine lv_iconst (v := 2) hx hb dL_act_648 (by decide) ?_
          refine lv_iconst (v := 0) hx hb dL_act_649 (by decide) ?_
          replace hF := bnd_some hF
          obtain ⟨p112, hz_112, hF⟩ := hF
          refine sx_st hx hb hK hP hD hS hz_112 dL_act_650 (fun H locs hP hD hS => ?_)
          obtain ⟨hw112, hn112⟩ := zs_st_wf hw111 hz_112
          have lf112 : (p111).1 ≤ p112.1 := Nat.le_of_eq hn112.symm
          have hf_112 := zs_fs_le hf_111 lf112
          have fr112_0 : (F_609 8) < (p112).1 := Nat.lt_of_lt_of_le fr111_0 lf112
          have fr112_1 : p_609.1 < (p112).1 := Nat.lt_of_lt_of_le fr111_1 lf112
          have le112 : p.1 ≤ (p112).1 := Nat.le_trans le111 lf112
          replace hP : va_P D vwCl (zs_W (zx_W cy h X_609) cy hs ad107 G_609 F_609 p112) H := hP
          replace hD : va_D A (zs_W (zx_W cy h X_609) cy hs ad107 G_609 F_609 p112) := hD
          replace hF := bnd_some hF
          obtain ⟨z113, hz_113, hF⟩ := hF
          refine zw_R (kS (As := [.ref (ad107 (F_609 8)), .ref (ad107 p_609.1)]) ⟨hx, hb, hml, hown, hts⟩ (kX6_more l D cy sa hs ad107 G_609 F_609 p112 (F_609 8) p_609.1 hw112 hf_112 fr112_0 fr112_1 z113 hz_113 _) (va_cwS 2 hts gL_act_X6_more rfl rfl rfl (by decide +kernel) ⟨Nat.le_of_ble_eq_true rfl, Nat.le_of_ble_eq_true rfl⟩) hK hP hD hS hA hG (List.range' ((zx_W cy h X_609) : va_W).length (zs_W [] cy hs ad107 G_609 F_609 p112).length) zw_map2 (zp_nd2 _ _) rfl hl.1 [.ref hs] rfl (Nat.le_of_ble_eq_true rfl) dL_act_651 ⟨(Nat.le_of_ble_eq_true rfl), (Nat.le_of_ble_eq_true rfl)⟩) hP hD hS hA (fun ad113 H locs hq113 hP hD hS => ?_)
          obtain ⟨⟨hw113, hf_113, lf113, ha113⟩, fn113⟩ := hq113
          replace hl := lv_sub (l' := [(0, .ref (h 0)), (1, .ref hs), (3, .int x3_609)]) hl [0, 1, 3] rfl
          have le113 : p.1 ≤ (z113.2).1 := Nat.le_trans le112 lf113
          have hb113 : ∀ i, i < p.1 → ad113 i = ad i := fun i hi => (ha113 i (Nat.lt_of_lt_of_le hi le112)).trans (hb107 i hi)
          replace hP : va_P D vwCl (zs_W (zx_W cy h X_609) cy hs ad113 G_609 F_609 z113.2) H := hP
          replace hD : va_D A (zs_W (zx_W cy h X_609) cy hs ad113 G_609 F_609 z113.2) := hD
          refine va_put (D := D) (v := .ref (ad113 z113.1)) (ty := .array (.array .int)) (C := RX6) (T := TX6) (N := 12) hx hb hts hiX6 tyX6 tyX6_ok nmX6 hown hK hP hD hS _ zs_at rfl 8 (by decide) hf9 (fun _ h9 => h9) rfl (by decide +kernel) rfl rfl (Nat.le_of_ble_eq_true rfl) dL_act_654 (fun H locs hP hD hS => ?_)
          have hg114 := zs_fs_up (k := 8) hf_113 fn113
          replace hg114 : zs_fs (va_up F_609 8 z113.1) z113.2 := hg114
          rw [zs_set (vs := (zs_obj ad113 G_609 F_609).set 8 (.ref (ad113 z113.1))) (G2 := G_609) (F2 := va_up F_609 8 z113.1) rfl] at hP hD
          refine lv_aload_n hx hb dL_act_657 rfl (lv_at hl 0 rfl) ?_
          refine lv_aload_n hx hb dL_act_658 rfl (lv_at hl 1 rfl) ?_
          refine va_get (D := D) (C := RX6) (T := TX6) (N := 12) hx hb hts hiX6 hown hK hP _ zs_at rfl 8 (by decide) hf9 (fun _ h9 => h9) rfl dL_act_659 ?_
          refine lv_iload_n hx hb dL_act_662 rfl (lv_at hl 2 rfl) ?_
          replace hF := bnd_some hF
          obtain ⟨x115, hz_115, hF⟩ := hF
          refine sx_ldr hx hb hK hP hz_115 dL_act_663 ?_
          have fx115 : x115 < (z113.2).1 := zs_ldr_lt hw113 hz_115
          refine lv_iconst (v := 0) hx hb dL_act_664 (by decide) ?_
          replace hF := bnd_some hF
          obtain ⟨x116, hz_116, hF⟩ := hF
          refine sx_ld hx hb hK hP hz_116 dL_act_665 ?_
          refine lv_aload_n hx hb dL_act_666 rfl (lv_at hl 1 rfl) ?_
          refine va_get (D := D) (C := RX6) (T := TX6) (N := 12) hx hb hts hiX6 hown hK hP _ zs_at rfl 8 (by decide) hf9 (fun _ h9 => h9) rfl dL_act_667 ?_
          refine lv_iload_n hx hb dL_act_670 rfl (lv_at hl 2 rfl) ?_
          replace hF := bnd_some hF
          obtain ⟨x117, hz_117, hF⟩ := hF
          refine sx_ldr hx hb hK hP hz_117 dL_act_671 ?_
          have fx117 : x117 < (z113.2).1 := zs_ldr_lt hw113 hz_117
          refine lv_iconst (v := 1) hx hb dL_act_672 (by decide) ?_
          replace hF := bnd_some hF
          obtain ⟨x118, hz_118, hF⟩ := hF
          refine sx_ld hx hb hK hP hz_118 dL_act_673 ?_
          replace hF := bnd_some hF
          obtain ⟨z119, hz_119, hF⟩ := hF
          refine zw_xI (P2 := zx_W cy h z119.2) (kV (As := [.int x116, .int x118]) ⟨hx, hb, hml, hown, hts⟩ (kzx_pair l D cy sa h X_609 x116 x118 z119 hz_119 _) (cwV 2 hts gL_act_X5_pair rfl rfl rfl (by decide +kernel) ⟨Nat.le_of_ble_eq_true rfl, Nat.le_of_ble_eq_true rfl⟩) hK hP hD hS hA hG (List.range (zx_W cy h X_609).length) zw_map1 (zp_nd1 _) zx_at rfl rfl rfl hl.1 [] rfl (Nat.le_of_ble_eq_true rfl) dL_act_674 ⟨(Nat.le_of_ble_eq_true rfl), (Nat.le_of_ble_eq_true rfl)⟩) hP hD hS hA zx_m (fun H locs hP hD hS => ?_)
          refine lv_iload_n hx hb dL_act_677 rfl (lv_at hl 2 rfl) ?_
          refine lv_icmp_ne (tgt := 685) hx hb dL_act_678 (by decide) (fun c_120 => ?_) (fun c_120 => ?_)
          ·   replace hF := if_f hF c_120
              cases hF
          ·   replace hF := if_t hF c_120
              refine lv_iconst (v := 1) hx hb dL_act_681 (by decide) ?_
              refine lv_goto (tgt := 686) hx hb dL_act_682 (by decide) ?_
              cases hF
              exact hQ _ _ _ _ _ _ _ ad113 rfl dL_act_686 ⟨rfl, ⟨hw113, hg114, le113, hb113⟩⟩ hP hD hS (Nat.le_of_ble_eq_true rfl) (Nat.le_of_ble_eq_true rfl)
      ·   replace hF := if_t hF c_106
          refine lv_iconst (v := 1) hx hb dL_act_614 (by decide) ?_
          cases hF
          exact hQ _ _ _ _ _ _ _ ad_609 rfl dL_act_615 ⟨rfl, ⟨hw_609, hf_609, le_609, ha_609⟩⟩ hP hD hS (Nat.le_of_ble_eq_true rfl) (Nat.le_of_ble_eq_true rfl)
  have B687 : ∀ (X_687 : XT) (G_687 : FN) (F_687 : Nat → Nat) (p_687 : zs_H) (x2_687 : Int32) (x3_687 : Int32), fBL_act_687 X_687 G_687 F_687 p_687 x2_687 x3_687 = some z → ∀ (ad_687 : Nat → Nat) (H : Heap) (locs : List Loc) (ls : Array Slot), zs_wf p_687 → zs_fs F_687 p_687 → p.1 ≤ (p_687).1 → (∀ i, i < p.1 → ad_687 i = ad i) → va_P D vwCl (zs_W (zx_W cy h X_687) cy hs ad_687 G_687 F_687 p_687) H → va_D A (zs_W (zx_W cy h X_687) cy hs ad_687 G_687 F_687 p_687) → va_S A s.heap H locs → lv_has ls 22 [(0, .ref (h 0)), (1, .ref hs), (2, .int x2_687), (3, .int x3_687)] → W pg l e rL_act s m args below meth c H locs (0) (0) Q (F0 m 687 ls []) := by
      intro X_687 G_687 F_687 p_687 x2_687 x3_687 hF ad_687 H locs ls hw_687 hf_687 le_687 ha_687 hP hD hS hl
      unfold fBL_act_687 at hF
      refine lv_iload_n hx hb dL_act_687 rfl (lv_at hl 3 rfl) ?_
      refine lv_if_ne (tgt := 693) hx hb dL_act_688 (by decide) (fun c_123 => ?_) (fun c_123 => ?_)
      ·   replace hF := if_f hF c_123
          refine lv_aload_n hx hb dL_act_693 rfl (lv_at hl 1 rfl) ?_
          refine va_get (D := D) (C := RX6) (T := TX6) (N := 12) hx hb hts hiX6 hown hK hP _ zs_at rfl 8 (by decide) hf9 (fun _ h9 => h9) rfl dL_act_694 ?_
          refine lv_iload_n hx hb dL_act_697 rfl (lv_at hl 2 rfl) ?_
          refine lv_iconst (v := 1) hx hb dL_act_698 (by decide) ?_
          refine lv_ishr hx hb dL_act_699 ?_
          refine lv_iload_n hx hb dL_act_700 rfl (lv_at hl 3 rfl) ?_
          replace hF := bnd_some hF
          obtain ⟨z124, hz_124, hF⟩ := hF
          refine krI (kS (As := [.int (x2_687 >>> (1 &&& 31)), .int x3_687]) ⟨hx, hb, hml, hown, hts⟩ (kL_below l D cy sa (x2_687 >>> (1 &&& 31)) x3_687 z124 hz_124 _) (va_cwS 2 hts gL_act_L_below rfl rfl rfl (by decide +kernel) ⟨Nat.le_of_ble_eq_true rfl, Nat.le_of_ble_eq_true rfl⟩) hK hP hD hS hA hG [] rfl rfl rfl hl.1 [.ref (ad_687 (F_687 8))] rfl (Nat.le_of_ble_eq_true rfl) dL_act_701 ⟨(Nat.le_of_ble_eq_true rfl), (Nat.le_of_ble_eq_true rfl)⟩) hP hD hS hA [] rfl (fun H locs hP hS => ?_)
          replace hF := bnd_some hF
          obtain ⟨x125, hz_125, hF⟩ := hF
          refine sx_ldr hx hb hK hP hz_125 dL_act_704 ?_
          have fx125 : x125 < (p_687).1 := zs_ldr_lt hw_687 hz_125
          refine lv_astore (lv' := [(14, .ref (ad_687 x125)), (0, .ref (h 0)), (1, .ref hs), (2, .int x2_687), (3, .int x3_687)]) hx hb dL_act_705 hl (by decide) rfl (fun ls hl => ?_)
          refine lv_aload hx hb dL_act_707 (lv_at hl 0 rfl) ?_
          refine lv_iconst (v := 2) hx hb dL_act_709 (by decide) ?_
          replace hF := bnd_some hF
          obtain ⟨x126, hz_126, hF⟩ := hF
          refine sx_ld hx hb hK hP hz_126 dL_act_710 ?_
          refine lv_if_eq (tgt := 722) hx hb dL_act_711 (by decide) (fun c_127 => ?_) (fun c_127 => ?_)
          ·   replace hF := if_t hF c_127
              refine lv_iconst (v := 1) hx hb dL_act_722 (by decide) ?_
              cases hF
              exact hQ _ _ _ _ _ _ _ ad_687 rfl dL_act_723 ⟨rfl, ⟨hw_687, hf_687, le_687, ha_687⟩⟩ hP hD hS (Nat.le_of_ble_eq_true rfl) (Nat.le_of_ble_eq_true rfl)
          ·   replace hF := if_f hF c_127
              refine lv_aload_n hx hb dL_act_714 rfl (lv_at hl 2 rfl) ?_
              refine va_get (D := D) (C := RX6) (T := TX6) (N := 12) hx hb hts hiX6 hown hK hP _ zs_at rfl 1 (by decide) hf24 (fun _ h9 => h9) rfl dL_act_715 ?_
              refine lv_iconst (v := 5) hx hb dL_act_718 (by decide) ?_
              refine lv_icmp_ge (tgt := 724) hx hb dL_act_719 (by decide) (fun c_128 => ?_) (fun c_128 => ?_)
              ·   replace hF := if_t hF c_128
                  refine lv_aload hx hb dL_act_724 (lv_at hl 0 rfl) ?_
                  refine lv_iconst (v := 2) hx hb dL_act_726 (by decide) ?_
                  replace hF := bnd_some hF
                  obtain ⟨x129, hz_129, hF⟩ := hF
                  refine sx_ld hx hb hK hP hz_129 dL_act_727 ?_
                  refine lv_istore (lv' := [(15, .int x129), (14, .ref (ad_687 x125)), (0, .ref (h 0)), (1, .ref hs), (2, .int x2_687), (3, .int x3_687)]) hx hb dL_act_728 hl (by decide) rfl (fun ls hl => ?_)
                  refine lv_aload hx hb dL_act_730 (lv_at hl 1 rfl) ?_
                  refine lv_iconst (v := 2) hx hb dL_act_732 (by decide) ?_
                  refine lv_iconst (v := 0) hx hb dL_act_733 (by decide) ?_
                  replace hF := bnd_some hF
                  obtain ⟨p130, hz_130, hF⟩ := hF
                  refine sx_st hx hb hK hP hD hS hz_130 dL_act_734 (fun H locs hP hD hS => ?_)
                  obtain ⟨hw130, hn130⟩ := zs_st_wf hw_687 hz_130
                  have lf130 : (p_687).1 ≤ p130.1 := Nat.le_of_eq hn130.symm
                  have hf_130 := zs_fs_le hf_687 lf130
                  have le130 : p.1 ≤ (p130).1 := Nat.le_trans le_687 lf130
                  replace hP : va_P D vwCl (zs_W (zx_W cy h X_687) cy hs ad_687 G_687 F_687 p130) H := hP
                  replace hD : va_D A (zs_W (zx_W cy h X_687) cy hs ad_687 G_687 F_687 p130) := hD
                  refine lv_aload_n hx hb dL_act_735 rfl (lv_at hl 3 rfl) ?_
                  refine lv_dup hx hb dL_act_736 rfl ?_
                  refine va_get (D := D) (C := RX6) (T := TX6) (N := 12) hx hb hts hiX6 hown hK hP _ zs_at rfl 1 (by decide) hf24 (fun _ h9 => h9) rfl dL_act_737 ?_
                  refine lv_iconst (v := 5) hx hb dL_act_740 (by decide) ?_
                  refine lv_isub hx hb dL_act_741 ?_
                  refine va_put (D := D) (v := .int ((G_687 1) - 5)) (ty := .int) (C := RX6) (T := TX6) (N := 12) hx hb hts hiX6 tyX6 tyX6_ok nmX6 hown hK hP hD hS _ zs_at rfl 1 (by decide) hf24 (fun _ h9 => h9) rfl (by decide +kernel) rfl rfl (Nat.le_of_ble_eq_true rfl) dL_act_742 (fun H locs hP hD hS => ?_)
                  rw [zs_set (vs := (zs_obj ad_687 G_687 F_687).set 1 (.int ((G_687 1) - 5))) (G2 := upd G_687 1 ((G_687 1) - 5)) (F2 := F_687) rfl] at hP hD
                  refine lv_aload_n hx hb dL_act_745 rfl (lv_at hl 2 rfl) ?_
                  refine lv_iload_n hx hb dL_act_746 rfl (lv_at hl 4 rfl) ?_
                  refine lv_iconst (v := 1) hx hb dL_act_747 (by decide) ?_
                  refine lv_ishr hx hb dL_act_748 ?_
                  refine lv_iload_n hx hb dL_act_749 rfl (lv_at hl 5 rfl) ?_
                  replace hF := bnd_some hF
                  obtain ⟨z131, hz_131, hF⟩ := hF
                  refine krI (kS (As := [.int (x2_687 >>> (1 &&& 31)), .int x3_687]) ⟨hx, hb, hml, hown, hts⟩ (kL_below l D cy sa (x2_687 >>> (1 &&& 31)) x3_687 z131 hz_131 _) (va_cwS 2 hts gL_act_L_below rfl rfl rfl (by decide +kernel) ⟨Nat.le_of_ble_eq_true rfl, Nat.le_of_ble_eq_true rfl⟩) hK hP hD hS hA hG [] rfl rfl rfl hl.1 [.ref (h 0)] rfl (Nat.le_of_ble_eq_true rfl) dL_act_750 ⟨(Nat.le_of_ble_eq_true rfl), (Nat.le_of_ble_eq_true rfl)⟩) hP hD hS hA [] rfl (fun H locs hP hS => ?_)
                  replace hF := bnd_some hF
                  obtain ⟨z132, hz_132, hF⟩ := hF
                  refine zw_xI (P2 := zx_W cy h z132.2) (kV (As := [.int z131]) ⟨hx, hb, hml, hown, hts⟩ (kzx_wire l D cy sa h X_687 z131 z132 hz_132 _) (cwV 1 hts gL_act_X5_wire rfl rfl rfl (by decide +kernel) ⟨Nat.le_of_ble_eq_true rfl, Nat.le_of_ble_eq_true rfl⟩) hK hP hD hS hA hG (List.range (zx_W cy h X_687).length) zw_map1 (zp_nd1 _) zx_at rfl rfl rfl hl.1 [] rfl (Nat.le_of_ble_eq_true rfl) dL_act_753 ⟨(Nat.le_of_ble_eq_true rfl), (Nat.le_of_ble_eq_true rfl)⟩) hP hD hS hA zx_m (fun H locs hP hD hS => ?_)
                  refine lv_iload hx hb dL_act_756 (lv_at hl 0 rfl) ?_
                  refine lv_icmp_ne (tgt := 765) hx hb dL_act_758 (by decide) (fun c_133 => ?_) (fun c_133 => ?_)
                  ·   replace hF := if_f hF c_133
                      cases hF
                  ·   replace hF := if_t hF c_133
                      refine lv_iconst (v := 1) hx hb dL_act_761 (by decide) ?_
                      refine lv_goto (tgt := 766) hx hb dL_act_762 (by decide) ?_
                      cases hF
                      exact hQ _ _ _ _ _ _ _ ad_687 rfl dL_act_766 ⟨rfl, ⟨hw130, hf_130, le130, ha_687⟩⟩ hP hD hS (Nat.le_of_ble_eq_true rfl) (Nat.le_of_ble_eq_true rfl)
              ·   replace hF := if_f hF c_128
                  refine lv_iconst (v := 1) hx hb dL_act_722 (by decide) ?_
                  cases hF
                  exact hQ _ _ _ _ _ _ _ ad_687 rfl dL_act_723 ⟨rfl, ⟨hw_687, hf_687, le_687, ha_687⟩⟩ hP hD hS (Nat.le_of_ble_eq_true rfl) (Nat.le_of_ble_eq_true rfl)
      ·   replace hF := if_t hF c_123
          refine lv_iconst (v := 1) hx hb dL_act_691 (by decide) ?_
          cases hF
          exact hQ _ _ _ _ _ _ _ ad_687 rfl dL_act_692 ⟨rfl, ⟨hw_687, hf_687, le_687, ha_687⟩⟩ hP hD hS (Nat.le_of_ble_eq_true rfl) (Nat.le_of_ble_eq_true rfl)
  have B767 : ∀ (X_767 : XT) (G_767 : FN) (F_767 : Nat → Nat) (p_767 : zs_H) (x2_767 : Int32) (x4_767 : Int32), fBL_act_767 X_767 G_767 F_767 p_767 x2_767 x4_767 = some z → ∀ (ad_767 : Nat → Nat) (H : Heap) (locs : List Loc) (ls : Array Slot), zs_wf p_767 → zs_fs F_767 p_767 → p.1 ≤ (p_767).1 → (∀ i, i < p.1 → ad_767 i = ad i) → va_P D vwCl (zs_W (zx_W cy h X_767) cy hs ad_767 G_767 F_767 p_767) H → va_D A (zs_W (zx_W cy h X_767) cy hs ad_767 G_767 F_767 p_767) → va_S A s.heap H locs → lv_has ls 22 [(0, .ref (h 0)), (1, .ref hs), (2, .int x2_767), (4, .int x4_767)] → W pg l e rL_act s m args below meth c H locs (0) (0) Q (F0 m 767 ls []) := by
      intro X_767 G_767 F_767 p_767 x2_767 x4_767 hF ad_767 H locs ls hw_767 hf_767 le_767 ha_767 hP hD hS hl
      unfold fBL_act_767 at hF
      refine lv_iload hx hb dL_act_767 (lv_at hl 3 rfl) ?_
      refine lv_iconst (v := 3) hx hb dL_act_769 (by decide) ?_
      refine lv_icmp_ne (tgt := 775) hx hb dL_act_770 (by decide) (fun c_135 => ?_) (fun c_135 => ?_)
      ·   replace hF := if_f hF c_135
          refine lv_aload_n hx hb dL_act_775 rfl (lv_at hl 1 rfl) ?_
          refine lv_aload_n hx hb dL_act_776 rfl (lv_at hl 1 rfl) ?_
          refine va_get (D := D) (C := RX6) (T := TX6) (N := 12) hx hb hts hiX6 hown hK hP _ zs_at rfl 9 (by decide) hf15 (fun _ h9 => h9) rfl dL_act_777 ?_
          refine lv_iconst (v := 3) hx hb dL_act_780 (by decide) ?_
          replace hF := bnd_some hF
          obtain ⟨p136, hz_136, hF⟩ := hF
          refine sx_nwi hx hb (hts (.arrayClass .int) (by decide +kernel)) hK hw_767 hP hD hS hA hz_136 (Nat.le_of_ble_eq_true rfl) (Nat.le_of_ble_eq_true rfl) (Nat.le_of_ble_eq_true rfl) dL_act_781 (fun ad136 H ha136 hP hD hS => ?_)
          obtain ⟨hw136, hn136⟩ := zs_nwi_wf hw_767 hz_136
          have lf136 : (p_767).1 ≤ p136.1 := by rw [hn136]; exact Nat.le_succ _
          have fn136 : (p_767).1 < p136.1 := by rw [hn136]; exact Nat.lt_succ_self _
          rw [zs_W_up hf_767 ha136] at hP hD
          have hf_136 := zs_fs_le hf_767 lf136
          rw [← ha136 (F_767 9) (hf_767 9)]
          have fr136_0 : (F_767 9) < (p136).1 := Nat.lt_of_lt_of_le (hf_767 9) lf136
          have le136 : p.1 ≤ (p136).1 := Nat.le_trans le_767 lf136
          have hb136 : ∀ i, i < p.1 → ad136 i = ad i := fun i hi => (ha136 i (Nat.lt_of_lt_of_le hi le_767)).trans (ha_767 i hi)
          replace hP : va_P D vwCl (zs_W (zx_W cy h X_767) cy hs ad136 G_767 F_767 p136) H := hP
          replace hD : va_D A (zs_W (zx_W cy h X_767) cy hs ad136 G_767 F_767 p136) := hD
          refine lv_dup hx hb dL_act_783 rfl ?_
          refine lv_iconst (v := 0) hx hb dL_act_784 (by decide) ?_
          refine lv_iconst (v := 1) hx hb dL_act_785 (by decide) ?_
          refine lv_iload_n hx hb dL_act_786 rfl (lv_at hl 2 rfl) ?_
          refine lv_iconst (v := 1) hx hb dL_act_787 (by decide) ?_
          refine lv_ishr hx hb dL_act_788 ?_
          refine lv_bipush (v := 12) hx hb dL_act_789 (by decide) ?_
          replace hF := bnd_some hF
          obtain ⟨z137, hz_137, hF⟩ := hF
          refine krI (kS (As := [.int (x2_767 >>> (1 &&& 31)), .int 12]) ⟨hx, hb, hml, hown, hts⟩ (kL_below l D cy sa (x2_767 >>> (1 &&& 31)) 12 z137 hz_137 _) (va_cwS 2 hts gL_act_L_below rfl rfl rfl (by decide +kernel) ⟨Nat.le_of_ble_eq_true rfl, Nat.le_of_ble_eq_true rfl⟩) hK hP hD hS hA hG [] rfl rfl rfl hl.1 [.int 1, .int 0, .ref (ad136 p_767.1), .ref (ad136 p_767.1), .ref (ad136 (F_767 9)), .ref hs] rfl (Nat.le_of_ble_eq_true rfl) dL_act_791 ⟨(Nat.le_of_ble_eq_true rfl), (Nat.le_of_ble_eq_true rfl)⟩) hP hD hS hA [] rfl (fun H locs hP hS => ?_)
          refine lv_iadd hx hb dL_act_794 ?_
          replace hF := bnd_some hF
          obtain ⟨p138, hz_138, hF⟩ := hF
          refine sx_st hx hb hK hP hD hS hz_138 dL_act_795 (fun H locs hP hD hS => ?_)
          obtain ⟨hw138, hn138⟩ := zs_st_wf hw136 hz_138
          have lf138 : (p136).1 ≤ p138.1 := Nat.le_of_eq hn138.symm
          have hf_138 := zs_fs_le hf_136 lf138
          have fr138_0 : (F_767 9) < (p138).1 := Nat.lt_of_lt_of_le fr136_0 lf138
          have fr138_1 : p_767.1 < (p138).1 := Nat.lt_of_lt_of_le fn136 lf138
          have le138 : p.1 ≤ (p138).1 := Nat.le_trans le136 lf138
          replace hP : va_P D vwCl (zs_W (zx_W cy h X_767) cy hs ad136 G_767 F_767 p138) H := hP
          replace hD : va_D A (zs_W (zx_W cy h X_767) cy hs ad136 G_767 F_767 p138) := hD
          refine lv_dup hx hb dL_act_796 rfl ?_
          refine lv_iconst (v := 1) hx hb dL_act_797 (by decide) ?_
          refine lv_iconst (v := -1) hx hb dL_act_798 (by decide) ?_
          replace hF := bnd_some hF
          obtain ⟨p139, hz_139, hF⟩ := hF
          refine sx_st hx hb hK hP hD hS hz_139 dL_act_799 (fun H locs hP hD hS => ?_)
          obtain ⟨hw139, hn139⟩ := zs_st_wf hw138 hz_139
          have lf139 : (p138).1 ≤ p139.1 := Nat.le_of_eq hn139.symm
          have hf_139 := zs_fs_le hf_138 lf139
          have fr139_0 : (F_767 9) < (p139).1 := Nat.lt_of_lt_of_le fr138_0 lf139
          have fr139_1 : p_767.1 < (p139).1 := Nat.lt_of_lt_of_le fr138_1 lf139
          have le139 : p.1 ≤ (p139).1 := Nat.le_trans le138 lf139
          replace hP : va_P D vwCl (zs_W (zx_W cy h X_767) cy hs ad136 G_767 F_767 p139) H := hP
          replace hD : va_D A (zs_W (zx_W cy h X_767) cy hs ad136 G_767 F_767 p139) := hD
          refine lv_dup hx hb dL_act_800 rfl ?_
          refine lv_iconst (v := 2) hx hb dL_act_801 (by decide) ?_
          refine lv_iconst (v := -1) hx hb dL_act_802 (by decide) ?_
          replace hF := bnd_some hF
          obtain ⟨p140, hz_140, hF⟩ := hF
          refine sx_st hx hb hK hP hD hS hz_140 dL_act_803 (fun H locs hP hD hS => ?_)
          obtain ⟨hw140, hn140⟩ := zs_st_wf hw139 hz_140
          have lf140 : (p139).1 ≤ p140.1 := Nat.le_of_eq hn140.symm
          have hf_140 := zs_fs_le hf_139 lf140
          have fr140_0 : (F_767 9) < (p140).1 := Nat.lt_of_lt_of_le fr139_0 lf140
          have fr140_1 : p_767.1 < (p140).1 := Nat.lt_of_lt_of_le fr139_1 lf140
          have le140 : p.1 ≤ (p140).1 := Nat.le_trans le139 lf140
          replace hP : va_P D vwCl (zs_W (zx_W cy h X_767) cy hs ad136 G_767 F_767 p140) H := hP
          replace hD : va_D A (zs_W (zx_W cy h X_767) cy hs ad136 G_767 F_767 p140) := hD
          replace hF := bnd_some hF
          obtain ⟨z141, hz_141, hF⟩ := hF
          refine zw_R (kS (As := [.ref (ad136 (F_767 9)), .ref (ad136 p_767.1)]) ⟨hx, hb, hml, hown, hts⟩ (kX6_more l D cy sa hs ad136 G_767 F_767 p140 (F_767 9) p_767.1 hw140 hf_140 fr140_0 fr140_1 z141 hz_141 _) (va_cwS 2 hts gL_act_X6_more rfl rfl rfl (by decide +kernel) ⟨Nat.le_of_ble_eq_true rfl, Nat.le_of_ble_eq_true rfl⟩) hK hP hD hS hA hG (List.range' ((zx_W cy h X_767) : va_W).length (zs_W [] cy hs ad136 G_767 F_767 p140).length) zw_map2 (zp_nd2 _ _) rfl hl.1 [.ref hs] rfl (Nat.le_of_ble_eq_true rfl) dL_act_804 ⟨(Nat.le_of_ble_eq_true rfl), (Nat.le_of_ble_eq_true rfl)⟩) hP hD hS hA (fun ad141 H locs hq141 hP hD hS => ?_)
          obtain ⟨⟨hw141, hf_141, lf141, ha141⟩, fn141⟩ := hq141
          replace hl := lv_sub (l' := [(0, .ref (h 0)), (1, .ref hs), (4, .int x4_767)]) hl [0, 1, 3] rfl
          have le141 : p.1 ≤ (z141.2).1 := Nat.le_trans le140 lf141
          have hb141 : ∀ i, i < p.1 → ad141 i = ad i := fun i hi => (ha141 i (Nat.lt_of_lt_of_le hi le140)).trans (hb136 i hi)
          replace hP : va_P D vwCl (zs_W (zx_W cy h X_767) cy hs ad141 G_767 F_767 z141.2) H := hP
          replace hD : va_D A (zs_W (zx_W cy h X_767) cy hs ad141 G_767 F_767 z141.2) := hD
          refine va_put (D := D) (v := .ref (ad141 z141.1)) (ty := .array (.array .int)) (C := RX6) (T := TX6) (N := 12) hx hb hts hiX6 tyX6 tyX6_ok nmX6 hown hK hP hD hS _ zs_at rfl 9 (by decide) hf15 (fun _ h9 => h9) rfl (by decide +kernel) rfl rfl (Nat.le_of_ble_eq_true rfl) dL_act_807 (fun H locs hP hD hS => ?_)
          have hg142 := zs_fs_up (k := 9) hf_141 fn141
          replace hg142 : zs_fs (va_up F_767 9 z141.1) z141.2 := hg142
          rw [zs_set (vs := (zs_obj ad141 G_767 F_767).set 9 (.ref (ad141 z141.1))) (G2 := G_767) (F2 := va_up F_767 9 z141.1) rfl] at hP hD
          refine lv_aload_n hx hb dL_act_810 rfl (lv_at hl 0 rfl) ?_
          refine lv_aload_n hx hb dL_act_811 rfl (lv_at hl 1 rfl) ?_
          refine va_get (D := D) (C := RX6) (T := TX6) (N := 12) hx hb hts hiX6 hown hK hP _ zs_at rfl 9 (by decide) hf15 (fun _ h9 => h9) rfl dL_act_812 ?_
          refine lv_iload hx hb dL_act_815 (lv_at hl 2 rfl) ?_
          replace hF := bnd_some hF
          obtain ⟨x143, hz_143, hF⟩ := hF
          refine sx_ldr hx hb hK hP hz_143 dL_act_817 ?_
          have fx143 : x143 < (z141.2).1 := zs_ldr_lt hw141 hz_143
          refine lv_iconst (v := 0) hx hb dL_act_818 (by decide) ?_
          replace hF := bnd_some hF
          obtain ⟨x144, hz_144, hF⟩ := hF
          refine sx_ld hx hb hK hP hz_144 dL_act_819 ?_
          replace hF := bnd_some hF
          obtain ⟨z145, hz_145, hF⟩ := hF
          refine zw_xI (P2 := zx_W cy h z145.2) (kV (As := [.int x144]) ⟨hx, hb, hml, hown, hts⟩ (kzx_team l D cy sa h X_767 x144 z145 hz_145 _) (cwV 1 hts gL_act_X5_team rfl rfl rfl (by decide +kernel) ⟨Nat.le_of_ble_eq_true rfl, Nat.le_of_ble_eq_true rfl⟩) hK hP hD hS hA hG (List.range (zx_W cy h X_767).length) zw_map1 (zp_nd1 _) zx_at rfl rfl rfl hl.1 [] rfl (Nat.le_of_ble_eq_true rfl) dL_act_820 ⟨(Nat.le_of_ble_eq_true rfl), (Nat.le_of_ble_eq_true rfl)⟩) hP hD hS hA zx_m (fun H locs hP hD hS => ?_)
          refine lv_iload hx hb dL_act_823 (lv_at hl 2 rfl) ?_
          refine lv_icmp_ne (tgt := 832) hx hb dL_act_825 (by decide) (fun c_146 => ?_) (fun c_146 => ?_)
          ·   replace hF := if_f hF c_146
              cases hF
          ·   replace hF := if_t hF c_146
              refine lv_iconst (v := 1) hx hb dL_act_828 (by decide) ?_
              refine lv_goto (tgt := 833) hx hb dL_act_829 (by decide) ?_
              cases hF
              exact hQ _ _ _ _ _ _ _ ad141 rfl dL_act_833 ⟨rfl, ⟨hw141, hg142, le141, hb141⟩⟩ hP hD hS (Nat.le_of_ble_eq_true rfl) (Nat.le_of_ble_eq_true rfl)
      ·   replace hF := if_t hF c_135
          refine lv_iconst (v := 1) hx hb dL_act_773 (by decide) ?_
          cases hF
          exact hQ _ _ _ _ _ _ _ ad_767 rfl dL_act_774 ⟨rfl, ⟨hw_767, hf_767, le_767, ha_767⟩⟩ hP hD hS (Nat.le_of_ble_eq_true rfl) (Nat.le_of_ble_eq_true rfl)
  have B834 : ∀ (X_834 : XT) (G_834 : FN) (F_834 : Nat → Nat) (p_834 : zs_H) (x2_834 : Int32), fBL_act_834 X_834 G_834 F_834 p_834 x2_834 = some z → ∀ (ad_834 : Nat → Nat) (H : Heap) (locs : List Loc) (ls : Array Slot), zs_wf p_834 → zs_fs F_834 p_834 → p.1 ≤ (p_834).1 → (∀ i, i < p.1 → ad_834 i = ad i) → va_P D vwCl (zs_W (zx_W cy h X_834) cy hs ad_834 G_834 F_834 p_834) H → va_D A (zs_W (zx_W cy h X_834) cy hs ad_834 G_834 F_834 p_834) → va_S A s.heap H locs → lv_has ls 22 [(0, .ref (h 0)), (1, .ref hs), (2, .int x2_834)] → W pg l e rL_act s m args below meth c H locs (0) (0) Q (F0 m 834 ls []) := by
      intro X_834 G_834 F_834 p_834 x2_834 hF ad_834 H locs ls hw_834 hf_834 le_834 ha_834 hP hD hS hl
      unfold fBL_act_834 at hF
      refine lv_iload_n hx hb dL_act_834 rfl (lv_at hl 2 rfl) ?_
      refine lv_iconst (v := 1) hx hb dL_act_835 (by decide) ?_
      refine lv_ishr hx hb dL_act_836 ?_
      refine lv_bipush (v := 7) hx hb dL_act_837 (by decide) ?_
      replace hF := bnd_some hF
      obtain ⟨z147, hz_147, hF⟩ := hF
      refine krI (kS (As := [.int (x2_834 >>> (1 &&& 31)), .int 7]) ⟨hx, hb, hml, hown, hts⟩ (kL_below l D cy sa (x2_834 >>> (1 &&& 31)) 7 z147 hz_147 _) (va_cwS 2 hts gL_act_L_below rfl rfl rfl (by decide +kernel) ⟨Nat.le_of_ble_eq_true rfl, Nat.le_of_ble_eq_true rfl⟩) hK hP hD hS hA hG [] rfl rfl rfl hl.1 [] rfl (Nat.le_of_ble_eq_true rfl) dL_act_839 ⟨(Nat.le_of_ble_eq_true rfl), (Nat.le_of_ble_eq_true rfl)⟩) hP hD hS hA [] rfl (fun H locs hP hS => ?_)
      refine lv_istore (lv' := [(16, .int z147), (0, .ref (h 0)), (1, .ref hs), (2, .int x2_834)]) hx hb dL_act_842 hl (by decide) rfl (fun ls hl => ?_)
      refine lv_aload_n hx hb dL_act_844 rfl (lv_at hl 2 rfl) ?_
      refine va_get (D := D) (C := RX6) (T := TX6) (N := 12) hx hb hts hiX6 hown hK hP _ zs_at rfl 5 (by decide) hf73 (fun _ h9 => h9) rfl dL_act_845 ?_
      refine lv_iload hx hb dL_act_848 (lv_at hl 0 rfl) ?_
      replace hF := bnd_some hF
      obtain ⟨x148, hz_148, hF⟩ := hF
      refine sx_ld hx hb hK hP hz_148 dL_act_850 ?_
      refine lv_istore (lv' := [(17, .int x148), (16, .int z147), (0, .ref (h 0)), (1, .ref hs), (2, .int x2_834)]) hx hb dL_act_851 hl (by decide) rfl (fun ls hl => ?_)
      refine lv_aload_n hx hb dL_act_853 rfl (lv_at hl 3 rfl) ?_
      refine lv_aload_n hx hb dL_act_854 rfl (lv_at hl 3 rfl) ?_
      refine va_get (D := D) (C := RX6) (T := TX6) (N := 12) hx hb hts hiX6 hown hK hP _ zs_at rfl 5 (by decide) hf73 (fun _ h9 => h9) rfl dL_act_855 ?_
      replace hF := bnd_some hF
      obtain ⟨p149, hz_149, hF⟩ := hF
      refine sx_cl hx hb (hml.trans hl.1.symm) hown (hts (.methodLink RL 76 ⟨"[I", "clone", "()Ljava/lang/Object;"⟩) (by decide +kernel)) (hts (.sameMethod "[I" "java/lang/Object" "clone" "()Ljava/lang/Object;") (by decide +kernel)) (hts (.native ⟨"java/lang/Object", "clone", "()Ljava/lang/Object;"⟩) (by decide +kernel)) (hts (.instanceMethod ⟨"java/lang/Object", "clone", "()Ljava/lang/Object;"⟩) (by decide +kernel)) (hts (.selects "[I" ⟨"[I", "clone", "()Ljava/lang/Object;"⟩ ⟨"java/lang/Object", "clone", "()Ljava/lang/Object;"⟩) (by decide +kernel)) (hG.1.1 _ (by decide +kernel)) hK hw_834 hP hD hS hA hz_149 (Nat.le_of_ble_eq_true rfl) (Nat.le_of_ble_eq_true rfl) (Nat.le_of_ble_eq_true rfl) (Nat.le_of_ble_eq_true rfl) dL_act_858 (fun ad149 H ha149 hP hD hS => ?_)
      obtain ⟨hw149, hn149⟩ := zs_cl_wf hw_834 hz_149
      have lf149 : (p_834).1 ≤ p149.1 := by rw [hn149]; exact Nat.le_succ _
      have fn149 : (p_834).1 < p149.1 := by rw [hn149]; exact Nat.lt_succ_self _
      rw [zs_W_up hf_834 ha149] at hP hD
      have hf_149 := zs_fs_le hf_834 lf149
      have le149 : p.1 ≤ (p149).1 := Nat.le_trans le_834 lf149
      have hb149 : ∀ i, i < p.1 → ad149 i = ad i := fun i hi => (ha149 i (Nat.lt_of_lt_of_le hi le_834)).trans (ha_834 i hi)
      replace hP : va_P D vwCl (zs_W (zx_W cy h X_834) cy hs ad149 G_834 F_834 p149) H := hP
      replace hD : va_D A (zs_W (zx_W cy h X_834) cy hs ad149 G_834 F_834 p149) := hD
      refine sx_cast hx hb hown (hts (.classLink RL 77 "[I") (by decide +kernel)) hK hP fn149 (zs_cl_row hz_149) dL_act_861 ?_
      refine va_put (D := D) (v := .ref (ad149 p_834.1)) (ty := .array .int) (C := RX6) (T := TX6) (N := 12) hx hb hts hiX6 tyX6 tyX6_ok nmX6 hown hK hP hD hS _ zs_at rfl 5 (by decide) hf73 (fun _ h9 => h9) rfl (by decide +kernel) rfl rfl (Nat.le_of_ble_eq_true rfl) dL_act_864 (fun H locs hP hD hS => ?_)
      have hg150 := zs_fs_up (k := 5) hf_149 fn149
      replace hg150 : zs_fs (va_up F_834 5 p_834.1) p149 := hg150
      rw [zs_set (vs := (zs_obj ad149 G_834 F_834).set 5 (.ref (ad149 p_834.1))) (G2 := G_834) (F2 := va_up F_834 5 p_834.1) rfl] at hP hD
      refine lv_aload_n hx hb dL_act_867 rfl (lv_at hl 3 rfl) ?_
      refine va_get (D := D) (C := RX6) (T := TX6) (N := 12) hx hb hts hiX6 hown hK hP _ zs_at rfl 5 (by decide) hf73 (fun _ h9 => h9) rfl dL_act_868 ?_
      refine lv_iload hx hb dL_act_871 (lv_at hl 1 rfl) ?_
      refine lv_iload_n hx hb dL_act_873 rfl (lv_at hl 4 rfl) ?_
      refine lv_iconst (v := 4) hx hb dL_act_874 (by decide) ?_
      refine lv_ishr hx hb dL_act_875 ?_
      refine lv_bipush (v := 10) hx hb dL_act_876 (by decide) ?_
      replace hF := bnd_some hF
      obtain ⟨z151, hz_151, hF⟩ := hF
      refine krI (kS (As := [.int (x2_834 >>> (4 &&& 31)), .int 10]) ⟨hx, hb, hml, hown, hts⟩ (kL_below l D cy sa (x2_834 >>> (4 &&& 31)) 10 z151 hz_151 _) (va_cwS 2 hts gL_act_L_below rfl rfl rfl (by decide +kernel) ⟨Nat.le_of_ble_eq_true rfl, Nat.le_of_ble_eq_true rfl⟩) hK hP hD hS hA hG [] rfl rfl rfl hl.1 [.int z147, .ref (ad149 p_834.1)] rfl (Nat.le_of_ble_eq_true rfl) dL_act_878 ⟨(Nat.le_of_ble_eq_true rfl), (Nat.le_of_ble_eq_true rfl)⟩) hP hD hS hA [] rfl (fun H locs hP hS => ?_)
      replace hF := bnd_some hF
      obtain ⟨p152, hz_152, hF⟩ := hF
      refine sx_st hx hb hK hP hD hS hz_152 dL_act_881 (fun H locs hP hD hS => ?_)
      obtain ⟨hw152, hn152⟩ := zs_st_wf hw149 hz_152
      have lf152 : (p149).1 ≤ p152.1 := Nat.le_of_eq hn152.symm
      have hf_152 := zs_fs_le hg150 lf152
      have le152 : p.1 ≤ (p152).1 := Nat.le_trans le149 lf152
      replace hP : va_P D vwCl (zs_W (zx_W cy h X_834) cy hs ad149 G_834 (va_up F_834 5 p_834.1) p152) H := hP
      replace hD : va_D A (zs_W (zx_W cy h X_834) cy hs ad149 G_834 (va_up F_834 5 p_834.1) p152) := hD
      refine lv_aload_n hx hb dL_act_882 rfl (lv_at hl 2 rfl) ?_
      refine lv_iload hx hb dL_act_883 (lv_at hl 1 rfl) ?_
      refine lv_aload_n hx hb dL_act_885 rfl (lv_at hl 3 rfl) ?_
      refine va_get (D := D) (C := RX6) (T := TX6) (N := 12) hx hb hts hiX6 hown hK hP _ zs_at rfl 5 (by decide) hf73 (fun _ h9 => h9) rfl dL_act_886 ?_
      refine lv_iload hx hb dL_act_889 (lv_at hl 1 rfl) ?_
      replace hF := bnd_some hF
      obtain ⟨x153, hz_153, hF⟩ := hF
      refine sx_ld hx hb hK hP hz_153 dL_act_891 ?_
      replace hF := bnd_some hF
      obtain ⟨z154, hz_154, hF⟩ := hF
      refine zw_xI (P2 := zx_W cy h z154.2) (kV (As := [.int z147, .int x153]) ⟨hx, hb, hml, hown, hts⟩ (kzx_setWater l D cy sa h X_834 z147 x153 z154 hz_154 _) (cwV 2 hts gL_act_X5_setWater rfl rfl rfl (by decide +kernel) ⟨Nat.le_of_ble_eq_true rfl, Nat.le_of_ble_eq_true rfl⟩) hK hP hD hS hA hG (List.range (zx_W cy h X_834).length) zw_map1 (zp_nd1 _) zx_at rfl rfl rfl hl.1 [] rfl (Nat.le_of_ble_eq_true rfl) dL_act_892 ⟨(Nat.le_of_ble_eq_true rfl), (Nat.le_of_ble_eq_true rfl)⟩) hP hD hS hA zx_m (fun H locs hP hD hS => ?_)
      refine lv_iload hx hb dL_act_895 (lv_at hl 0 rfl) ?_
      refine lv_icmp_ne (tgt := 904) hx hb dL_act_897 (by decide) (fun c_155 => ?_) (fun c_155 => ?_)
      ·   replace hF := if_f hF c_155
          cases hF
      ·   replace hF := if_t hF c_155
          refine lv_iconst (v := 1) hx hb dL_act_900 (by decide) ?_
          refine lv_goto (tgt := 905) hx hb dL_act_901 (by decide) ?_
          cases hF
          exact hQ _ _ _ _ _ _ _ ad149 rfl dL_act_905 ⟨rfl, ⟨hw152, hf_152, le152, hb149⟩⟩ hP hD hS (Nat.le_of_ble_eq_true rfl) (Nat.le_of_ble_eq_true rfl)
  unfold fL_act at hF
  refine lv_aload_n hx hb dL_act_0 rfl (lv_at hl 1 rfl) ?_
  refine va_get (D := D) (C := RX6) (T := TX6) (N := 12) hx hb hts hiX6 hown hK hP _ zs_at rfl 8 (by decide) hf9 (fun _ h9 => h9) rfl dL_act_1 ?_
  replace hF := bnd_some hF
  obtain ⟨x1, hz_1, hF⟩ := hF
  refine sx_len hx hb hK hP hz_1 dL_act_4 ?_
  refine lv_istore_n (lv' := [(3, .int x1), (0, .ref (h 0)), (1, .ref hs), (2, .int a3)]) hx hb dL_act_5 rfl hl (by decide) rfl (fun ls hl => ?_)
  refine lv_aload_n hx hb dL_act_6 rfl (lv_at hl 2 rfl) ?_
  refine va_get (D := D) (C := RX6) (T := TX6) (N := 12) hx hb hts hiX6 hown hK hP _ zs_at rfl 9 (by decide) hf15 (fun _ h9 => h9) rfl dL_act_7 ?_
  replace hF := bnd_some hF
  obtain ⟨x2, hz_2, hF⟩ := hF
  refine sx_len hx hb hK hP hz_2 dL_act_10 ?_
  refine lv_istore (lv' := [(4, .int x2), (3, .int x1), (0, .ref (h 0)), (1, .ref hs), (2, .int a3)]) hx hb dL_act_11 hl (by decide) rfl (fun ls hl => ?_)
  refine lv_iload_n hx hb dL_act_13 rfl (lv_at hl 4 rfl) ?_
  refine lv_iconst (v := 4) hx hb dL_act_14 (by decide) ?_
  replace hF := bnd_some hF
  obtain ⟨z3, hz_3, hF⟩ := hF
  refine krI (kS (As := [.int a3, .int 4]) ⟨hx, hb, hml, hown, hts⟩ (kL_below l D cy sa a3 4 z3 hz_3 _) (va_cwS 2 hts gL_act_L_below rfl rfl rfl (by decide +kernel) ⟨Nat.le_of_ble_eq_true rfl, Nat.le_of_ble_eq_true rfl⟩) hK hP hD hS hA hG [] rfl rfl rfl hl.1 [] rfl (Nat.le_of_ble_eq_true rfl) dL_act_15 ⟨(Nat.le_of_ble_eq_true rfl), (Nat.le_of_ble_eq_true rfl)⟩) hP hD hS hA [] rfl (fun H locs hP hS => ?_)
  refine lv_istore (lv' := [(5, .int z3), (4, .int x2), (3, .int x1), (0, .ref (h 0)), (1, .ref hs), (2, .int a3)]) hx hb dL_act_18 hl (by decide) rfl (fun ls hl => ?_)
  refine lv_iload_n hx hb dL_act_20 rfl (lv_at hl 5 rfl) ?_
  refine lv_iconst (v := 2) hx hb dL_act_21 (by decide) ?_
  refine lv_ishr hx hb dL_act_22 ?_
  refine lv_iconst (v := 3) hx hb dL_act_23 (by decide) ?_
  replace hF := bnd_some hF
  obtain ⟨z4, hz_4, hF⟩ := hF
  refine krI (kS (As := [.int (a3 >>> (2 &&& 31)), .int 3]) ⟨hx, hb, hml, hown, hts⟩ (kL_below l D cy sa (a3 >>> (2 &&& 31)) 3 z4 hz_4 _) (va_cwS 2 hts gL_act_L_below rfl rfl rfl (by decide +kernel) ⟨Nat.le_of_ble_eq_true rfl, Nat.le_of_ble_eq_true rfl⟩) hK hP hD hS hA hG [] rfl rfl rfl hl.1 [] rfl (Nat.le_of_ble_eq_true rfl) dL_act_24 ⟨(Nat.le_of_ble_eq_true rfl), (Nat.le_of_ble_eq_true rfl)⟩) hP hD hS hA [] rfl (fun H locs hP hS => ?_)
  refine lv_istore (lv' := [(6, .int z4), (5, .int z3), (4, .int x2), (3, .int x1), (0, .ref (h 0)), (1, .ref hs), (2, .int a3)]) hx hb dL_act_27 hl (by decide) rfl (fun ls hl => ?_)
  refine lv_iload_n hx hb dL_act_29 rfl (lv_at hl 6 rfl) ?_
  refine lv_bipush (v := 9) hx hb dL_act_30 (by decide) ?_
  refine lv_ishr hx hb dL_act_32 ?_
  refine lv_bipush (v := 18) hx hb dL_act_33 (by decide) ?_
  replace hF := bnd_some hF
  obtain ⟨z5, hz_5, hF⟩ := hF
  refine krI (kS (As := [.int (a3 >>> (9 &&& 31)), .int 18]) ⟨hx, hb, hml, hown, hts⟩ (kL_below l D cy sa (a3 >>> (9 &&& 31)) 18 z5 hz_5 _) (va_cwS 2 hts gL_act_L_below rfl rfl rfl (by decide +kernel) ⟨Nat.le_of_ble_eq_true rfl, Nat.le_of_ble_eq_true rfl⟩) hK hP hD hS hA hG [] rfl rfl rfl hl.1 [] rfl (Nat.le_of_ble_eq_true rfl) dL_act_35 ⟨(Nat.le_of_ble_eq_true rfl), (Nat.le_of_ble_eq_true rfl)⟩) hP hD hS hA [] rfl (fun H locs hP hS => ?_)
  by_cases c_6 : z5.toInt < 0 ∨ 13 < z5.toInt
  ·   replace hF := if_t hF c_6
      refine lv_tableOut (tgt := 906) hx hb dL_act_38 c_6 (by decide) ?_
      exact B906 X G F p a3 x1 x2 z3 hF ad _ _ _ hw hf (Nat.le_refl _) (fun _ _ => rfl) hP hD hS (lv_sub hl [4, 5, 6, 3, 2, 1] rfl)
  ·   replace hF := if_f hF c_6
      by_cases c_30 : z5.toInt = 0
      ·   replace hF := if_t hF c_30
          refine lv_tableIn (off := 70) (tgt := 108) hx hb dL_act_38 (fun h9 => c_6 (Or.inl h9)) (fun h9 => c_6 (Or.inr h9)) (by rw [c_30] <;> rfl) (by decide) ?_
          exact B108 X G F p a3 hF ad _ _ _ hw hf (Nat.le_refl _) (fun _ _ => rfl) hP hD hS (lv_sub hl [4, 5, 6] rfl)
      ·   replace hF := if_f hF c_30
          by_cases c_45 : z5.toInt = 1
          ·   replace hF := if_t hF c_45
              refine lv_tableIn (off := 70) (tgt := 108) hx hb dL_act_38 (fun h9 => c_6 (Or.inl h9)) (fun h9 => c_6 (Or.inr h9)) (by rw [c_45] <;> rfl) (by decide) ?_
              exact B108 X G F p a3 hF ad _ _ _ hw hf (Nat.le_refl _) (fun _ _ => rfl) hP hD hS (lv_sub hl [4, 5, 6] rfl)
          ·   replace hF := if_f hF c_45
              by_cases c_46 : z5.toInt = 2
              ·   replace hF := if_t hF c_46
                  refine lv_tableIn (off := 222) (tgt := 260) hx hb dL_act_38 (fun h9 => c_6 (Or.inl h9)) (fun h9 => c_6 (Or.inr h9)) (by rw [c_46] <;> rfl) (by decide) ?_
                  exact B260 X G F p a3 z4 hF ad _ _ _ hw hf (Nat.le_refl _) (fun _ _ => rfl) hP hD hS (lv_sub hl [4, 5, 6, 0] rfl)
              ·   replace hF := if_f hF c_46
                  by_cases c_69 : z5.toInt = 3
                  ·   replace hF := if_t hF c_69
                      refine lv_tableIn (off := 222) (tgt := 260) hx hb dL_act_38 (fun h9 => c_6 (Or.inl h9)) (fun h9 => c_6 (Or.inr h9)) (by rw [c_69] <;> rfl) (by decide) ?_
                      exact B260 X G F p a3 z4 hF ad _ _ _ hw hf (Nat.le_refl _) (fun _ _ => rfl) hP hD hS (lv_sub hl [4, 5, 6, 0] rfl)
                  ·   replace hF := if_f hF c_69
                      by_cases c_70 : z5.toInt = 4
                      ·   replace hF := if_t hF c_70
                          refine lv_tableIn (off := 397) (tgt := 435) hx hb dL_act_38 (fun h9 => c_6 (Or.inl h9)) (fun h9 => c_6 (Or.inr h9)) (by rw [c_70] <;> rfl) (by decide) ?_
                          exact B435 X G F p a3 z3 z4 hF ad _ _ _ hw hf (Nat.le_refl _) (fun _ _ => rfl) hP hD hS (lv_sub hl [4, 5, 6, 1, 0] rfl)
                      ·   replace hF := if_f hF c_70
                          by_cases c_87 : z5.toInt = 5
                          ·   replace hF := if_t hF c_87
                              refine lv_tableIn (off := 397) (tgt := 435) hx hb dL_act_38 (fun h9 => c_6 (Or.inl h9)) (fun h9 => c_6 (Or.inr h9)) (by rw [c_87] <;> rfl) (by decide) ?_
                              exact B435 X G F p a3 z3 z4 hF ad _ _ _ hw hf (Nat.le_refl _) (fun _ _ => rfl) hP hD hS (lv_sub hl [4, 5, 6, 1, 0] rfl)
                          ·   replace hF := if_f hF c_87
                              by_cases c_88 : z5.toInt = 6
                              ·   replace hF := if_t hF c_88
                                  refine lv_tableIn (off := 397) (tgt := 435) hx hb dL_act_38 (fun h9 => c_6 (Or.inl h9)) (fun h9 => c_6 (Or.inr h9)) (by rw [c_88] <;> rfl) (by decide) ?_
                                  exact B435 X G F p a3 z3 z4 hF ad _ _ _ hw hf (Nat.le_refl _) (fun _ _ => rfl) hP hD hS (lv_sub hl [4, 5, 6, 1, 0] rfl)
                              ·   replace hF := if_f hF c_88
                                  by_cases c_89 : z5.toInt = 7
                                  ·   replace hF := if_t hF c_89
                                      refine lv_tableIn (off := 397) (tgt := 435) hx hb dL_act_38 (fun h9 => c_6 (Or.inl h9)) (fun h9 => c_6 (Or.inr h9)) (by rw [c_89] <;> rfl) (by decide) ?_
                                      exact B435 X G F p a3 z3 z4 hF ad _ _ _ hw hf (Nat.le_refl _) (fun _ _ => rfl) hP hD hS (lv_sub hl [4, 5, 6, 1, 0] rfl)
                                  ·   replace hF := if_f hF c_89
                                      by_cases c_90 : z5.toInt = 8
                                      ·   replace hF := if_t hF c_90
                                          refine lv_tableIn (off := 497) (tgt := 535) hx hb dL_act_38 (fun h9 => c_6 (Or.inl h9)) (fun h9 => c_6 (Or.inr h9)) (by rw [c_90] <;> rfl) (by decide) ?_
                                          exact B535 X G F p a3 z3 hF ad _ _ _ hw hf (Nat.le_refl _) (fun _ _ => rfl) hP hD hS (lv_sub hl [4, 5, 6, 1] rfl)
                                      ·   replace hF := if_f hF c_90
                                          by_cases c_105 : z5.toInt = 9
                                          ·   replace hF := if_t hF c_105
                                              refine lv_tableIn (off := 571) (tgt := 609) hx hb dL_act_38 (fun h9 => c_6 (Or.inl h9)) (fun h9 => c_6 (Or.inr h9)) (by rw [c_105] <;> rfl) (by decide) ?_
                                              exact B609 X G F p a3 x1 hF ad _ _ _ hw hf (Nat.le_refl _) (fun _ _ => rfl) hP hD hS (lv_sub hl [4, 5, 6, 3] rfl)
                                          ·   replace hF := if_f hF c_105
                                              by_cases c_121 : z5.toInt = 10
                                              ·   replace hF := if_t hF c_121
                                                  refine lv_tableIn (off := 571) (tgt := 609) hx hb dL_act_38 (fun h9 => c_6 (Or.inl h9)) (fun h9 => c_6 (Or.inr h9)) (by rw [c_121] <;> rfl) (by decide) ?_
                                                  exact B609 X G F p a3 x1 hF ad _ _ _ hw hf (Nat.le_refl _) (fun _ _ => rfl) hP hD hS (lv_sub hl [4, 5, 6, 3] rfl)
                                              ·   replace hF := if_f hF c_121
                                                  by_cases c_122 : z5.toInt = 11
                                                  ·   replace hF := if_t hF c_122
                                                      refine lv_tableIn (off := 649) (tgt := 687) hx hb dL_act_38 (fun h9 => c_6 (Or.inl h9)) (fun h9 => c_6 (Or.inr h9)) (by rw [c_122] <;> rfl) (by decide) ?_
                                                      exact B687 X G F p a3 x1 hF ad _ _ _ hw hf (Nat.le_refl _) (fun _ _ => rfl) hP hD hS (lv_sub hl [4, 5, 6, 3] rfl)
                                                  ·   replace hF := if_f hF c_122
                                                      by_cases c_134 : z5.toInt = 12
                                                      ·   replace hF := if_t hF c_134
                                                          refine lv_tableIn (off := 729) (tgt := 767) hx hb dL_act_38 (fun h9 => c_6 (Or.inl h9)) (fun h9 => c_6 (Or.inr h9)) (by rw [c_134] <;> rfl) (by decide) ?_
                                                          exact B767 X G F p a3 x2 hF ad _ _ _ hw hf (Nat.le_refl _) (fun _ _ => rfl) hP hD hS (lv_sub hl [4, 5, 6, 2] rfl)
                                                      ·   replace hF := if_f hF c_134
                                                          refine lv_tableIn (off := 796) (tgt := 834) hx hb dL_act_38 (fun h9 => c_6 (Or.inl h9)) (fun h9 => c_6 (Or.inr h9)) (by rw [show (z5).toInt = 13 by omega] <;> rfl) (by decide) ?_
                                                          exact B834 X G F p a3 hF ad _ _ _ hw hf (Nat.le_refl _) (fun _ _ => rfl) hP hD hS (lv_sub hl [4, 5, 6] rfl)
