def fL_below (a1 : Int32) (a2 : Int32) : Option (Int32) := ckZ a2 (some ((a1 &&& 2147483647) - (a1 &&& 2147483647) / a2 * a2))
abbrev rL_below : Room := { frames := 0, cells := 0, slots := 0, locals := 0 }
set_option maxHeartbeats 40000000 in
set_option maxRecDepth 100000 in
theorem kL_below (l : Launch) (D : va_G) (cy : Nat → ClassId) (sa : SAT) (a1 : Int32) (a2 : Int32) (z : Int32) (hF : fL_below a1 a2 = some z) : KI l D (tyW cy) sa yL_below wsL_below rL_below [.int a1, .int a2] ([] : va_W) z (fun _ => []) 0 0 := by
  refine KI.of (cc := cL_below) (maxL := 2) (by decide +kernel) rfl (Nat.le_of_ble_eq_true rfl) ?_
  intro pg e s m args below meth c A ls Q hE hQ
  obtain ⟨hx, hb, hml, hown, hts, hA, hP, hK, hD, hG, hl, hnm⟩ := hE
  replace hown : s.vm.findClass RL = some m.cls := hown
  replace hl : lv_has ls 2 [(0, .int a1), (1, .int a2)] := hl
  have hS : va_S A s.heap s.heap [] := va_S.rf
  unfold fL_below at hF
  refine lv_iload_n hx hb dL_below_0 rfl (lv_at hl 0 rfl) ?_
  refine lv_ldc (own := RL) (v := 2147483647) hx hb hown (hts _ (by decide +kernel)) dL_below_1 ?_
  refine lv_iand hx hb dL_below_3 ?_
  refine lv_iload_n hx hb dL_below_4 rfl (lv_at hl 1 rfl) ?_
  replace hF := ckZ_some hF
  obtain ⟨hz_1, hF⟩ := hF
  refine lv_irem hx hb dL_below_5 hz_1 ?_
  cases hF
  exact hQ _ _ _ _ _ _ (fun _ => 0) dL_below_6 hP hD hS (Nat.le_of_ble_eq_true rfl) (Nat.le_of_ble_eq_true rfl)

def fL_cell (sa : SAT) (a2 : Int32) : Option (Int32) := if (Int32.ofNat sa.2.1) ≤ a2 then some (790386105 * (a2 + 3)) else ckI a2 sa.2.1 (some (sa.2.2 a2.toNatClampNeg))
abbrev rL_cell : Room := { frames := 0, cells := 0, slots := 0, locals := 0 }
set_option maxHeartbeats 40000000 in
set_option maxRecDepth 100000 in
theorem kL_cell (l : Launch) (D : va_G) (cy : Nat → ClassId) (sa : SAT) (a2 : Int32) (z : Int32) (hF : fL_cell sa a2 = some z) : KI l D (tyW cy) sa yL_cell wsL_cell rL_cell [.ref (sa.1 3), .int a2] ([] : va_W) z (fun _ => []) 0 0 := by
  refine KI.of (cc := cL_cell) (maxL := 2) (by decide +kernel) rfl (Nat.le_of_ble_eq_true rfl) ?_
  intro pg e s m args below meth c A ls Q hE hQ
  obtain ⟨hx, hb, hml, hown, hts, hA, hP, hK, hD, hG, hl, hnm⟩ := hE
  replace hown : s.vm.findClass RL = some m.cls := hown
  replace hl : lv_has ls 2 [(0, .ref (sa.1 3)), (1, .int a2)] := hl
  have hS : va_S A s.heap s.heap [] := va_S.rf
  unfold fL_cell at hF
  refine lv_iload_n hx hb dL_cell_0 rfl (lv_at hl 1 rfl) ?_
  refine lv_aload_n hx hb dL_cell_1 rfl (lv_at hl 0 rfl) ?_
  refine va_tlen hx hb hG.2.2.2.2.2.2 hS rfl dL_cell_2 ?_
  refine lv_icmp_ge (tgt := 12) hx hb dL_cell_3 (by decide) (fun c_2 => ?_) (fun c_2 => ?_)
  ·   replace hF := if_t hF c_2
      refine lv_ldc (own := RL) (v := 790386105) hx hb hown (hts _ (by decide +kernel)) dL_cell_12 ?_
      refine lv_iload_n hx hb dL_cell_14 rfl (lv_at hl 1 rfl) ?_
      refine lv_iconst (v := 3) hx hb dL_cell_15 (by decide) ?_
      refine lv_iadd hx hb dL_cell_16 ?_
      refine lv_imul hx hb dL_cell_17 ?_
      cases hF
      exact hQ _ _ _ _ _ _ (fun _ => 0) dL_cell_18 hP hD hS (Nat.le_of_ble_eq_true rfl) (Nat.le_of_ble_eq_true rfl)
  ·   replace hF := if_f hF c_2
      refine lv_aload_n hx hb dL_cell_6 rfl (lv_at hl 0 rfl) ?_
      refine lv_iload_n hx hb dL_cell_7 rfl (lv_at hl 1 rfl) ?_
      replace hF := ckI_some hF
      obtain ⟨hi_3, hF⟩ := hF
      refine va_ti (v := .int (sa.2.2 a2.toNatClampNeg)) hx hb hG.2.2.2.2.2.2 hS hi_3 rfl dL_cell_8 ?_
      refine lv_goto (tgt := 18) hx hb dL_cell_9 (by decide) ?_
      cases hF
      exact hQ _ _ _ _ _ _ (fun _ => 0) dL_cell_18 hP hD hS (Nat.le_of_ble_eq_true rfl) (Nat.le_of_ble_eq_true rfl)

def fX6_worth (a1 : Int32) : Option (Int32) := if a1 = 2 then some 3 else some (12 - (5 * a1))
abbrev rX6_worth : Room := { frames := 0, cells := 0, slots := 0, locals := 0 }
set_option maxHeartbeats 40000000 in
set_option maxRecDepth 100000 in
theorem kX6_worth (l : Launch) (D : va_G) (cy : Nat → ClassId) (sa : SAT) (a1 : Int32) (z : Int32) (hF : fX6_worth a1 = some z) : KI l D (tyW cy) sa yX6_worth wsX6_worth rX6_worth [.int a1] ([] : va_W) z (fun _ => []) 0 0 := by
  refine KI.of (cc := cX6_worth) (maxL := 1) (by decide +kernel) rfl (Nat.le_of_ble_eq_true rfl) ?_
  intro pg e s m args below meth c A ls Q hE hQ
  obtain ⟨hx, hb, hml, hown, hts, hA, hP, hK, hD, hG, hl, hnm⟩ := hE
  replace hown : s.vm.findClass RX6 = some m.cls := hown
  replace hl : lv_has ls 1 [(0, .int a1)] := hl
  have hS : va_S A s.heap s.heap [] := va_S.rf
  unfold fX6_worth at hF
  refine lv_iload_n hx hb dX6_worth_0 rfl (lv_at hl 0 rfl) ?_
  refine lv_iconst (v := 2) hx hb dX6_worth_1 (by decide) ?_
  refine lv_icmp_ne (tgt := 9) hx hb dX6_worth_2 (by decide) (fun c_1 => ?_) (fun c_1 => ?_)
  ·   replace hF := if_f hF c_1
      refine lv_bipush (v := 12) hx hb dX6_worth_9 (by decide) ?_
      refine lv_iconst (v := 5) hx hb dX6_worth_11 (by decide) ?_
      refine lv_iload_n hx hb dX6_worth_12 rfl (lv_at hl 0 rfl) ?_
      refine lv_imul hx hb dX6_worth_13 ?_
      refine lv_isub hx hb dX6_worth_14 ?_
      cases hF
      exact hQ _ _ _ _ _ _ (fun _ => 0) dX6_worth_15 hP hD hS (Nat.le_of_ble_eq_true rfl) (Nat.le_of_ble_eq_true rfl)
  ·   replace hF := if_t hF c_1
      refine lv_iconst (v := 3) hx hb dX6_worth_5 (by decide) ?_
      refine lv_goto (tgt := 15) hx hb dX6_worth_6 (by decide) ?_
      cases hF
      exact hQ _ _ _ _ _ _ (fun _ => 0) dX6_worth_15 hP hD hS (Nat.le_of_ble_eq_true rfl) (Nat.le_of_ble_eq_true rfl)

def fLX6_free_16 (p_16 : zs_H) (q2_16 : Nat) (x3_16 : Int32) : Nat → Int32 → Int32 → Option (Int32)
  | 0, _, _ => none
  | k + 1, x1_16, x4_16 => if x3_16 ≤ x4_16 then some x1_16 else (zs_ldr p_16 q2_16 x4_16).bind fun x4 => (zs_ld p_16 x4 2).bind fun x5 => fLX6_free_16 p_16 q2_16 x3_16 k (x1_16 - x5) (x4_16 + 1)
def fX6_free (G : FN) (F : Nat → Nat) (p : zs_H) : Option (Int32) := (zs_len p (F 10)).bind fun x1 => (fLX6_free_16 p (F 10) x1 300 (G 2) 0).bind fun (o2 : Int32) => some o2
abbrev rX6_free : Room := { frames := 0, cells := 0, slots := 0, locals := 0 }
set_option maxHeartbeats 40000000 in
set_option maxRecDepth 100000 in
theorem kX6_free (l : Launch) (D : va_G) (cy : Nat → ClassId) (sa : SAT) (hs : Nat) (ad : Nat → Nat) (G : FN) (F : Nat → Nat) (p : zs_H) (z : Int32) (hF : fX6_free G F p = some z) : KI l D (tyW cy) sa yX6_free wsX6_free rX6_free [.ref hs] (zs_W [] cy hs ad G F p) z (fun _ => zs_W [] cy hs ad G F p) 0 0 := by
  refine KI.of (cc := cX6_free) (maxL := 6) (by decide +kernel) rfl (Nat.le_of_ble_eq_true rfl) ?_
  intro pg e s m args below meth c A ls Q hE hQ
  obtain ⟨hx, hb, hml, hown, hts, hA, hP, hK, hD, hG, hl, hnm⟩ := hE
  replace hown : s.vm.findClass RX6 = some m.cls := hown
  have hiX6 : ∀ w ∈ u_ws RX6 TX6 12, w ∈ wsX6_free := by decide +kernel
  have hf13 : (Cond.fieldLink RX6 13 "RagVatsLaw$Sim" "felts" "I").before args s = true := hts _ (by decide +kernel)
  have hf34 : (Cond.fieldLink RX6 34 "RagVatsLaw$Sim" "posts" "[[I").before args s = true := hts _ (by decide +kernel)
  replace hl : lv_has ls 6 [(0, .ref hs)] := hl
  have hS : va_S A s.heap s.heap [] := va_S.rf
  have L16 : ∀ (k : Nat) (G_16 : FN) (F_16 : Nat → Nat) (p_16 : zs_H) (x1_16 : Int32) (q2_16 : Nat) (x3_16 : Int32) (x4_16 : Int32) (o : Int32), fLX6_free_16 p_16 q2_16 x3_16 k x1_16 x4_16 = some o → ∀ (ad_16 : Nat → Nat) (cu_16 su_16 T_ TS_ : Nat), cu_16 + 0 * k ≤ T_ → su_16 + 0 * k ≤ TS_ → T_ ≤ 0 → TS_ ≤ 0 → ∀ (H : Heap) (locs : List Loc) (ls : Array Slot), va_P D vwCl (zs_W [] cy hs ad_16 G_16 F_16 p_16) H → va_D A (zs_W [] cy hs ad_16 G_16 F_16 p_16) → va_S A s.heap H locs → lv_has ls 6 [(1, .int x1_16), (2, .ref (ad_16 q2_16)), (3, .int x3_16), (4, .int x4_16)] → (∀ (H : Heap) (locs : List Loc) (ls : Array Slot), va_P D vwCl (zs_W [] cy hs ad_16 G_16 F_16 p_16) H → va_D A (zs_W [] cy hs ad_16 G_16 F_16 p_16) → va_S A s.heap H locs → lv_has ls 6 [(1, .int o)] → W pg l e rX6_free s m args below meth c H locs T_ TS_ Q (F0 m 41 ls [])) → W pg l e rX6_free s m args below meth c H locs cu_16 su_16 Q (F0 m 16 ls []) := by
      intro k
      induction k with
      | zero =>
          intro G_16 F_16 p_16 x1_16 q2_16 x3_16 x4_16 o hF
          rw [fLX6_free_16] at hF
          cases hF
      | succ k ih =>
          intro G_16 F_16 p_16 x1_16 q2_16 x3_16 x4_16 o hF ad_16 cu_16 su_16 T_ TS_ hcu_ hsu_ hT_ hTS_ H locs ls hP hD hS hl kk0
          rw [fLX6_free_16] at hF
          refine lv_iload hx hb dX6_free_16 (lv_at hl 3 rfl) ?_
          refine lv_iload_n hx hb dX6_free_18 rfl (lv_at hl 2 rfl) ?_
          refine lv_icmp_ge (tgt := 41) hx hb dX6_free_19 (by decide) (fun c_3 => ?_) (fun c_3 => ?_)
          ·   replace hF := if_t hF c_3
              cases hF
              refine W.widen (k := T_) (n := TS_) (by omega) (by omega) ?_
              exact kk0 _ _ _ hP hD hS (lv_sub hl [0] rfl)
          ·   replace hF := if_f hF c_3
              refine lv_aload_n hx hb dX6_free_22 rfl (lv_at hl 1 rfl) ?_
              refine lv_iload hx hb dX6_free_23 (lv_at hl 3 rfl) ?_
              replace hF := bnd_some hF
              obtain ⟨x4, hz_4, hF⟩ := hF
              refine sx_ldr hx hb hK hP hz_4 dX6_free_25 ?_
              refine lv_astore (lv' := [(5, .ref (ad_16 x4)), (1, .int x1_16), (2, .ref (ad_16 q2_16)), (3, .int x3_16), (4, .int x4_16)]) hx hb dX6_free_26 hl (by decide) rfl (fun ls hl => ?_)
              refine lv_iload_n hx hb dX6_free_28 rfl (lv_at hl 1 rfl) ?_
              refine lv_aload hx hb dX6_free_29 (lv_at hl 0 rfl) ?_
              refine lv_iconst (v := 2) hx hb dX6_free_31 (by decide) ?_
              replace hF := bnd_some hF
              obtain ⟨x5, hz_5, hF⟩ := hF
              refine sx_ld hx hb hK hP hz_5 dX6_free_32 ?_
              refine lv_isub hx hb dX6_free_33 ?_
              refine lv_istore_n (lv' := [(1, .int (x1_16 - x5)), (5, .ref (ad_16 x4)), (2, .ref (ad_16 q2_16)), (3, .int x3_16), (4, .int x4_16)]) hx hb dX6_free_34 rfl hl (by decide) rfl (fun ls hl => ?_)
              refine lv_iinc (v := x4_16 + 1) (lv' := [(4, .int (x4_16 + 1)), (1, .int (x1_16 - x5)), (5, .ref (ad_16 x4)), (2, .ref (ad_16 q2_16)), (3, .int x3_16)]) hx hb dX6_free_35 hl (k := 4) rfl rfl (by decide) rfl (fun ls hl => ?_)
              refine lv_goto (tgt := 16) hx hb dX6_free_38 (by decide) ?_
              exact ih G_16 F_16 p_16 (x1_16 - x5) q2_16 x3_16 (x4_16 + 1) o hF ad_16 (cu_16) (su_16) T_ TS_ (by omega) (by omega) hT_ hTS_ _ _ _ hP hD hS (lv_sub hl [1, 3, 4, 0] rfl) kk0
  unfold fX6_free at hF
  refine lv_aload_n hx hb dX6_free_0 rfl (lv_at hl 0 rfl) ?_
  refine va_get (D := D) (C := RX6) (T := TX6) (N := 12) hx hb hts hiX6 hown hK hP _ zs_at rfl 2 (by decide) hf13 (fun _ h9 => h9) rfl dX6_free_1 ?_
  refine lv_istore_n (lv' := [(1, .int (G 2)), (0, .ref hs)]) hx hb dX6_free_4 rfl hl (by decide) rfl (fun ls hl => ?_)
  refine lv_aload_n hx hb dX6_free_5 rfl (lv_at hl 1 rfl) ?_
  refine va_get (D := D) (C := RX6) (T := TX6) (N := 12) hx hb hts hiX6 hown hK hP _ zs_at rfl 10 (by decide) hf34 (fun _ h9 => h9) rfl dX6_free_6 ?_
  refine lv_astore_n (lv' := [(2, .ref (ad (F 10))), (1, .int (G 2)), (0, .ref hs)]) hx hb dX6_free_9 rfl hl (by decide) rfl (fun ls hl => ?_)
  refine lv_aload_n hx hb dX6_free_10 rfl (lv_at hl 0 rfl) ?_
  replace hF := bnd_some hF
  obtain ⟨x1, hz_1, hF⟩ := hF
  refine sx_len hx hb hK hP hz_1 dX6_free_11 ?_
  refine lv_istore_n (lv' := [(3, .int x1), (2, .ref (ad (F 10))), (1, .int (G 2)), (0, .ref hs)]) hx hb dX6_free_12 rfl hl (by decide) rfl (fun ls hl => ?_)
  refine lv_iconst (v := 0) hx hb dX6_free_13 (by decide) ?_
  refine lv_istore (lv' := [(4, .int 0), (3, .int x1), (2, .ref (ad (F 10))), (1, .int (G 2)), (0, .ref hs)]) hx hb dX6_free_14 hl (by decide) rfl (fun ls hl => ?_)
  replace hF := bnd_some hF
  obtain ⟨o2, hz_2, hF⟩ := hF
  refine L16 300 G F p (G 2) (F 10) x1 0 o2 hz_2 ad (0) (0) (0) (0) (Nat.le_of_ble_eq_true rfl) (Nat.le_of_ble_eq_true rfl) (Nat.le_of_ble_eq_true rfl) (Nat.le_of_ble_eq_true rfl) _ _ _ hP hD hS (lv_sub hl [3, 2, 1, 0] rfl) (fun H locs ls hP hD hS hl => ?_)
  refine lv_iload_n hx hb dX6_free_41 rfl (lv_at hl 0 rfl) ?_
  cases hF
  exact hQ _ _ _ _ _ _ (fun _ => 0) dX6_free_42 hP hD hS (Nat.le_of_ble_eq_true rfl) (Nat.le_of_ble_eq_true rfl)

def fX6_makes (G : FN) (F : Nat → Nat) (p : zs_H) (q1 : Nat) : Option (Int32) := (zs_ld p q1 1).bind fun x1 => if x1 < 0 then some 0 else (zs_ld p q1 2).bind fun x3 => if x3 < 0 then some 0 else (zs_ld p q1 1).bind fun x5 => (zs_ldr p (F 7) x5).bind fun x6 => (zs_ld p x6 1).bind fun x7 => if 30 ≤ x7 then (zs_ld p q1 1).bind fun x9 => (zs_ldr p (F 7) x9).bind fun x10 => (zs_ld p x10 0).bind fun x11 => (zs_ld p q1 2).bind fun x12 => (zs_ldr p (F 8) x12).bind fun x13 => (zs_ld p x13 1).bind fun x14 => ckZ x14 ((fX6_free G F p).bind fun z16 => (if (x11 / x14) ≤ z16 then some (x11 / x14) else (fX6_free G F p).bind fun z18 => some z18 : Option (Int32)).bind fun (t17 : Int32) => (zs_ld p q1 0).bind fun x19 => if t17 ≤ x19 then some t17 else (zs_ld p q1 0).bind fun x21 => some x21) else some 0
abbrev rX6_makes : Room := { frames := 1, cells := 0, slots := 0, locals := 25 }
set_option maxHeartbeats 40000000 in
set_option maxRecDepth 100000 in
theorem kX6_makes (l : Launch) (D : va_G) (cy : Nat → ClassId) (sa : SAT) (hs : Nat) (ad : Nat → Nat) (G : FN) (F : Nat → Nat) (p : zs_H) (q1 : Nat) (z : Int32) (hF : fX6_makes G F p q1 = some z) : KI l D (tyW cy) sa yX6_makes wsX6_makes rX6_makes [.ref hs, .ref (ad q1)] (zs_W [] cy hs ad G F p) z (fun _ => zs_W [] cy hs ad G F p) 0 0 := by
  refine KI.of (cc := cX6_makes) (maxL := 3) (by decide +kernel) rfl (Nat.le_of_ble_eq_true rfl) ?_
  intro pg e s m args below meth c A ls Q hE hQ
  obtain ⟨hx, hb, hml, hown, hts, hA, hP, hK, hD, hG, hl, hnm⟩ := hE
  replace hown : s.vm.findClass RX6 = some m.cls := hown
  have hiX6 : ∀ w ∈ u_ws RX6 TX6 12, w ∈ wsX6_makes := by decide +kernel
  have hf24 : (Cond.fieldLink RX6 24 "RagVatsLaw$Sim" "vats" "[[I").before args s = true := hts _ (by decide +kernel)
  have hf28 : (Cond.fieldLink RX6 28 "RagVatsLaw$Sim" "pairs" "[[I").before args s = true := hts _ (by decide +kernel)
  replace hl : lv_has ls 3 [(0, .ref hs), (1, .ref (ad q1))] := hl
  have hS : va_S A s.heap s.heap [] := va_S.rf
  unfold fX6_makes at hF
  refine lv_aload_n hx hb dX6_makes_0 rfl (lv_at hl 1 rfl) ?_
  refine lv_iconst (v := 1) hx hb dX6_makes_1 (by decide) ?_
  replace hF := bnd_some hF
  obtain ⟨x1, hz_1, hF⟩ := hF
  refine sx_ld hx hb hK hP hz_1 dX6_makes_2 ?_
  refine lv_if_lt (tgt := 27) hx hb dX6_makes_3 (by decide) (fun c_2 => ?_) (fun c_2 => ?_)
  ·   replace hF := if_t hF c_2
      refine lv_iconst (v := 0) hx hb dX6_makes_27 (by decide) ?_
      cases hF
      exact hQ _ _ _ _ _ _ (fun _ => 0) dX6_makes_28 hP hD hS (Nat.le_of_ble_eq_true rfl) (Nat.le_of_ble_eq_true rfl)
  ·   replace hF := if_f hF c_2
      refine lv_aload_n hx hb dX6_makes_6 rfl (lv_at hl 1 rfl) ?_
      refine lv_iconst (v := 2) hx hb dX6_makes_7 (by decide) ?_
      replace hF := bnd_some hF
      obtain ⟨x3, hz_3, hF⟩ := hF
      refine sx_ld hx hb hK hP hz_3 dX6_makes_8 ?_
      refine lv_if_lt (tgt := 27) hx hb dX6_makes_9 (by decide) (fun c_4 => ?_) (fun c_4 => ?_)
      ·   replace hF := if_t hF c_4
          refine lv_iconst (v := 0) hx hb dX6_makes_27 (by decide) ?_
          cases hF
          exact hQ _ _ _ _ _ _ (fun _ => 0) dX6_makes_28 hP hD hS (Nat.le_of_ble_eq_true rfl) (Nat.le_of_ble_eq_true rfl)
      ·   replace hF := if_f hF c_4
          refine lv_aload_n hx hb dX6_makes_12 rfl (lv_at hl 0 rfl) ?_
          refine va_get (D := D) (C := RX6) (T := TX6) (N := 12) hx hb hts hiX6 hown hK hP _ zs_at rfl 7 (by decide) hf24 (fun _ h9 => h9) rfl dX6_makes_13 ?_
          refine lv_aload_n hx hb dX6_makes_16 rfl (lv_at hl 1 rfl) ?_
          refine lv_iconst (v := 1) hx hb dX6_makes_17 (by decide) ?_
          replace hF := bnd_some hF
          obtain ⟨x5, hz_5, hF⟩ := hF
          refine sx_ld hx hb hK hP hz_5 dX6_makes_18 ?_
          replace hF := bnd_some hF
          obtain ⟨x6, hz_6, hF⟩ := hF
          refine sx_ldr hx hb hK hP hz_6 dX6_makes_19 ?_
          refine lv_iconst (v := 1) hx hb dX6_makes_20 (by decide) ?_
          replace hF := bnd_some hF
          obtain ⟨x7, hz_7, hF⟩ := hF
          refine sx_ld hx hb hK hP hz_7 dX6_makes_21 ?_
          refine lv_bipush (v := 30) hx hb dX6_makes_22 (by decide) ?_
          refine lv_icmp_ge (tgt := 29) hx hb dX6_makes_24 (by decide) (fun c_8 => ?_) (fun c_8 => ?_)
          ·   replace hF := if_t hF c_8
              refine lv_aload_n hx hb dX6_makes_29 rfl (lv_at hl 0 rfl) ?_
              refine va_get (D := D) (C := RX6) (T := TX6) (N := 12) hx hb hts hiX6 hown hK hP _ zs_at rfl 7 (by decide) hf24 (fun _ h9 => h9) rfl dX6_makes_30 ?_
              refine lv_aload_n hx hb dX6_makes_33 rfl (lv_at hl 1 rfl) ?_
              refine lv_iconst (v := 1) hx hb dX6_makes_34 (by decide) ?_
              replace hF := bnd_some hF
              obtain ⟨x9, hz_9, hF⟩ := hF
              refine sx_ld hx hb hK hP hz_9 dX6_makes_35 ?_
              replace hF := bnd_some hF
              obtain ⟨x10, hz_10, hF⟩ := hF
              refine sx_ldr hx hb hK hP hz_10 dX6_makes_36 ?_
              refine lv_iconst (v := 0) hx hb dX6_makes_37 (by decide) ?_
              replace hF := bnd_some hF
              obtain ⟨x11, hz_11, hF⟩ := hF
              refine sx_ld hx hb hK hP hz_11 dX6_makes_38 ?_
              refine lv_aload_n hx hb dX6_makes_39 rfl (lv_at hl 0 rfl) ?_
              refine va_get (D := D) (C := RX6) (T := TX6) (N := 12) hx hb hts hiX6 hown hK hP _ zs_at rfl 8 (by decide) hf28 (fun _ h9 => h9) rfl dX6_makes_40 ?_
              refine lv_aload_n hx hb dX6_makes_43 rfl (lv_at hl 1 rfl) ?_
              refine lv_iconst (v := 2) hx hb dX6_makes_44 (by decide) ?_
              replace hF := bnd_some hF
              obtain ⟨x12, hz_12, hF⟩ := hF
              refine sx_ld hx hb hK hP hz_12 dX6_makes_45 ?_
              replace hF := bnd_some hF
              obtain ⟨x13, hz_13, hF⟩ := hF
              refine sx_ldr hx hb hK hP hz_13 dX6_makes_46 ?_
              refine lv_iconst (v := 1) hx hb dX6_makes_47 (by decide) ?_
              replace hF := bnd_some hF
              obtain ⟨x14, hz_14, hF⟩ := hF
              refine sx_ld hx hb hK hP hz_14 dX6_makes_48 ?_
              replace hF := ckZ_some hF
              obtain ⟨hz_15, hF⟩ := hF
              refine lv_idiv hx hb dX6_makes_49 hz_15 ?_
              refine lv_istore_n (lv' := [(2, .int (x11 / x14)), (0, .ref hs), (1, .ref (ad q1))]) hx hb dX6_makes_50 rfl hl (by decide) rfl (fun ls hl => ?_)
              refine lv_aload_n hx hb dX6_makes_51 rfl (lv_at hl 1 rfl) ?_
              replace hF := bnd_some hF
              obtain ⟨z16, hz_16, hF⟩ := hF
              refine zw_rI (kV (As := []) ⟨hx, hb, hml, hown, hts⟩ (kX6_free l D cy sa hs ad G F p  z16 hz_16 _) (cwV 0 hts gX6_makes_X6_free rfl rfl rfl (by decide +kernel) ⟨Nat.le_of_ble_eq_true rfl, Nat.le_of_ble_eq_true rfl⟩) hK hP hD hS hA hG (List.range' ([] : va_W).length (zs_W [] cy hs ad G F p).length) zw_map2 (zp_nd2 _ _) (zs_at (P := [])) rfl rfl rfl hl.1 [] rfl (Nat.le_of_ble_eq_true rfl) dX6_makes_52 ⟨(Nat.le_of_ble_eq_true rfl), (Nat.le_of_ble_eq_true rfl)⟩) hP hD hS hA (fun H locs hP hS => ?_)
              refine lv_iload_n hx hb dX6_makes_55 rfl (lv_at hl 0 rfl) ?_
              replace hF := bnd_some hF
              obtain ⟨t17, hz_17, hF⟩ := hF
              have J17 : ∀ (H : Heap) (locs : List Loc) (ls : Array Slot), va_P D vwCl (zs_W [] cy hs ad G F p) H → va_D A (zs_W [] cy hs ad G F p) → va_S A s.heap H locs → lv_has ls 3 [(1, .ref (ad q1)), (2, .int t17)] → W pg l e rX6_makes s m args below meth c H locs (0) (0) Q (F0 m 64 ls []) := by
                  intro H locs ls hP hD hS hl
                  refine lv_aload_n hx hb dX6_makes_64 rfl (lv_at hl 0 rfl) ?_
                  refine lv_iconst (v := 0) hx hb dX6_makes_65 (by decide) ?_
                  replace hF := bnd_some hF
                  obtain ⟨x19, hz_19, hF⟩ := hF
                  refine sx_ld hx hb hK hP hz_19 dX6_makes_66 ?_
                  refine lv_iload_n hx hb dX6_makes_67 rfl (lv_at hl 1 rfl) ?_
                  refine lv_icmp_ge (tgt := 77) hx hb dX6_makes_68 (by decide) (fun c_20 => ?_) (fun c_20 => ?_)
                  ·   replace hF := if_t hF c_20
                      refine lv_iload_n hx hb dX6_makes_77 rfl (lv_at hl 1 rfl) ?_
                      cases hF
                      exact hQ _ _ _ _ _ _ (fun _ => 0) dX6_makes_78 hP hD hS (Nat.le_of_ble_eq_true rfl) (Nat.le_of_ble_eq_true rfl)
                  ·   replace hF := if_f hF c_20
                      refine lv_aload_n hx hb dX6_makes_71 rfl (lv_at hl 0 rfl) ?_
                      refine lv_iconst (v := 0) hx hb dX6_makes_72 (by decide) ?_
                      replace hF := bnd_some hF
                      obtain ⟨x21, hz_21, hF⟩ := hF
                      refine sx_ld hx hb hK hP hz_21 dX6_makes_73 ?_
                      refine lv_goto (tgt := 78) hx hb dX6_makes_74 (by decide) ?_
                      cases hF
                      exact hQ _ _ _ _ _ _ (fun _ => 0) dX6_makes_78 hP hD hS (Nat.le_of_ble_eq_true rfl) (Nat.le_of_ble_eq_true rfl)
              replace hF := hz_17
              refine lv_icmp_ge (tgt := 64) hx hb dX6_makes_56 (by decide) (fun c_17 => ?_) (fun c_17 => ?_)
              ·   replace hF := if_t hF c_17
                  cases hF
                  exact J17 _ _ _ hP hD hS (lv_sub hl [2, 0] rfl)
              ·   replace hF := if_f hF c_17
                  refine lv_aload_n hx hb dX6_makes_59 rfl (lv_at hl 1 rfl) ?_
                  replace hF := bnd_some hF
                  obtain ⟨z18, hz_18, hF⟩ := hF
                  refine zw_rI (kV (As := []) ⟨hx, hb, hml, hown, hts⟩ (kX6_free l D cy sa hs ad G F p  z18 hz_18 _) (cwV 0 hts gX6_makes_X6_free rfl rfl rfl (by decide +kernel) ⟨Nat.le_of_ble_eq_true rfl, Nat.le_of_ble_eq_true rfl⟩) hK hP hD hS hA hG (List.range' ([] : va_W).length (zs_W [] cy hs ad G F p).length) zw_map2 (zp_nd2 _ _) (zs_at (P := [])) rfl rfl rfl hl.1 [] rfl (Nat.le_of_ble_eq_true rfl) dX6_makes_60 ⟨(Nat.le_of_ble_eq_true rfl), (Nat.le_of_ble_eq_true rfl)⟩) hP hD hS hA (fun H locs hP hS => ?_)
                  refine lv_istore_n (lv' := [(2, .int z18), (0, .ref hs), (1, .ref (ad q1))]) hx hb dX6_makes_63 rfl hl (by decide) rfl (fun ls hl => ?_)
                  cases hF
                  exact J17 _ _ _ hP hD hS (lv_sub hl [2, 0] rfl)
          ·   replace hF := if_f hF c_8
              refine lv_iconst (v := 0) hx hb dX6_makes_27 (by decide) ?_
              cases hF
              exact hQ _ _ _ _ _ _ (fun _ => 0) dX6_makes_28 hP hD hS (Nat.le_of_ble_eq_true rfl) (Nat.le_of_ble_eq_true rfl)

def fLX6_more_10 (q0_10 : Nat) (q2_10 : Nat) : Nat → zs_H → Int32 → Option (zs_H)
  | 0, _, _ => none
  | k + 1, p_10, x3_10 => (zs_len p_10 q0_10).bind fun x4 => if x4 ≤ x3_10 then some p_10 else (zs_ldr p_10 q0_10 x3_10).bind fun x6 => (zs_str p_10 q2_10 x3_10 x6).bind fun p7 => fLX6_more_10 q0_10 q2_10 k p7 (x3_10 + 1)
def fX6_more (p : zs_H) (q1 : Nat) (q2 : Nat) : Option (Nat × zs_H) := (zs_len p q1).bind fun x1 => (zs_nwr p (x1 + 1) 92).bind fun p2 => (fLX6_more_10 q1 p.1 300 p2 0).bind fun (o3 : zs_H) => (zs_len o3 q1).bind fun x8 => (zs_str o3 p.1 x8 q2).bind fun p9 => some (p.1, p9)
abbrev rX6_more : Room := { frames := 0, cells := 1, slots := 92, locals := 0 }
set_option maxHeartbeats 40000000 in
set_option maxRecDepth 100000 in
theorem kX6_more (l : Launch) (D : va_G) (cy : Nat → ClassId) (sa : SAT) (hs : Nat) (ad : Nat → Nat) (G : FN) (F : Nat → Nat) (p : zs_H) (q1 : Nat) (q2 : Nat) (hw : zs_wf p) (hf : zs_fs F p) (f1 : q1 < p.1) (f2 : q2 < p.1) (z : Nat × zs_H) (hF : fX6_more p q1 q2 = some z) : zg_R l D (tyW cy) sa yX6_more wsX6_more rX6_more [.ref (ad q1), .ref (ad q2)] (zs_W [] cy hs ad G F p) (fun u => zs_ok p F z.2 ad u ∧ z.1 < (z.2).1) (fun u => u z.1) (fun u => zs_W [] cy hs u G F z.2) 1 92 := by
  refine zg_R.of (cc := cX6_more) (maxL := 4) (Or.inr ⟨_, rfl⟩) (by decide +kernel) rfl (Nat.le_of_ble_eq_true rfl) ?_
  intro pg e s m args below meth c A ls Q hE hQ
  obtain ⟨hx, hb, hml, hown, hts, hA, hP, hK, hD, hG, hl, hnm⟩ := hE
  replace hown : s.vm.findClass RX6 = some m.cls := hown
  replace hl : lv_has ls 4 [(0, .ref (ad q1)), (1, .ref (ad q2))] := hl
  have hS : va_S A s.heap s.heap [] := va_S.rf
  have L10 : ∀ (k : Nat) (G_10 : FN) (F_10 : Nat → Nat) (p_10 : zs_H) (q0_10 : Nat) (q1_10 : Nat) (q2_10 : Nat) (x3_10 : Int32) (o : zs_H), fLX6_more_10 q0_10 q2_10 k p_10 x3_10 = some o → ∀ (ad_10 : Nat → Nat) (cu_10 su_10 T_ TS_ : Nat), cu_10 + 0 * k ≤ T_ → su_10 + 0 * k ≤ TS_ → T_ ≤ 1 → TS_ ≤ 92 → ∀ (H : Heap) (locs : List Loc) (ls : Array Slot), zs_wf p_10 → zs_fs F_10 p_10 → p.1 ≤ (p_10).1 → (∀ i, i < p.1 → ad_10 i = ad i) → q0_10 < (p_10).1 → q1_10 < (p_10).1 → q2_10 < (p_10).1 → va_P D vwCl (zs_W [] cy hs ad_10 G_10 F_10 p_10) H → va_D A (zs_W [] cy hs ad_10 G_10 F_10 p_10) → va_S A s.heap H locs → lv_has ls 4 [(0, .ref (ad_10 q0_10)), (1, .ref (ad_10 q1_10)), (2, .ref (ad_10 q2_10)), (3, .int x3_10)] → (∀ (H : Heap) (locs : List Loc) (ls : Array Slot), zs_wf o → zs_fs F_10 o → p.1 ≤ (o).1 → (∀ i, i < p.1 → ad_10 i = ad i) → q0_10 < (o).1 → q1_10 < (o).1 → q2_10 < (o).1 → va_P D vwCl (zs_W [] cy hs ad_10 G_10 F_10 o) H → va_D A (zs_W [] cy hs ad_10 G_10 F_10 o) → va_S A s.heap H locs → lv_has ls 4 [(0, .ref (ad_10 q0_10)), (1, .ref (ad_10 q1_10)), (2, .ref (ad_10 q2_10))] → W pg l e rX6_more s m args below meth c H locs T_ TS_ Q (F0 m 28 ls [])) → W pg l e rX6_more s m args below meth c H locs cu_10 su_10 Q (F0 m 10 ls []) := by
      intro k
      induction k with
      | zero =>
          intro G_10 F_10 p_10 q0_10 q1_10 q2_10 x3_10 o hF
          rw [fLX6_more_10] at hF
          cases hF
      | succ k ih =>
          intro G_10 F_10 p_10 q0_10 q1_10 q2_10 x3_10 o hF ad_10 cu_10 su_10 T_ TS_ hcu_ hsu_ hT_ hTS_ H locs ls hw_10 hf_10 le_10 ha_10 fq0_10 fq1_10 fq2_10 hP hD hS hl kk0
          rw [fLX6_more_10] at hF
          refine lv_iload_n hx hb dX6_more_10 rfl (lv_at hl 3 rfl) ?_
          refine lv_aload_n hx hb dX6_more_11 rfl (lv_at hl 0 rfl) ?_
          replace hF := bnd_some hF
          obtain ⟨x4, hz_4, hF⟩ := hF
          refine sx_len hx hb hK hP hz_4 dX6_more_12 ?_
          refine lv_icmp_ge (tgt := 28) hx hb dX6_more_13 (by decide) (fun c_5 => ?_) (fun c_5 => ?_)
          ·   replace hF := if_t hF c_5
              cases hF
              refine W.widen (k := T_) (n := TS_) (by omega) (by omega) ?_
              exact kk0 _ _ _ hw_10 hf_10 le_10 ha_10 fq0_10 fq1_10 fq2_10 hP hD hS (lv_sub hl [0, 1, 2] rfl)
          ·   replace hF := if_f hF c_5
              refine lv_aload_n hx hb dX6_more_16 rfl (lv_at hl 2 rfl) ?_
              refine lv_iload_n hx hb dX6_more_17 rfl (lv_at hl 3 rfl) ?_
              refine lv_aload_n hx hb dX6_more_18 rfl (lv_at hl 0 rfl) ?_
              refine lv_iload_n hx hb dX6_more_19 rfl (lv_at hl 3 rfl) ?_
              replace hF := bnd_some hF
              obtain ⟨x6, hz_6, hF⟩ := hF
              refine sx_ldr hx hb hK hP hz_6 dX6_more_20 ?_
              have fx6 : x6 < (p_10).1 := zs_ldr_lt hw_10 hz_6
              replace hF := bnd_some hF
              obtain ⟨p7, hz_7, hF⟩ := hF
              refine sx_str hx hb hK hG.1.2.2.2 hP hD hS hz_7 dX6_more_21 (fun H locs hP hD hS => ?_)
              obtain ⟨hw7, hn7⟩ := zs_str_wf hw_10 hz_7
              have lf7 : (p_10).1 ≤ p7.1 := Nat.le_of_eq hn7.symm
              have hf_7 := zs_fs_le hf_10 lf7
              have fr7_0 : q0_10 < (p7).1 := Nat.lt_of_lt_of_le fq0_10 lf7
              have fr7_1 : q1_10 < (p7).1 := Nat.lt_of_lt_of_le fq1_10 lf7
              have fr7_2 : q2_10 < (p7).1 := Nat.lt_of_lt_of_le fq2_10 lf7
              have le7 : p.1 ≤ (p7).1 := Nat.le_trans le_10 lf7
              replace hP : va_P D vwCl (zs_W [] cy hs ad_10 G_10 F_10 p7) H := hP
              replace hD : va_D A (zs_W [] cy hs ad_10 G_10 F_10 p7) := hD
              refine lv_iinc (v := x3_10 + 1) (lv' := [(3, .int (x3_10 + 1)), (0, .ref (ad_10 q0_10)), (1, .ref (ad_10 q1_10)), (2, .ref (ad_10 q2_10))]) hx hb dX6_more_22 hl (k := 3) rfl rfl (by decide) rfl (fun ls hl => ?_)
              refine lv_goto (tgt := 10) hx hb dX6_more_25 (by decide) ?_
              exact ih G_10 F_10 p7 q0_10 q1_10 q2_10 (x3_10 + 1) o hF ad_10 (cu_10) (su_10) T_ TS_ (by omega) (by omega) hT_ hTS_ _ _ _ hw7 hf_7 le7 ha_10 fr7_0 fr7_1 fr7_2 hP hD hS (lv_sub hl [1, 2, 3, 0] rfl) kk0
  unfold fX6_more at hF
  refine lv_aload_n hx hb dX6_more_0 rfl (lv_at hl 0 rfl) ?_
  replace hF := bnd_some hF
  obtain ⟨x1, hz_1, hF⟩ := hF
  refine sx_len hx hb hK hP hz_1 dX6_more_1 ?_
  refine lv_iconst (v := 1) hx hb dX6_more_2 (by decide) ?_
  refine lv_iadd hx hb dX6_more_3 ?_
  replace hF := bnd_some hF
  obtain ⟨p2, hz_2, hF⟩ := hF
  refine sx_nwr hx hb hown (hts (.classLink RX6 23 "[I") (by decide +kernel)) hG.1.2.2.2 hK hw hP hD hS hA hz_2 (Nat.le_of_ble_eq_true rfl) (Nat.le_of_ble_eq_true rfl) (Nat.le_of_ble_eq_true rfl) dX6_more_4 (fun ad2 H ha2 hP hD hS => ?_)
  obtain ⟨hw2, hn2⟩ := zs_nwr_wf hw hz_2
  have lf2 : (p).1 ≤ p2.1 := by rw [hn2]; exact Nat.le_succ _
  have fn2 : (p).1 < p2.1 := by rw [hn2]; exact Nat.lt_succ_self _
  rw [zs_W_up hf ha2] at hP hD
  have hf_2 := zs_fs_le hf lf2
  rw [← ha2 q1 f1] at hl
  rw [← ha2 q2 f2] at hl
  have fr2_0 : q1 < (p2).1 := Nat.lt_of_lt_of_le f1 lf2
  have fr2_1 : q2 < (p2).1 := Nat.lt_of_lt_of_le f2 lf2
  have le2 : p.1 ≤ (p2).1 := Nat.le_trans (Nat.le_refl _) lf2
  have hb2 : ∀ i, i < p.1 → ad2 i = ad i := fun i hi => (ha2 i (Nat.lt_of_lt_of_le hi (Nat.le_refl _))).trans ((fun _ _ => rfl) i hi)
  replace hP : va_P D vwCl (zs_W [] cy hs ad2 G F p2) H := hP
  replace hD : va_D A (zs_W [] cy hs ad2 G F p2) := hD
  refine lv_astore_n (lv' := [(2, .ref (ad2 p.1)), (0, .ref (ad2 q1)), (1, .ref (ad2 q2))]) hx hb dX6_more_7 rfl hl (by decide) rfl (fun ls hl => ?_)
  refine lv_iconst (v := 0) hx hb dX6_more_8 (by decide) ?_
  refine lv_istore_n (lv' := [(3, .int 0), (2, .ref (ad2 p.1)), (0, .ref (ad2 q1)), (1, .ref (ad2 q2))]) hx hb dX6_more_9 rfl hl (by decide) rfl (fun ls hl => ?_)
  replace hF := bnd_some hF
  obtain ⟨o3, hz_3, hF⟩ := hF
  refine L10 300 G F p2 q1 q2 p.1 0 o3 hz_3 ad2 (1) (92) (1) (92) (Nat.le_of_ble_eq_true rfl) (Nat.le_of_ble_eq_true rfl) (Nat.le_of_ble_eq_true rfl) (Nat.le_of_ble_eq_true rfl) _ _ _ hw2 hf_2 le2 hb2 fr2_0 fr2_1 fn2 hP hD hS (lv_sub hl [2, 3, 1, 0] rfl) (fun H locs ls hw3_0 hf3_0 le3_0 ha3_0 fk3_0_0 fk3_0_1 fk3_0_2 hP hD hS hl => ?_)
  refine lv_aload_n hx hb dX6_more_28 rfl (lv_at hl 2 rfl) ?_
  refine lv_aload_n hx hb dX6_more_29 rfl (lv_at hl 0 rfl) ?_
  replace hF := bnd_some hF
  obtain ⟨x8, hz_8, hF⟩ := hF
  refine sx_len hx hb hK hP hz_8 dX6_more_30 ?_
  refine lv_aload_n hx hb dX6_more_31 rfl (lv_at hl 1 rfl) ?_
  replace hF := bnd_some hF
  obtain ⟨p9, hz_9, hF⟩ := hF
  refine sx_str hx hb hK hG.1.2.2.2 hP hD hS hz_9 dX6_more_32 (fun H locs hP hD hS => ?_)
  obtain ⟨hw9, hn9⟩ := zs_str_wf hw3_0 hz_9
  have lf9 : (o3).1 ≤ p9.1 := Nat.le_of_eq hn9.symm
  have hf_9 := zs_fs_le hf3_0 lf9
  have fr9_0 : p.1 < (p9).1 := Nat.lt_of_lt_of_le fk3_0_2 lf9
  have le9 : p.1 ≤ (p9).1 := Nat.le_trans le3_0 lf9
  replace hP : va_P D vwCl (zs_W [] cy hs ad2 G F p9) H := hP
  replace hD : va_D A (zs_W [] cy hs ad2 G F p9) := hD
  refine lv_aload_n hx hb dX6_more_33 rfl (lv_at hl 2 rfl) ?_
  cases hF
  exact hQ _ _ _ _ _ _ ad2 dX6_more_34 ⟨⟨hw9, hf_9, le9, ha3_0⟩, fr9_0⟩ hP hD hS (Nat.le_of_ble_eq_true rfl) (Nat.le_of_ble_eq_true rfl)
