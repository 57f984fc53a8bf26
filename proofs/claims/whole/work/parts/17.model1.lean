def fX6_thrown (thrown : Int32) : Option (Int32) := some thrown
abbrev rX6_thrown : Room := { frames := 0, cells := 0, slots := 0, locals := 0 }
set_option maxHeartbeats 4000000 in
set_option maxRecDepth 100000 in
theorem kX6_thrown (l : Launch) (D : va_G) (cy : Nat → ClassId) (sa : Nat → Nat) (h : Nat → Nat) (thrown : Int32) (pairs : Int32) (teams : Int32) (water : FN) (vats : FN) (moulds : FN) (crews : FN) (posts : FN) (loft : FN) (nums : FN) (z : Int32) (hF : fX6_thrown thrown = some z) : KI l D (tyW cy) sa yX6_thrown wsX6_thrown rX6_thrown [.ref (h 0)] (wX6 cy h thrown pairs teams water vats moulds crews posts loft nums) z (fun _ => wX6 cy h thrown pairs teams water vats moulds crews posts loft nums) 0 0 := by
  refine KI.of (cc := cX6_thrown) (maxL := 1) (by decide +kernel) rfl (Nat.le_of_ble_eq_true rfl) ?_
  intro p e s m args below meth c A ls Q hE hQ
  obtain ⟨hx, hb, hml, hown, hts, hA, hP, hK, hD, hG, hl, hnm⟩ := hE
  replace hown : s.vm.findClass RX6 = some m.cls := hown
  have hiX6 : ∀ w ∈ u_ws RX6 TX6 10, w ∈ wsX6_thrown := by decide +kernel
  have hf31 : (Cond.fieldLink RX6 31 "RagVatsModel" "thrown" "I").before args s = true := hts _ (by decide +kernel)
  replace hl : lv_has ls 1 [(0, .ref (h 0))] := hl
  have hS : va_S A s.heap s.heap [] := va_S.rf
  unfold fX6_thrown at hF
  refine lv_aload_n hx hb dX6_thrown_0 rfl (lv_at hl 0 rfl) ?_
  refine va_get (D := D) (C := RX6) (T := TX6) (N := 10) hx hb hts hiX6 hown hK hP 0 gtX6_0 rfl 0 (by decide) hf31 (fun _ h9 => h9) rfl dX6_thrown_1 ?_
  cases hF
  exact hQ _ _ _ _ _ _ (fun _ => 0) dX6_thrown_4 hP hD hS (Nat.le_of_ble_eq_true rfl) (Nat.le_of_ble_eq_true rfl)

def fX6_fail (a1 : Int32) : Option (Int32 × Int32) := some (0, a1)
abbrev rX6_fail : Room := { frames := 0, cells := 0, slots := 0, locals := 0 }
set_option maxHeartbeats 4000000 in
set_option maxRecDepth 100000 in
theorem kX6_fail (l : Launch) (D : va_G) (cy : Nat → ClassId) (sa : Nat → Nat) (h : Nat → Nat) (thrown : Int32) (pairs : Int32) (teams : Int32) (water : FN) (vats : FN) (moulds : FN) (crews : FN) (posts : FN) (loft : FN) (nums : FN) (a1 : Int32) (z : Int32 × Int32) (hF : fX6_fail a1 = some z) : KI l D (tyW cy) sa yX6_fail wsX6_fail rX6_fail [.ref (h 0), .int a1] (wX6 cy h thrown pairs teams water vats moulds crews posts loft nums) z.1 (fun _ => wX6 cy h z.2 pairs teams water vats moulds crews posts loft nums) 0 0 := by
  refine KI.of (cc := cX6_fail) (maxL := 2) (by decide +kernel) rfl (Nat.le_of_ble_eq_true rfl) ?_
  intro p e s m args below meth c A ls Q hE hQ
  obtain ⟨hx, hb, hml, hown, hts, hA, hP, hK, hD, hG, hl, hnm⟩ := hE
  replace hown : s.vm.findClass RX6 = some m.cls := hown
  have hiX6 : ∀ w ∈ u_ws RX6 TX6 10, w ∈ wsX6_fail := by decide +kernel
  have hf31 : (Cond.fieldLink RX6 31 "RagVatsModel" "thrown" "I").before args s = true := hts _ (by decide +kernel)
  replace hl : lv_has ls 2 [(0, .ref (h 0)), (1, .int a1)] := hl
  have hS : va_S A s.heap s.heap [] := va_S.rf
  unfold fX6_fail at hF
  refine lv_aload_n hx hb dX6_fail_0 rfl (lv_at hl 0 rfl) ?_
  refine lv_iload_n hx hb dX6_fail_1 rfl (lv_at hl 1 rfl) ?_
  refine va_put (D := D) (v := .int a1) (ty := .int) (C := RX6) (T := TX6) (N := 10) hx hb hts hiX6 tyX6 tyX6_ok nmX6 hown hK hP hD hS 0 gtX6_0 rfl 0 (by decide) hf31 (fun _ h9 => h9) rfl (by decide +kernel) rfl rfl (Nat.le_of_ble_eq_true rfl) dX6_fail_2 (fun H locs hP hD hS => ?_)
  rw [stX6_0_0] at hP hD
  refine lv_iconst (v := 0) hx hb dX6_fail_5 (by decide) ?_
  cases hF
  exact hQ _ _ _ _ _ _ (fun _ => 0) dX6_fail_6 hP hD hS (Nat.le_of_ble_eq_true rfl) (Nat.le_of_ble_eq_true rfl)

def fX6_isIn (a1 : Int32) (a2 : Int32) (a3 : Int32) : Option (Int32) := if a1 < a2 then some 0 else if a3 < a1 then some 0 else some 1
abbrev rX6_isIn : Room := { frames := 0, cells := 0, slots := 0, locals := 0 }
set_option maxHeartbeats 4000000 in
set_option maxRecDepth 100000 in
theorem kX6_isIn (l : Launch) (D : va_G) (cy : Nat → ClassId) (sa : Nat → Nat) (a1 : Int32) (a2 : Int32) (a3 : Int32) (z : Int32) (hF : fX6_isIn a1 a2 a3 = some z) : KI l D (tyW cy) sa yX6_isIn wsX6_isIn rX6_isIn [.int a1, .int a2, .int a3] (([] : va_W)) z (fun _ => ([] : va_W)) 0 0 := by
  refine KI.ofZ (cc := cX6_isIn) (maxL := 3) (by decide +kernel) rfl (Nat.le_of_ble_eq_true rfl) ?_
  intro p e s m args below meth c A ls Q hE hQ
  obtain ⟨hx, hb, hml, hown, hts, hA, hP, hK, hD, hG, hl, hnm⟩ := hE
  replace hown : s.vm.findClass RX6 = some m.cls := hown
  replace hl : lv_has ls 3 [(0, .int a1), (1, .int a2), (2, .int a3)] := hl
  have hS : va_S A s.heap s.heap [] := va_S.rf
  unfold fX6_isIn at hF
  refine lv_iload_n hx hb dX6_isIn_0 rfl (lv_at hl 0 rfl) ?_
  refine lv_iload_n hx hb dX6_isIn_1 rfl (lv_at hl 1 rfl) ?_
  refine lv_icmp_lt (tgt := 14) hx hb dX6_isIn_2 (by decide) (fun c_1 => ?_) (fun c_1 => ?_)
  · replace hF := if_t hF c_1
    refine lv_iconst (v := 0) hx hb dX6_isIn_14 (by decide) ?_
    cases hF
    exact hQ _ _ _ _ _ _ (fun _ => 0) rfl dX6_isIn_15 hP hD hS (Nat.le_of_ble_eq_true rfl) (Nat.le_of_ble_eq_true rfl)
  · replace hF := if_f hF c_1
    refine lv_iload_n hx hb dX6_isIn_5 rfl (lv_at hl 0 rfl) ?_
    refine lv_iload_n hx hb dX6_isIn_6 rfl (lv_at hl 2 rfl) ?_
    refine lv_icmp_gt (tgt := 14) hx hb dX6_isIn_7 (by decide) (fun c_2 => ?_) (fun c_2 => ?_)
    · replace hF := if_t hF c_2
      refine lv_iconst (v := 0) hx hb dX6_isIn_14 (by decide) ?_
      cases hF
      exact hQ _ _ _ _ _ _ (fun _ => 0) rfl dX6_isIn_15 hP hD hS (Nat.le_of_ble_eq_true rfl) (Nat.le_of_ble_eq_true rfl)
    · replace hF := if_f hF c_2
      refine lv_iconst (v := 1) hx hb dX6_isIn_10 (by decide) ?_
      refine lv_goto (tgt := 15) hx hb dX6_isIn_11 (by decide) ?_
      cases hF
      exact hQ _ _ _ _ _ _ (fun _ => 0) rfl dX6_isIn_15 hP hD hS (Nat.le_of_ble_eq_true rfl) (Nat.le_of_ble_eq_true rfl)

def fX6_isVat (a1 : Int32) : Option (Int32) := (fX6_isIn a1 0 3).bind fun z1 => ckB z1 (some z1)
abbrev rX6_isVat : Room := { frames := 1, cells := 0, slots := 0, locals := 22 }
set_option maxHeartbeats 4000000 in
set_option maxRecDepth 100000 in
theorem kX6_isVat (l : Launch) (D : va_G) (cy : Nat → ClassId) (sa : Nat → Nat) (a1 : Int32) (z : Int32) (hF : fX6_isVat a1 = some z) : KI l D (tyW cy) sa yX6_isVat wsX6_isVat rX6_isVat [.int a1] (([] : va_W)) z (fun _ => ([] : va_W)) 0 0 := by
  refine KI.ofZ (cc := cX6_isVat) (maxL := 1) (by decide +kernel) rfl (Nat.le_of_ble_eq_true rfl) ?_
  intro p e s m args below meth c A ls Q hE hQ
  obtain ⟨hx, hb, hml, hown, hts, hA, hP, hK, hD, hG, hl, hnm⟩ := hE
  replace hown : s.vm.findClass RX6 = some m.cls := hown
  replace hl : lv_has ls 1 [(0, .int a1)] := hl
  have hS : va_S A s.heap s.heap [] := va_S.rf
  unfold fX6_isVat at hF
  refine lv_iload_n hx hb dX6_isVat_0 rfl (lv_at hl 0 rfl) ?_
  refine lv_iconst (v := 0) hx hb dX6_isVat_1 (by decide) ?_
  refine lv_iconst (v := 3) hx hb dX6_isVat_2 (by decide) ?_
  replace hF := bnd_some hF
  obtain ⟨z1, hz_1, hF⟩ := hF
  refine krI (kS (As := [.int a1, .int 0, .int 3]) ⟨hx, hb, hml, hown, hts⟩ (kX6_isIn l D cy sa a1 0 3 z1 hz_1 _) (cwS 3 hts gX6_isVat_X6_isIn rfl rfl rfl (by decide +kernel) ⟨Nat.le_of_ble_eq_true rfl, Nat.le_of_ble_eq_true rfl⟩) hK hP hD hS hA hG [] rfl rfl rfl hl.1 [] rfl (Nat.le_of_ble_eq_true rfl) dX6_isVat_3 ⟨(Nat.le_of_ble_eq_true rfl), (Nat.le_of_ble_eq_true rfl)⟩) hP hD hS hA [] rfl (fun H locs hP hS => ?_)
  replace hF := ckB_some hF
  obtain ⟨hnb, hF⟩ := hF
  cases hF
  exact hQ _ _ _ _ _ _ (fun _ => 0) hnb dX6_isVat_6 hP hD hS (Nat.le_of_ble_eq_true rfl) (Nat.le_of_ble_eq_true rfl)

def fX6_isPair (pairs : Int32) (a1 : Int32) : Option (Int32) := (fX6_isIn a1 0 (pairs - 1)).bind fun z1 => ckB z1 (some z1)
abbrev rX6_isPair : Room := { frames := 1, cells := 0, slots := 0, locals := 22 }
set_option maxHeartbeats 4000000 in
set_option maxRecDepth 100000 in
theorem kX6_isPair (l : Launch) (D : va_G) (cy : Nat → ClassId) (sa : Nat → Nat) (h : Nat → Nat) (thrown : Int32) (pairs : Int32) (teams : Int32) (water : FN) (vats : FN) (moulds : FN) (crews : FN) (posts : FN) (loft : FN) (nums : FN) (a1 : Int32) (z : Int32) (hF : fX6_isPair pairs a1 = some z) : KI l D (tyW cy) sa yX6_isPair wsX6_isPair rX6_isPair [.ref (h 0), .int a1] (wX6 cy h thrown pairs teams water vats moulds crews posts loft nums) z (fun _ => wX6 cy h thrown pairs teams water vats moulds crews posts loft nums) 0 0 := by
  refine KI.ofZ (cc := cX6_isPair) (maxL := 2) (by decide +kernel) rfl (Nat.le_of_ble_eq_true rfl) ?_
  intro p e s m args below meth c A ls Q hE hQ
  obtain ⟨hx, hb, hml, hown, hts, hA, hP, hK, hD, hG, hl, hnm⟩ := hE
  replace hown : s.vm.findClass RX6 = some m.cls := hown
  have hiX6 : ∀ w ∈ u_ws RX6 TX6 10, w ∈ wsX6_isPair := by decide +kernel
  have hf39 : (Cond.fieldLink RX6 39 "RagVatsModel" "pairs" "I").before args s = true := hts _ (by decide +kernel)
  replace hl : lv_has ls 2 [(0, .ref (h 0)), (1, .int a1)] := hl
  have hS : va_S A s.heap s.heap [] := va_S.rf
  unfold fX6_isPair at hF
  refine lv_iload_n hx hb dX6_isPair_0 rfl (lv_at hl 1 rfl) ?_
  refine lv_iconst (v := 0) hx hb dX6_isPair_1 (by decide) ?_
  refine lv_aload_n hx hb dX6_isPair_2 rfl (lv_at hl 0 rfl) ?_
  refine va_get (D := D) (C := RX6) (T := TX6) (N := 10) hx hb hts hiX6 hown hK hP 0 gtX6_0 rfl 1 (by decide) hf39 (fun _ h9 => h9) rfl dX6_isPair_3 ?_
  refine lv_iconst (v := 1) hx hb dX6_isPair_6 (by decide) ?_
  refine lv_isub hx hb dX6_isPair_7 ?_
  replace hF := bnd_some hF
  obtain ⟨z1, hz_1, hF⟩ := hF
  refine krI (kS (As := [.int a1, .int 0, .int (pairs - 1)]) ⟨hx, hb, hml, hown, hts⟩ (kX6_isIn l D cy sa a1 0 (pairs - 1) z1 hz_1 _) (cwS 3 hts gX6_isPair_X6_isIn rfl rfl rfl (by decide +kernel) ⟨Nat.le_of_ble_eq_true rfl, Nat.le_of_ble_eq_true rfl⟩) hK hP hD hS hA hG [] rfl rfl rfl hl.1 [] rfl (Nat.le_of_ble_eq_true rfl) dX6_isPair_8 ⟨(Nat.le_of_ble_eq_true rfl), (Nat.le_of_ble_eq_true rfl)⟩) hP hD hS hA [] rfl (fun H locs hP hS => ?_)
  replace hF := ckB_some hF
  obtain ⟨hnb, hF⟩ := hF
  cases hF
  exact hQ _ _ _ _ _ _ (fun _ => 0) hnb dX6_isPair_11 hP hD hS (Nat.le_of_ble_eq_true rfl) (Nat.le_of_ble_eq_true rfl)

def fX6_isTeam (teams : Int32) (a1 : Int32) : Option (Int32) := (fX6_isIn a1 0 (teams - 1)).bind fun z1 => ckB z1 (some z1)
abbrev rX6_isTeam : Room := { frames := 1, cells := 0, slots := 0, locals := 22 }
set_option maxHeartbeats 4000000 in
set_option maxRecDepth 100000 in
theorem kX6_isTeam (l : Launch) (D : va_G) (cy : Nat → ClassId) (sa : Nat → Nat) (h : Nat → Nat) (thrown : Int32) (pairs : Int32) (teams : Int32) (water : FN) (vats : FN) (moulds : FN) (crews : FN) (posts : FN) (loft : FN) (nums : FN) (a1 : Int32) (z : Int32) (hF : fX6_isTeam teams a1 = some z) : KI l D (tyW cy) sa yX6_isTeam wsX6_isTeam rX6_isTeam [.ref (h 0), .int a1] (wX6 cy h thrown pairs teams water vats moulds crews posts loft nums) z (fun _ => wX6 cy h thrown pairs teams water vats moulds crews posts loft nums) 0 0 := by
  refine KI.ofZ (cc := cX6_isTeam) (maxL := 2) (by decide +kernel) rfl (Nat.le_of_ble_eq_true rfl) ?_
  intro p e s m args below meth c A ls Q hE hQ
  obtain ⟨hx, hb, hml, hown, hts, hA, hP, hK, hD, hG, hl, hnm⟩ := hE
  replace hown : s.vm.findClass RX6 = some m.cls := hown
  have hiX6 : ∀ w ∈ u_ws RX6 TX6 10, w ∈ wsX6_isTeam := by decide +kernel
  have hf42 : (Cond.fieldLink RX6 42 "RagVatsModel" "teams" "I").before args s = true := hts _ (by decide +kernel)
  replace hl : lv_has ls 2 [(0, .ref (h 0)), (1, .int a1)] := hl
  have hS : va_S A s.heap s.heap [] := va_S.rf
  unfold fX6_isTeam at hF
  refine lv_iload_n hx hb dX6_isTeam_0 rfl (lv_at hl 1 rfl) ?_
  refine lv_iconst (v := 0) hx hb dX6_isTeam_1 (by decide) ?_
  refine lv_aload_n hx hb dX6_isTeam_2 rfl (lv_at hl 0 rfl) ?_
  refine va_get (D := D) (C := RX6) (T := TX6) (N := 10) hx hb hts hiX6 hown hK hP 0 gtX6_0 rfl 2 (by decide) hf42 (fun _ h9 => h9) rfl dX6_isTeam_3 ?_
  refine lv_iconst (v := 1) hx hb dX6_isTeam_6 (by decide) ?_
  refine lv_isub hx hb dX6_isTeam_7 ?_
  replace hF := bnd_some hF
  obtain ⟨z1, hz_1, hF⟩ := hF
  refine krI (kS (As := [.int a1, .int 0, .int (teams - 1)]) ⟨hx, hb, hml, hown, hts⟩ (kX6_isIn l D cy sa a1 0 (teams - 1) z1 hz_1 _) (cwS 3 hts gX6_isTeam_X6_isIn rfl rfl rfl (by decide +kernel) ⟨Nat.le_of_ble_eq_true rfl, Nat.le_of_ble_eq_true rfl⟩) hK hP hD hS hA hG [] rfl rfl rfl hl.1 [] rfl (Nat.le_of_ble_eq_true rfl) dX6_isTeam_8 ⟨(Nat.le_of_ble_eq_true rfl), (Nat.le_of_ble_eq_true rfl)⟩) hP hD hS hA [] rfl (fun H locs hP hS => ?_)
  replace hF := ckB_some hF
  obtain ⟨hnb, hF⟩ := hF
  cases hF
  exact hQ _ _ _ _ _ _ (fun _ => 0) hnb dX6_isTeam_11 hP hD hS (Nat.le_of_ble_eq_true rfl) (Nat.le_of_ble_eq_true rfl)

def fX6_va (vats : FN) (a1 : Int32) (a2 : Int32) : Option (Int32) := ckI ((3 * a1) + a2) 12 (some (vats ((3 * a1) + a2).toNatClampNeg))
abbrev rX6_va : Room := { frames := 0, cells := 0, slots := 0, locals := 0 }
set_option maxHeartbeats 4000000 in
set_option maxRecDepth 100000 in
theorem kX6_va (l : Launch) (D : va_G) (cy : Nat → ClassId) (sa : Nat → Nat) (h : Nat → Nat) (thrown : Int32) (pairs : Int32) (teams : Int32) (water : FN) (vats : FN) (moulds : FN) (crews : FN) (posts : FN) (loft : FN) (nums : FN) (a1 : Int32) (a2 : Int32) (z : Int32) (hF : fX6_va vats a1 a2 = some z) : KI l D (tyW cy) sa yX6_va wsX6_va rX6_va [.ref (h 0), .int a1, .int a2] (wX6 cy h thrown pairs teams water vats moulds crews posts loft nums) z (fun _ => wX6 cy h thrown pairs teams water vats moulds crews posts loft nums) 0 0 := by
  refine KI.of (cc := cX6_va) (maxL := 3) (by decide +kernel) rfl (Nat.le_of_ble_eq_true rfl) ?_
  intro p e s m args below meth c A ls Q hE hQ
  obtain ⟨hx, hb, hml, hown, hts, hA, hP, hK, hD, hG, hl, hnm⟩ := hE
  replace hown : s.vm.findClass RX6 = some m.cls := hown
  have hiX6 : ∀ w ∈ u_ws RX6 TX6 10, w ∈ wsX6_va := by decide +kernel
  have hf13 : (Cond.fieldLink RX6 13 "RagVatsModel" "vats" "[I").before args s = true := hts _ (by decide +kernel)
  replace hl : lv_has ls 3 [(0, .ref (h 0)), (1, .int a1), (2, .int a2)] := hl
  have hS : va_S A s.heap s.heap [] := va_S.rf
  unfold fX6_va at hF
  refine lv_aload_n hx hb dX6_va_0 rfl (lv_at hl 0 rfl) ?_
  refine va_get (D := D) (C := RX6) (T := TX6) (N := 10) hx hb hts hiX6 hown hK hP 0 gtX6_0 rfl 4 (by decide) hf13 (fun _ h9 => h9) rfl dX6_va_1 ?_
  refine lv_iconst (v := 3) hx hb dX6_va_4 (by decide) ?_
  refine lv_iload_n hx hb dX6_va_5 rfl (lv_at hl 1 rfl) ?_
  refine lv_imul hx hb dX6_va_6 ?_
  refine lv_iload_n hx hb dX6_va_7 rfl (lv_at hl 2 rfl) ?_
  refine lv_iadd hx hb dX6_va_8 ?_
  replace hF := ckI_some hF
  obtain ⟨hi_1, hF⟩ := hF
  refine va_iald hx hb hK hP 2 0 gtX6_2 rfl hi_1 dX6_va_9 ?_
  cases hF
  exact hQ _ _ _ _ _ _ (fun _ => 0) dX6_va_10 hP hD hS (Nat.le_of_ble_eq_true rfl) (Nat.le_of_ble_eq_true rfl)

def fX6_mo (moulds : FN) (a1 : Int32) (a2 : Int32) : Option (Int32) := ckI ((3 * a1) + a2) 15 (some (moulds ((3 * a1) + a2).toNatClampNeg))
abbrev rX6_mo : Room := { frames := 0, cells := 0, slots := 0, locals := 0 }
set_option maxHeartbeats 4000000 in
set_option maxRecDepth 100000 in
theorem kX6_mo (l : Launch) (D : va_G) (cy : Nat → ClassId) (sa : Nat → Nat) (h : Nat → Nat) (thrown : Int32) (pairs : Int32) (teams : Int32) (water : FN) (vats : FN) (moulds : FN) (crews : FN) (posts : FN) (loft : FN) (nums : FN) (a1 : Int32) (a2 : Int32) (z : Int32) (hF : fX6_mo moulds a1 a2 = some z) : KI l D (tyW cy) sa yX6_mo wsX6_mo rX6_mo [.ref (h 0), .int a1, .int a2] (wX6 cy h thrown pairs teams water vats moulds crews posts loft nums) z (fun _ => wX6 cy h thrown pairs teams water vats moulds crews posts loft nums) 0 0 := by
  refine KI.of (cc := cX6_mo) (maxL := 3) (by decide +kernel) rfl (Nat.le_of_ble_eq_true rfl) ?_
  intro p e s m args below meth c A ls Q hE hQ
  obtain ⟨hx, hb, hml, hown, hts, hA, hP, hK, hD, hG, hl, hnm⟩ := hE
  replace hown : s.vm.findClass RX6 = some m.cls := hown
  have hiX6 : ∀ w ∈ u_ws RX6 TX6 10, w ∈ wsX6_mo := by decide +kernel
  have hf16 : (Cond.fieldLink RX6 16 "RagVatsModel" "moulds" "[I").before args s = true := hts _ (by decide +kernel)
  replace hl : lv_has ls 3 [(0, .ref (h 0)), (1, .int a1), (2, .int a2)] := hl
  have hS : va_S A s.heap s.heap [] := va_S.rf
  unfold fX6_mo at hF
  refine lv_aload_n hx hb dX6_mo_0 rfl (lv_at hl 0 rfl) ?_
  refine va_get (D := D) (C := RX6) (T := TX6) (N := 10) hx hb hts hiX6 hown hK hP 0 gtX6_0 rfl 5 (by decide) hf16 (fun _ h9 => h9) rfl dX6_mo_1 ?_
  refine lv_iconst (v := 3) hx hb dX6_mo_4 (by decide) ?_
  refine lv_iload_n hx hb dX6_mo_5 rfl (lv_at hl 1 rfl) ?_
  refine lv_imul hx hb dX6_mo_6 ?_
  refine lv_iload_n hx hb dX6_mo_7 rfl (lv_at hl 2 rfl) ?_
  refine lv_iadd hx hb dX6_mo_8 ?_
  replace hF := ckI_some hF
  obtain ⟨hi_1, hF⟩ := hF
  refine va_iald hx hb hK hP 3 0 gtX6_3 rfl hi_1 dX6_mo_9 ?_
  cases hF
  exact hQ _ _ _ _ _ _ (fun _ => 0) dX6_mo_10 hP hD hS (Nat.le_of_ble_eq_true rfl) (Nat.le_of_ble_eq_true rfl)

def fX6_cr (crews : FN) (a1 : Int32) (a2 : Int32) : Option (Int32) := ckI ((3 * a1) + a2) 9 (some (crews ((3 * a1) + a2).toNatClampNeg))
abbrev rX6_cr : Room := { frames := 0, cells := 0, slots := 0, locals := 0 }
set_option maxHeartbeats 4000000 in
set_option maxRecDepth 100000 in
theorem kX6_cr (l : Launch) (D : va_G) (cy : Nat → ClassId) (sa : Nat → Nat) (h : Nat → Nat) (thrown : Int32) (pairs : Int32) (teams : Int32) (water : FN) (vats : FN) (moulds : FN) (crews : FN) (posts : FN) (loft : FN) (nums : FN) (a1 : Int32) (a2 : Int32) (z : Int32) (hF : fX6_cr crews a1 a2 = some z) : KI l D (tyW cy) sa yX6_cr wsX6_cr rX6_cr [.ref (h 0), .int a1, .int a2] (wX6 cy h thrown pairs teams water vats moulds crews posts loft nums) z (fun _ => wX6 cy h thrown pairs teams water vats moulds crews posts loft nums) 0 0 := by
  refine KI.of (cc := cX6_cr) (maxL := 3) (by decide +kernel) rfl (Nat.le_of_ble_eq_true rfl) ?_
  intro p e s m args below meth c A ls Q hE hQ
  obtain ⟨hx, hb, hml, hown, hts, hA, hP, hK, hD, hG, hl, hnm⟩ := hE
  replace hown : s.vm.findClass RX6 = some m.cls := hown
  have hiX6 : ∀ w ∈ u_ws RX6 TX6 10, w ∈ wsX6_cr := by decide +kernel
  have hf19 : (Cond.fieldLink RX6 19 "RagVatsModel" "crews" "[I").before args s = true := hts _ (by decide +kernel)
  replace hl : lv_has ls 3 [(0, .ref (h 0)), (1, .int a1), (2, .int a2)] := hl
  have hS : va_S A s.heap s.heap [] := va_S.rf
  unfold fX6_cr at hF
  refine lv_aload_n hx hb dX6_cr_0 rfl (lv_at hl 0 rfl) ?_
  refine va_get (D := D) (C := RX6) (T := TX6) (N := 10) hx hb hts hiX6 hown hK hP 0 gtX6_0 rfl 6 (by decide) hf19 (fun _ h9 => h9) rfl dX6_cr_1 ?_
  refine lv_iconst (v := 3) hx hb dX6_cr_4 (by decide) ?_
  refine lv_iload_n hx hb dX6_cr_5 rfl (lv_at hl 1 rfl) ?_
  refine lv_imul hx hb dX6_cr_6 ?_
  refine lv_iload_n hx hb dX6_cr_7 rfl (lv_at hl 2 rfl) ?_
  refine lv_iadd hx hb dX6_cr_8 ?_
  replace hF := ckI_some hF
  obtain ⟨hi_1, hF⟩ := hF
  refine va_iald hx hb hK hP 4 0 gtX6_4 rfl hi_1 dX6_cr_9 ?_
  cases hF
  exact hQ _ _ _ _ _ _ (fun _ => 0) dX6_cr_10 hP hD hS (Nat.le_of_ble_eq_true rfl) (Nat.le_of_ble_eq_true rfl)

def fX6_ps (posts : FN) (a1 : Int32) (a2 : Int32) : Option (Int32) := ckI ((3 * a1) + a2) 270 (some (posts ((3 * a1) + a2).toNatClampNeg))
abbrev rX6_ps : Room := { frames := 0, cells := 0, slots := 0, locals := 0 }
set_option maxHeartbeats 4000000 in
set_option maxRecDepth 100000 in
theorem kX6_ps (l : Launch) (D : va_G) (cy : Nat → ClassId) (sa : Nat → Nat) (h : Nat → Nat) (thrown : Int32) (pairs : Int32) (teams : Int32) (water : FN) (vats : FN) (moulds : FN) (crews : FN) (posts : FN) (loft : FN) (nums : FN) (a1 : Int32) (a2 : Int32) (z : Int32) (hF : fX6_ps posts a1 a2 = some z) : KI l D (tyW cy) sa yX6_ps wsX6_ps rX6_ps [.ref (h 0), .int a1, .int a2] (wX6 cy h thrown pairs teams water vats moulds crews posts loft nums) z (fun _ => wX6 cy h thrown pairs teams water vats moulds crews posts loft nums) 0 0 := by
  refine KI.of (cc := cX6_ps) (maxL := 3) (by decide +kernel) rfl (Nat.le_of_ble_eq_true rfl) ?_
  intro p e s m args below meth c A ls Q hE hQ
  obtain ⟨hx, hb, hml, hown, hts, hA, hP, hK, hD, hG, hl, hnm⟩ := hE
  replace hown : s.vm.findClass RX6 = some m.cls := hown
  have hiX6 : ∀ w ∈ u_ws RX6 TX6 10, w ∈ wsX6_ps := by decide +kernel
  have hf22 : (Cond.fieldLink RX6 22 "RagVatsModel" "posts" "[I").before args s = true := hts _ (by decide +kernel)
  replace hl : lv_has ls 3 [(0, .ref (h 0)), (1, .int a1), (2, .int a2)] := hl
  have hS : va_S A s.heap s.heap [] := va_S.rf
  unfold fX6_ps at hF
  refine lv_aload_n hx hb dX6_ps_0 rfl (lv_at hl 0 rfl) ?_
  refine va_get (D := D) (C := RX6) (T := TX6) (N := 10) hx hb hts hiX6 hown hK hP 0 gtX6_0 rfl 7 (by decide) hf22 (fun _ h9 => h9) rfl dX6_ps_1 ?_
  refine lv_iconst (v := 3) hx hb dX6_ps_4 (by decide) ?_
  refine lv_iload_n hx hb dX6_ps_5 rfl (lv_at hl 1 rfl) ?_
  refine lv_imul hx hb dX6_ps_6 ?_
  refine lv_iload_n hx hb dX6_ps_7 rfl (lv_at hl 2 rfl) ?_
  refine lv_iadd hx hb dX6_ps_8 ?_
  replace hF := ckI_some hF
  obtain ⟨hi_1, hF⟩ := hF
  refine va_iald hx hb hK hP 5 0 gtX6_5 rfl hi_1 dX6_ps_9 ?_
  cases hF
  exact hQ _ _ _ _ _ _ (fun _ => 0) dX6_ps_10 hP hD hS (Nat.le_of_ble_eq_true rfl) (Nat.le_of_ble_eq_true rfl)

def fX6_let_L29 (a1 : Int32) (a2 : Int32) (a4 : Int32) (vats_29 : FN) (s1_29 : Int32) (s2_29 : Int32) : Option (FN) := ckI s1_29 12 (if a2 = 0 then ckI ((3 * a1) + 2) 12 (some (upd (upd vats_29 s1_29.toNatClampNeg s2_29) ((3 * a1) + 2).toNatClampNeg (-1))) else ckI ((3 * a1) + 2) 12 (some (upd (upd vats_29 s1_29.toNatClampNeg s2_29) ((3 * a1) + 2).toNatClampNeg a4)))
def fX6_let (vats : FN) (a1 : Int32) (a2 : Int32) (a3 : Int32) (a4 : Int32) : Option (FN) := ckI ((3 * a1) + 0) 12 (if a2 = 0 then fX6_let_L29 a1 a2 a4 (upd vats ((3 * a1) + 0).toNatClampNeg a2) ((3 * a1) + 1) 0 else fX6_let_L29 a1 a2 a4 (upd vats ((3 * a1) + 0).toNatClampNeg a2) ((3 * a1) + 1) a3)
abbrev rX6_let : Room := { frames := 0, cells := 0, slots := 0, locals := 0 }
set_option maxHeartbeats 4000000 in
set_option maxRecDepth 100000 in
theorem kX6_let (l : Launch) (D : va_G) (cy : Nat → ClassId) (sa : Nat → Nat) (h : Nat → Nat) (thrown : Int32) (pairs : Int32) (teams : Int32) (water : FN) (vats : FN) (moulds : FN) (crews : FN) (posts : FN) (loft : FN) (nums : FN) (a1 : Int32) (a2 : Int32) (a3 : Int32) (a4 : Int32) (z : FN) (hF : fX6_let vats a1 a2 a3 a4 = some z) : KV l D (tyW cy) sa yX6_let wsX6_let rX6_let [.ref (h 0), .int a1, .int a2, .int a3, .int a4] (wX6 cy h thrown pairs teams water vats moulds crews posts loft nums) (fun _ => wX6 cy h thrown pairs teams water z moulds crews posts loft nums) 0 0 := by
  refine KV.of (cc := cX6_let) (maxL := 5) (by decide +kernel) rfl (Nat.le_of_ble_eq_true rfl) ?_
  intro p e s m args below meth c A ls Q hE hQ
  obtain ⟨hx, hb, hml, hown, hts, hA, hP, hK, hD, hG, hl, hnm⟩ := hE
  replace hown : s.vm.findClass RX6 = some m.cls := hown
  have hiX6 : ∀ w ∈ u_ws RX6 TX6 10, w ∈ wsX6_let := by decide +kernel
  have hf13 : (Cond.fieldLink RX6 13 "RagVatsModel" "vats" "[I").before args s = true := hts _ (by decide +kernel)
  replace hl : lv_has ls 5 [(0, .ref (h 0)), (1, .int a1), (2, .int a2), (3, .int a3), (4, .int a4)] := hl
  have hS : va_S A s.heap s.heap [] := va_S.rf
  have L29 : ∀ (vats_29 : FN) (s1_29 : Int32) (s2_29 : Int32), fX6_let_L29 a1 a2 a4 vats_29 s1_29 s2_29 = some z → ∀ (H : Heap) (locs : List Loc) (ls : Array Slot), va_P D vwCl (wX6 cy h thrown pairs teams water vats_29 moulds crews posts loft nums) H → va_D A (wX6 cy h thrown pairs teams water vats_29 moulds crews posts loft nums) → va_S A s.heap H locs → lv_has ls 5 [(0, .ref (h 0)), (1, .int a1), (2, .int a2), (4, .int a4)] → W p l e rX6_let s m args below meth c H locs 0 0 Q (F0 m 29 ls [.int s2_29, .int s1_29, .ref (h 2)]) := by
    intro vats_29 s1_29 s2_29 hF H locs ls hP hD hS hl
    unfold fX6_let_L29 at hF
    replace hF := ckI_some hF
    obtain ⟨hi_3, hF⟩ := hF
    refine va_iast hx hb hK hP hD hS 2 0 gtX6_2 rfl hi_3 dX6_let_29 (fun H locs hP hD hS => ?_)
    rw [stX6_2] at hP hD
    refine lv_aload_n hx hb dX6_let_30 rfl (lv_at hl 0 rfl) ?_
    refine va_get (D := D) (C := RX6) (T := TX6) (N := 10) hx hb hts hiX6 hown hK hP 0 gtX6_0 rfl 4 (by decide) hf13 (fun _ h9 => h9) rfl dX6_let_31 ?_
    refine lv_iconst (v := 3) hx hb dX6_let_34 (by decide) ?_
    refine lv_iload_n hx hb dX6_let_35 rfl (lv_at hl 1 rfl) ?_
    refine lv_imul hx hb dX6_let_36 ?_
    refine lv_iconst (v := 2) hx hb dX6_let_37 (by decide) ?_
    refine lv_iadd hx hb dX6_let_38 ?_
    refine lv_iload_n hx hb dX6_let_39 rfl (lv_at hl 2 rfl) ?_
    refine lv_if_ne (tgt := 47) hx hb dX6_let_40 (by decide) (fun c_4 => ?_) (fun c_4 => ?_)
    · replace hF := if_f hF c_4
      refine lv_iload hx hb dX6_let_47 (lv_at hl 3 rfl) ?_
      replace hF := ckI_some hF
      obtain ⟨hi_5, hF⟩ := hF
      refine va_iast hx hb hK hP hD hS 2 0 gtX6_2 rfl hi_5 dX6_let_49 (fun H locs hP hD hS => ?_)
      rw [stX6_2] at hP hD
      cases hF
      exact hQ _ _ _ _ _ _ (fun _ => 0) dX6_let_50 hP hD hS (Nat.le_of_ble_eq_true rfl) (Nat.le_of_ble_eq_true rfl)
    · replace hF := if_t hF c_4
      refine lv_iconst (v := -1) hx hb dX6_let_43 (by decide) ?_
      refine lv_goto (tgt := 49) hx hb dX6_let_44 (by decide) ?_
      replace hF := ckI_some hF
      obtain ⟨hi_6, hF⟩ := hF
      refine va_iast hx hb hK hP hD hS 2 0 gtX6_2 rfl hi_6 dX6_let_49 (fun H locs hP hD hS => ?_)
      rw [stX6_2] at hP hD
      cases hF
      exact hQ _ _ _ _ _ _ (fun _ => 0) dX6_let_50 hP hD hS (Nat.le_of_ble_eq_true rfl) (Nat.le_of_ble_eq_true rfl)
  unfold fX6_let at hF
  refine lv_aload_n hx hb dX6_let_0 rfl (lv_at hl 0 rfl) ?_
  refine va_get (D := D) (C := RX6) (T := TX6) (N := 10) hx hb hts hiX6 hown hK hP 0 gtX6_0 rfl 4 (by decide) hf13 (fun _ h9 => h9) rfl dX6_let_1 ?_
  refine lv_iconst (v := 3) hx hb dX6_let_4 (by decide) ?_
  refine lv_iload_n hx hb dX6_let_5 rfl (lv_at hl 1 rfl) ?_
  refine lv_imul hx hb dX6_let_6 ?_
  refine lv_iconst (v := 0) hx hb dX6_let_7 (by decide) ?_
  refine lv_iadd hx hb dX6_let_8 ?_
  refine lv_iload_n hx hb dX6_let_9 rfl (lv_at hl 2 rfl) ?_
  replace hF := ckI_some hF
  obtain ⟨hi_1, hF⟩ := hF
  refine va_iast hx hb hK hP hD hS 2 0 gtX6_2 rfl hi_1 dX6_let_10 (fun H locs hP hD hS => ?_)
  rw [stX6_2] at hP hD
  refine lv_aload_n hx hb dX6_let_11 rfl (lv_at hl 0 rfl) ?_
  refine va_get (D := D) (C := RX6) (T := TX6) (N := 10) hx hb hts hiX6 hown hK hP 0 gtX6_0 rfl 4 (by decide) hf13 (fun _ h9 => h9) rfl dX6_let_12 ?_
  refine lv_iconst (v := 3) hx hb dX6_let_15 (by decide) ?_
  refine lv_iload_n hx hb dX6_let_16 rfl (lv_at hl 1 rfl) ?_
  refine lv_imul hx hb dX6_let_17 ?_
  refine lv_iconst (v := 1) hx hb dX6_let_18 (by decide) ?_
  refine lv_iadd hx hb dX6_let_19 ?_
  refine lv_iload_n hx hb dX6_let_20 rfl (lv_at hl 2 rfl) ?_
  refine lv_if_ne (tgt := 28) hx hb dX6_let_21 (by decide) (fun c_2 => ?_) (fun c_2 => ?_)
  · replace hF := if_f hF c_2
    refine lv_iload_n hx hb dX6_let_28 rfl (lv_at hl 3 rfl) ?_
    exact L29  (upd vats ((3 * a1) + 0).toNatClampNeg a2) ((3 * a1) + 1) a3  hF _ _ _ hP hD hS (lv_sub hl [0, 1, 2, 4] rfl)
  · replace hF := if_t hF c_2
    refine lv_iconst (v := 0) hx hb dX6_let_24 (by decide) ?_
    refine lv_goto (tgt := 29) hx hb dX6_let_25 (by decide) ?_
    exact L29  (upd vats ((3 * a1) + 0).toNatClampNeg a2) ((3 * a1) + 1) 0  hF _ _ _ hP hD hS (lv_sub hl [0, 1, 2, 4] rfl)

def fX6_onFelts_L4 (posts : FN) (nums : FN) : Nat → Int32 → Int32 → Option (Int32)
  | 0, _, _ => none
  | k + 1, x1_4, x2_4 => if (nums (5 : Int32).toNatClampNeg) ≤ x2_4 then some x1_4 else (fX6_ps posts x2_4 2).bind fun z3 => fX6_onFelts_L4 posts nums k (x1_4 + z3) (x2_4 + 1)
def fX6_onFelts (posts : FN) (nums : FN) : Option (Int32) := fX6_onFelts_L4 posts nums 300 0 0
abbrev rX6_onFelts : Room := { frames := 1, cells := 0, slots := 0, locals := 22 }
set_option maxHeartbeats 4000000 in
set_option maxRecDepth 100000 in
theorem kX6_onFelts (l : Launch) (D : va_G) (cy : Nat → ClassId) (sa : Nat → Nat) (h : Nat → Nat) (thrown : Int32) (pairs : Int32) (teams : Int32) (water : FN) (vats : FN) (moulds : FN) (crews : FN) (posts : FN) (loft : FN) (nums : FN) (z : Int32) (hF : fX6_onFelts posts nums = some z) : KI l D (tyW cy) sa yX6_onFelts wsX6_onFelts rX6_onFelts [.ref (h 0)] (wX6 cy h thrown pairs teams water vats moulds crews posts loft nums) z (fun _ => wX6 cy h thrown pairs teams water vats moulds crews posts loft nums) 0 0 := by
  refine KI.of (cc := cX6_onFelts) (maxL := 3) (by decide +kernel) rfl (Nat.le_of_ble_eq_true rfl) ?_
  intro p e s m args below meth c A ls Q hE hQ
  obtain ⟨hx, hb, hml, hown, hts, hA, hP, hK, hD, hG, hl, hnm⟩ := hE
  replace hown : s.vm.findClass RX6 = some m.cls := hown
  have hiX6 : ∀ w ∈ u_ws RX6 TX6 10, w ∈ wsX6_onFelts := by decide +kernel
  have hf28 : (Cond.fieldLink RX6 28 "RagVatsModel" "numbers" "[I").before args s = true := hts _ (by decide +kernel)
  replace hl : lv_has ls 3 [(0, .ref (h 0))] := hl
  have hS : va_S A s.heap s.heap [] := va_S.rf
  have L4 : ∀ (k : Nat) (x1_4 : Int32) (x2_4 : Int32), fX6_onFelts_L4 posts nums k x1_4 x2_4 = some z → ∀ (H : Heap) (locs : List Loc) (ls : Array Slot), va_P D vwCl (wX6 cy h thrown pairs teams water vats moulds crews posts loft nums) H → va_D A (wX6 cy h thrown pairs teams water vats moulds crews posts loft nums) → va_S A s.heap H locs → lv_has ls 3 [(0, .ref (h 0)), (1, .int x1_4), (2, .int x2_4)] → W p l e rX6_onFelts s m args below meth c H locs 0 0 Q (F0 m 4 ls []) := by
    intro k
    induction k with
    | zero =>
      intro x1_4 x2_4 hF
      rw [fX6_onFelts_L4] at hF
      cases hF
    | succ k ih =>
      intro x1_4 x2_4 hF H locs ls hP hD hS hl
      rw [fX6_onFelts_L4] at hF
      refine lv_iload_n hx hb dX6_onFelts_4 rfl (lv_at hl 2 rfl) ?_
      refine lv_aload_n hx hb dX6_onFelts_5 rfl (lv_at hl 0 rfl) ?_
      refine va_get (D := D) (C := RX6) (T := TX6) (N := 10) hx hb hts hiX6 hown hK hP 0 gtX6_0 rfl 9 (by decide) hf28 (fun _ h9 => h9) rfl dX6_onFelts_6 ?_
      refine lv_iconst (v := 5) hx hb dX6_onFelts_9 (by decide) ?_
      refine va_iald hx hb hK hP 7 0 gtX6_7 rfl (show ¬ ((5 : Int32) < 0 ∨ 9 ≤ (5 : Int32).toNatClampNeg) from by decide) dX6_onFelts_10 ?_
      refine lv_icmp_ge (tgt := 29) hx hb dX6_onFelts_11 (by decide) (fun c_2 => ?_) (fun c_2 => ?_)
      · replace hF := if_t hF c_2
        refine lv_iload_n hx hb dX6_onFelts_29 rfl (lv_at hl 1 rfl) ?_
        cases hF
        exact hQ _ _ _ _ _ _ (fun _ => 0) dX6_onFelts_30 hP hD hS (Nat.le_of_ble_eq_true rfl) (Nat.le_of_ble_eq_true rfl)
      · replace hF := if_f hF c_2
        refine lv_iload_n hx hb dX6_onFelts_14 rfl (lv_at hl 1 rfl) ?_
        refine lv_aload_n hx hb dX6_onFelts_15 rfl (lv_at hl 0 rfl) ?_
        refine lv_iload_n hx hb dX6_onFelts_16 rfl (lv_at hl 2 rfl) ?_
        refine lv_iconst (v := 2) hx hb dX6_onFelts_17 (by decide) ?_
        replace hF := bnd_some hF
        obtain ⟨z3, hz_3, hF⟩ := hF
        refine krI (kV (As := [.int x2_4, .int 2]) ⟨hx, hb, hml, hown, hts⟩ (kX6_ps l D cy sa h thrown pairs teams water vats moulds crews posts loft nums x2_4 2 z3 hz_3 _) (cwV 2 hts gX6_onFelts_X6_ps rfl rfl rfl (by decide +kernel) ⟨Nat.le_of_ble_eq_true rfl, Nat.le_of_ble_eq_true rfl⟩) hK hP hD hS hA hG [0, 1, 2, 3, 4, 5, 6, 7] hcX6_X6_0 ndX6_0 gtX6_0 rfl rfl rfl hl.1 [.int x1_4] rfl (Nat.le_of_ble_eq_true rfl) dX6_onFelts_18 ⟨(Nat.le_of_ble_eq_true rfl), (Nat.le_of_ble_eq_true rfl)⟩) hP hD hS hA [0, 1, 2, 3, 4, 5, 6, 7] hcX6_X6_0 (fun H locs hP hS => ?_)
        refine lv_iadd hx hb dX6_onFelts_21 ?_
        refine lv_istore_n (lv' := [(1, .int (x1_4 + z3)), (0, .ref (h 0)), (2, .int x2_4)]) hx hb dX6_onFelts_22 rfl hl (by decide) rfl (fun ls hl => ?_)
        refine lv_iinc (v := x2_4 + 1) (lv' := [(2, .int (x2_4 + 1)), (1, .int (x1_4 + z3)), (0, .ref (h 0))]) hx hb dX6_onFelts_23 hl (k := 2) rfl rfl (by decide) rfl (fun ls hl => ?_)
        refine lv_goto (tgt := 4) hx hb dX6_onFelts_26 (by decide) ?_
        exact ih  (x1_4 + z3) (x2_4 + 1)  hF _ _ _ hP hD hS (lv_sub hl [2, 1, 0] rfl)
  unfold fX6_onFelts at hF
  refine lv_iconst (v := 0) hx hb dX6_onFelts_0 (by decide) ?_
  refine lv_istore_n (lv' := [(1, .int 0), (0, .ref (h 0))]) hx hb dX6_onFelts_1 rfl hl (by decide) rfl (fun ls hl => ?_)
  refine lv_iconst (v := 0) hx hb dX6_onFelts_2 (by decide) ?_
  refine lv_istore_n (lv' := [(2, .int 0), (1, .int 0), (0, .ref (h 0))]) hx hb dX6_onFelts_3 rfl hl (by decide) rfl (fun ls hl => ?_)
  exact L4 300 0 0  hF _ _ _ hP hD hS (lv_sub hl [2, 1, 0] rfl)

def fX6_free (posts : FN) (nums : FN) : Option (Int32) := (fX6_onFelts posts nums).bind fun z2 => some ((nums (2 : Int32).toNatClampNeg) - z2)
abbrev rX6_free : Room := { frames := 2, cells := 0, slots := 0, locals := 44 }
set_option maxHeartbeats 4000000 in
set_option maxRecDepth 100000 in
theorem kX6_free (l : Launch) (D : va_G) (cy : Nat → ClassId) (sa : Nat → Nat) (h : Nat → Nat) (thrown : Int32) (pairs : Int32) (teams : Int32) (water : FN) (vats : FN) (moulds : FN) (crews : FN) (posts : FN) (loft : FN) (nums : FN) (z : Int32) (hF : fX6_free posts nums = some z) : KI l D (tyW cy) sa yX6_free wsX6_free rX6_free [.ref (h 0)] (wX6 cy h thrown pairs teams water vats moulds crews posts loft nums) z (fun _ => wX6 cy h thrown pairs teams water vats moulds crews posts loft nums) 0 0 := by
  refine KI.of (cc := cX6_free) (maxL := 1) (by decide +kernel) rfl (Nat.le_of_ble_eq_true rfl) ?_
  intro p e s m args below meth c A ls Q hE hQ
  obtain ⟨hx, hb, hml, hown, hts, hA, hP, hK, hD, hG, hl, hnm⟩ := hE
  replace hown : s.vm.findClass RX6 = some m.cls := hown
  have hiX6 : ∀ w ∈ u_ws RX6 TX6 10, w ∈ wsX6_free := by decide +kernel
  have hf28 : (Cond.fieldLink RX6 28 "RagVatsModel" "numbers" "[I").before args s = true := hts _ (by decide +kernel)
  replace hl : lv_has ls 1 [(0, .ref (h 0))] := hl
  have hS : va_S A s.heap s.heap [] := va_S.rf
  unfold fX6_free at hF
  refine lv_aload_n hx hb dX6_free_0 rfl (lv_at hl 0 rfl) ?_
  refine va_get (D := D) (C := RX6) (T := TX6) (N := 10) hx hb hts hiX6 hown hK hP 0 gtX6_0 rfl 9 (by decide) hf28 (fun _ h9 => h9) rfl dX6_free_1 ?_
  refine lv_iconst (v := 2) hx hb dX6_free_4 (by decide) ?_
  refine va_iald hx hb hK hP 7 0 gtX6_7 rfl (show ¬ ((2 : Int32) < 0 ∨ 9 ≤ (2 : Int32).toNatClampNeg) from by decide) dX6_free_5 ?_
  refine lv_aload_n hx hb dX6_free_6 rfl (lv_at hl 0 rfl) ?_
  replace hF := bnd_some hF
  obtain ⟨z2, hz_2, hF⟩ := hF
  refine krI (kV (As := []) ⟨hx, hb, hml, hown, hts⟩ (kX6_onFelts l D cy sa h thrown pairs teams water vats moulds crews posts loft nums z2 hz_2 _) (cwV 0 hts gX6_free_X6_onFelts rfl rfl rfl (by decide +kernel) ⟨Nat.le_of_ble_eq_true rfl, Nat.le_of_ble_eq_true rfl⟩) hK hP hD hS hA hG [0, 1, 2, 3, 4, 5, 6, 7] hcX6_X6_0 ndX6_0 gtX6_0 rfl rfl rfl hl.1 [.int (nums (2 : Int32).toNatClampNeg)] rfl (Nat.le_of_ble_eq_true rfl) dX6_free_7 ⟨(Nat.le_of_ble_eq_true rfl), (Nat.le_of_ble_eq_true rfl)⟩) hP hD hS hA [0, 1, 2, 3, 4, 5, 6, 7] hcX6_X6_0 (fun H locs hP hS => ?_)
  refine lv_isub hx hb dX6_free_10 ?_
  cases hF
  exact hQ _ _ _ _ _ _ (fun _ => 0) dX6_free_11 hP hD hS (Nat.le_of_ble_eq_true rfl) (Nat.le_of_ble_eq_true rfl)

def fX6_worth (a1 : Int32) : Option (Int32) := if a1 = 0 then some 12 else if a1 = 1 then some 7 else some 3
abbrev rX6_worth : Room := { frames := 0, cells := 0, slots := 0, locals := 0 }
set_option maxHeartbeats 4000000 in
set_option maxRecDepth 100000 in
theorem kX6_worth (l : Launch) (D : va_G) (cy : Nat → ClassId) (sa : Nat → Nat) (a1 : Int32) (z : Int32) (hF : fX6_worth a1 = some z) : KI l D (tyW cy) sa yX6_worth wsX6_worth rX6_worth [.int a1] (([] : va_W)) z (fun _ => ([] : va_W)) 0 0 := by
  refine KI.of (cc := cX6_worth) (maxL := 1) (by decide +kernel) rfl (Nat.le_of_ble_eq_true rfl) ?_
  intro p e s m args below meth c A ls Q hE hQ
  obtain ⟨hx, hb, hml, hown, hts, hA, hP, hK, hD, hG, hl, hnm⟩ := hE
  replace hown : s.vm.findClass RX6 = some m.cls := hown
  replace hl : lv_has ls 1 [(0, .int a1)] := hl
  have hS : va_S A s.heap s.heap [] := va_S.rf
  unfold fX6_worth at hF
  refine lv_iload_n hx hb dX6_worth_0 rfl (lv_at hl 0 rfl) ?_
  refine lv_if_ne (tgt := 9) hx hb dX6_worth_1 (by decide) (fun c_1 => ?_) (fun c_1 => ?_)
  · replace hF := if_f hF c_1
    refine lv_iload_n hx hb dX6_worth_9 rfl (lv_at hl 0 rfl) ?_
    refine lv_iconst (v := 1) hx hb dX6_worth_10 (by decide) ?_
    refine lv_icmp_ne (tgt := 19) hx hb dX6_worth_11 (by decide) (fun c_2 => ?_) (fun c_2 => ?_)
    · replace hF := if_f hF c_2
      refine lv_iconst (v := 3) hx hb dX6_worth_19 (by decide) ?_
      cases hF
      exact hQ _ _ _ _ _ _ (fun _ => 0) dX6_worth_20 hP hD hS (Nat.le_of_ble_eq_true rfl) (Nat.le_of_ble_eq_true rfl)
    · replace hF := if_t hF c_2
      refine lv_bipush (v := 7) hx hb dX6_worth_14 (by decide) ?_
      refine lv_goto (tgt := 20) hx hb dX6_worth_16 (by decide) ?_
      cases hF
      exact hQ _ _ _ _ _ _ (fun _ => 0) dX6_worth_20 hP hD hS (Nat.le_of_ble_eq_true rfl) (Nat.le_of_ble_eq_true rfl)
  · replace hF := if_t hF c_1
    refine lv_bipush (v := 12) hx hb dX6_worth_4 (by decide) ?_
    refine lv_goto (tgt := 20) hx hb dX6_worth_6 (by decide) ?_
    cases hF
    exact hQ _ _ _ _ _ _ (fun _ => 0) dX6_worth_20 hP hD hS (Nat.le_of_ble_eq_true rfl) (Nat.le_of_ble_eq_true rfl)

def fX6_buy_L110 (a2 : Int32) (thrown_110 : Int32) (nums_110 : FN) (s0_110 : Int32) : Option (Int32 × Int32 × FN) := ckI s0_110 9 (ckI s0_110 9 (ckI s0_110 9 (some ((upd nums_110 s0_110.toNatClampNeg ((nums_110 s0_110.toNatClampNeg) + a2)) s0_110.toNatClampNeg, thrown_110, upd nums_110 s0_110.toNatClampNeg ((nums_110 s0_110.toNatClampNeg) + a2)))))
def fX6_buy_L87 (nums : FN) (a1 : Int32) (a2 : Int32) (thrown_87 : Int32) (x3_87 : Int32) : Option (Int32 × Int32 × FN) := if a1 = 3 then fX6_buy_L110 a2 thrown_87 (upd nums (1 : Int32).toNatClampNeg ((nums (1 : Int32).toNatClampNeg) - x3_87)) 2 else fX6_buy_L110 a2 thrown_87 (upd nums (1 : Int32).toNatClampNeg ((nums (1 : Int32).toNatClampNeg) - x3_87)) (6 + a1)
def fX6_buy_L52 (nums : FN) (a1 : Int32) (a2 : Int32) (thrown_52 : Int32) (s0_52 : Int32) : Option (Int32 × Int32 × FN) := if (nums (1 : Int32).toNatClampNeg) < s0_52 then (fX6_fail 3).bind fun z8 => some (z8.1, z8.2, nums) else if a1 = 3 then if ((nums (2 : Int32).toNatClampNeg) + a2) ≤ 90 then fX6_buy_L87 nums a1 a2 thrown_52 s0_52 else (fX6_fail 3).bind fun z18 => some (z18.1, z18.2, nums) else fX6_buy_L87 nums a1 a2 thrown_52 s0_52
def fX6_buy (nums : FN) (a1 : Int32) (a2 : Int32) : Option (Int32 × Int32 × FN) := (fX6_isIn a1 0 3).bind fun z1 => if z1 = 0 then (fX6_fail 1).bind fun z20 => some (z20.1, z20.2, nums) else (fX6_isIn a2 1 99).bind fun z3 => if z3 = 0 then (fX6_fail 2).bind fun z19 => some (z19.1, z19.2, nums) else if a1 = 3 then fX6_buy_L52 nums a1 a2 0 (2 * a2) else fX6_buy_L52 nums a1 a2 0 ((3 - a1) * a2)
abbrev rX6_buy : Room := { frames := 1, cells := 0, slots := 0, locals := 22 }
set_option maxHeartbeats 4000000 in
set_option maxRecDepth 100000 in
theorem kX6_buy (l : Launch) (D : va_G) (cy : Nat → ClassId) (sa : Nat → Nat) (h : Nat → Nat) (thrown : Int32) (pairs : Int32) (teams : Int32) (water : FN) (vats : FN) (moulds : FN) (crews : FN) (posts : FN) (loft : FN) (nums : FN) (a1 : Int32) (a2 : Int32) (z : Int32 × Int32 × FN) (hF : fX6_buy nums a1 a2 = some z) : KI l D (tyW cy) sa yX6_buy wsX6_buy rX6_buy [.ref (h 0), .int a1, .int a2] (wX6 cy h thrown pairs teams water vats moulds crews posts loft nums) z.1 (fun _ => wX6 cy h z.2.1 pairs teams water vats moulds crews posts loft z.2.2) 0 0 := by
  refine KI.of (cc := cX6_buy) (maxL := 5) (by decide +kernel) rfl (Nat.le_of_ble_eq_true rfl) ?_
  intro p e s m args below meth c A ls Q hE hQ
  obtain ⟨hx, hb, hml, hown, hts, hA, hP, hK, hD, hG, hl, hnm⟩ := hE
  replace hown : s.vm.findClass RX6 = some m.cls := hown
  have hiX6 : ∀ w ∈ u_ws RX6 TX6 10, w ∈ wsX6_buy := by decide +kernel
  have hf28 : (Cond.fieldLink RX6 28 "RagVatsModel" "numbers" "[I").before args s = true := hts _ (by decide +kernel)
  have hf31 : (Cond.fieldLink RX6 31 "RagVatsModel" "thrown" "I").before args s = true := hts _ (by decide +kernel)
  replace hl : lv_has ls 5 [(0, .ref (h 0)), (1, .int a1), (2, .int a2)] := hl
  have hS : va_S A s.heap s.heap [] := va_S.rf
  have L110 : ∀ (thrown_110 : Int32) (nums_110 : FN) (s0_110 : Int32), fX6_buy_L110 a2 thrown_110 nums_110 s0_110 = some z → ∀ (H : Heap) (locs : List Loc) (ls : Array Slot), va_P D vwCl (wX6 cy h thrown_110 pairs teams water vats moulds crews posts loft nums_110) H → va_D A (wX6 cy h thrown_110 pairs teams water vats moulds crews posts loft nums_110) → va_S A s.heap H locs → lv_has ls 5 [(0, .ref (h 0)), (2, .int a2)] → W p l e rX6_buy s m args below meth c H locs 0 0 Q (F0 m 110 ls [.int s0_110]) := by
    intro thrown_110 nums_110 s0_110 hF H locs ls hP hD hS hl
    unfold fX6_buy_L110 at hF
    refine lv_istore (lv' := [(4, .int s0_110), (0, .ref (h 0)), (2, .int a2)]) hx hb dX6_buy_110 hl (by decide) rfl (fun ls hl => ?_)
    refine lv_aload_n hx hb dX6_buy_112 rfl (lv_at hl 1 rfl) ?_
    refine va_get (D := D) (C := RX6) (T := TX6) (N := 10) hx hb hts hiX6 hown hK hP 0 gtX6_0 rfl 9 (by decide) hf28 (fun _ h9 => h9) rfl dX6_buy_113 ?_
    refine lv_iload hx hb dX6_buy_116 (lv_at hl 0 rfl) ?_
    refine lv_dup2_11 hx hb dX6_buy_118 rfl rfl ?_
    replace hF := ckI_some hF
    obtain ⟨hi_13, hF⟩ := hF
    refine va_iald hx hb hK hP 7 0 gtX6_7 rfl hi_13 dX6_buy_119 ?_
    refine lv_iload_n hx hb dX6_buy_120 rfl (lv_at hl 2 rfl) ?_
    refine lv_iadd hx hb dX6_buy_121 ?_
    replace hF := ckI_some hF
    obtain ⟨hi_14, hF⟩ := hF
    refine va_iast hx hb hK hP hD hS 7 0 gtX6_7 rfl hi_14 dX6_buy_122 (fun H locs hP hD hS => ?_)
    rw [stX6_7] at hP hD
    refine lv_aload_n hx hb dX6_buy_123 rfl (lv_at hl 1 rfl) ?_
    refine va_get (D := D) (C := RX6) (T := TX6) (N := 10) hx hb hts hiX6 hown hK hP 0 gtX6_0 rfl 9 (by decide) hf28 (fun _ h9 => h9) rfl dX6_buy_124 ?_
    refine lv_iload hx hb dX6_buy_127 (lv_at hl 0 rfl) ?_
    replace hF := ckI_some hF
    obtain ⟨hi_15, hF⟩ := hF
    refine va_iald hx hb hK hP 7 0 gtX6_7 rfl hi_15 dX6_buy_129 ?_
    cases hF
    exact hQ _ _ _ _ _ _ (fun _ => 0) dX6_buy_130 hP hD hS (Nat.le_of_ble_eq_true rfl) (Nat.le_of_ble_eq_true rfl)
  have L87 : ∀ (thrown_87 : Int32) (x3_87 : Int32), fX6_buy_L87 nums a1 a2 thrown_87 x3_87 = some z → ∀ (H : Heap) (locs : List Loc) (ls : Array Slot), va_P D vwCl (wX6 cy h thrown_87 pairs teams water vats moulds crews posts loft nums) H → va_D A (wX6 cy h thrown_87 pairs teams water vats moulds crews posts loft nums) → va_S A s.heap H locs → lv_has ls 5 [(0, .ref (h 0)), (1, .int a1), (2, .int a2), (3, .int x3_87)] → W p l e rX6_buy s m args below meth c H locs 0 0 Q (F0 m 87 ls []) := by
    intro thrown_87 x3_87 hF H locs ls hP hD hS hl
    unfold fX6_buy_L87 at hF
    refine lv_aload_n hx hb dX6_buy_87 rfl (lv_at hl 0 rfl) ?_
    refine va_get (D := D) (C := RX6) (T := TX6) (N := 10) hx hb hts hiX6 hown hK hP 0 gtX6_0 rfl 9 (by decide) hf28 (fun _ h9 => h9) rfl dX6_buy_88 ?_
    refine lv_iconst (v := 1) hx hb dX6_buy_91 (by decide) ?_
    refine lv_dup2_11 hx hb dX6_buy_92 rfl rfl ?_
    refine va_iald hx hb hK hP 7 0 gtX6_7 rfl (show ¬ ((1 : Int32) < 0 ∨ 9 ≤ (1 : Int32).toNatClampNeg) from by decide) dX6_buy_93 ?_
    refine lv_iload_n hx hb dX6_buy_94 rfl (lv_at hl 3 rfl) ?_
    refine lv_isub hx hb dX6_buy_95 ?_
    refine va_iast hx hb hK hP hD hS 7 0 gtX6_7 rfl (show ¬ ((1 : Int32) < 0 ∨ 9 ≤ (1 : Int32).toNatClampNeg) from by decide) dX6_buy_96 (fun H locs hP hD hS => ?_)
    rw [stX6_7] at hP hD
    refine lv_iload_n hx hb dX6_buy_97 rfl (lv_at hl 1 rfl) ?_
    refine lv_iconst (v := 3) hx hb dX6_buy_98 (by decide) ?_
    refine lv_icmp_ne (tgt := 106) hx hb dX6_buy_99 (by decide) (fun c_12 => ?_) (fun c_12 => ?_)
    · replace hF := if_f hF c_12
      refine lv_bipush (v := 6) hx hb dX6_buy_106 (by decide) ?_
      refine lv_iload_n hx hb dX6_buy_108 rfl (lv_at hl 1 rfl) ?_
      refine lv_iadd hx hb dX6_buy_109 ?_
      exact L110  thrown_87 (upd nums (1 : Int32).toNatClampNeg ((nums (1 : Int32).toNatClampNeg) - x3_87)) (6 + a1)  hF _ _ _ hP hD hS (lv_sub hl [0, 2] rfl)
    · replace hF := if_t hF c_12
      refine lv_iconst (v := 2) hx hb dX6_buy_102 (by decide) ?_
      refine lv_goto (tgt := 110) hx hb dX6_buy_103 (by decide) ?_
      exact L110  thrown_87 (upd nums (1 : Int32).toNatClampNeg ((nums (1 : Int32).toNatClampNeg) - x3_87)) 2  hF _ _ _ hP hD hS (lv_sub hl [0, 2] rfl)
  have L52 : ∀ (thrown_52 : Int32) (s0_52 : Int32), fX6_buy_L52 nums a1 a2 thrown_52 s0_52 = some z → ∀ (H : Heap) (locs : List Loc) (ls : Array Slot), va_P D vwCl (wX6 cy h thrown_52 pairs teams water vats moulds crews posts loft nums) H → va_D A (wX6 cy h thrown_52 pairs teams water vats moulds crews posts loft nums) → va_S A s.heap H locs → lv_has ls 5 [(0, .ref (h 0)), (1, .int a1), (2, .int a2)] → W p l e rX6_buy s m args below meth c H locs 0 0 Q (F0 m 52 ls [.int s0_52]) := by
    intro thrown_52 s0_52 hF H locs ls hP hD hS hl
    unfold fX6_buy_L52 at hF
    refine lv_istore_n (lv' := [(3, .int s0_52), (0, .ref (h 0)), (1, .int a1), (2, .int a2)]) hx hb dX6_buy_52 rfl hl (by decide) rfl (fun ls hl => ?_)
    refine lv_aload_n hx hb dX6_buy_53 rfl (lv_at hl 1 rfl) ?_
    refine va_get (D := D) (C := RX6) (T := TX6) (N := 10) hx hb hts hiX6 hown hK hP 0 gtX6_0 rfl 9 (by decide) hf28 (fun _ h9 => h9) rfl dX6_buy_54 ?_
    refine lv_iconst (v := 1) hx hb dX6_buy_57 (by decide) ?_
    refine va_iald hx hb hK hP 7 0 gtX6_7 rfl (show ¬ ((1 : Int32) < 0 ∨ 9 ≤ (1 : Int32).toNatClampNeg) from by decide) dX6_buy_58 ?_
    refine lv_iload_n hx hb dX6_buy_59 rfl (lv_at hl 0 rfl) ?_
    refine lv_icmp_lt (tgt := 81) hx hb dX6_buy_60 (by decide) (fun c_7 => ?_) (fun c_7 => ?_)
    · replace hF := if_t hF c_7
      refine lv_aload_n hx hb dX6_buy_81 rfl (lv_at hl 1 rfl) ?_
      refine lv_iconst (v := 3) hx hb dX6_buy_82 (by decide) ?_
      replace hF := bnd_some hF
      obtain ⟨z8, hz_8, hF⟩ := hF
      refine kwIE (kV (As := [.int 3]) ⟨hx, hb, hml, hown, hts⟩ (kX6_fail l D cy sa h thrown_52 pairs teams water vats moulds crews posts loft nums 3 z8 hz_8 _) (cwV 1 hts gX6_buy_X6_fail rfl rfl rfl (by decide +kernel) ⟨Nat.le_of_ble_eq_true rfl, Nat.le_of_ble_eq_true rfl⟩) hK hP hD hS hA hG [0, 1, 2, 3, 4, 5, 6, 7] hcX6_X6_0 ndX6_0 gtX6_0 rfl rfl rfl hl.1 [] rfl (Nat.le_of_ble_eq_true rfl) dX6_buy_83 ⟨(Nat.le_of_ble_eq_true rfl), (Nat.le_of_ble_eq_true rfl)⟩) hP hD hS hA [0, 1, 2, 3, 4, 5, 6, 7] hcX6_X6_0 hmX6 kpX6_X6_0 (fun H locs hP hD hS => ?_)
      cases hF
      exact hQ _ _ _ _ _ _ (fun _ => 0) dX6_buy_86 hP hD hS (Nat.le_of_ble_eq_true rfl) (Nat.le_of_ble_eq_true rfl)
    · replace hF := if_f hF c_7
      refine lv_iload_n hx hb dX6_buy_63 rfl (lv_at hl 2 rfl) ?_
      refine lv_iconst (v := 3) hx hb dX6_buy_64 (by decide) ?_
      refine lv_icmp_ne (tgt := 87) hx hb dX6_buy_65 (by decide) (fun c_9 => ?_) (fun c_9 => ?_)
      · replace hF := if_f hF c_9
        exact L87  thrown_52 s0_52  hF _ _ _ hP hD hS (lv_sub hl [1, 2, 3, 0] rfl)
      · replace hF := if_t hF c_9
        refine lv_aload_n hx hb dX6_buy_68 rfl (lv_at hl 1 rfl) ?_
        refine va_get (D := D) (C := RX6) (T := TX6) (N := 10) hx hb hts hiX6 hown hK hP 0 gtX6_0 rfl 9 (by decide) hf28 (fun _ h9 => h9) rfl dX6_buy_69 ?_
        refine lv_iconst (v := 2) hx hb dX6_buy_72 (by decide) ?_
        refine va_iald hx hb hK hP 7 0 gtX6_7 rfl (show ¬ ((2 : Int32) < 0 ∨ 9 ≤ (2 : Int32).toNatClampNeg) from by decide) dX6_buy_73 ?_
        refine lv_iload_n hx hb dX6_buy_74 rfl (lv_at hl 3 rfl) ?_
        refine lv_iadd hx hb dX6_buy_75 ?_
        refine lv_bipush (v := 90) hx hb dX6_buy_76 (by decide) ?_
        refine lv_icmp_le (tgt := 87) hx hb dX6_buy_78 (by decide) (fun c_17 => ?_) (fun c_17 => ?_)
        · replace hF := if_t hF c_17
          exact L87  thrown_52 s0_52  hF _ _ _ hP hD hS (lv_sub hl [1, 2, 3, 0] rfl)
        · replace hF := if_f hF c_17
          refine lv_aload_n hx hb dX6_buy_81 rfl (lv_at hl 1 rfl) ?_
          refine lv_iconst (v := 3) hx hb dX6_buy_82 (by decide) ?_
          replace hF := bnd_some hF
          obtain ⟨z18, hz_18, hF⟩ := hF
          refine kwIE (kV (As := [.int 3]) ⟨hx, hb, hml, hown, hts⟩ (kX6_fail l D cy sa h thrown_52 pairs teams water vats moulds crews posts loft nums 3 z18 hz_18 _) (cwV 1 hts gX6_buy_X6_fail rfl rfl rfl (by decide +kernel) ⟨Nat.le_of_ble_eq_true rfl, Nat.le_of_ble_eq_true rfl⟩) hK hP hD hS hA hG [0, 1, 2, 3, 4, 5, 6, 7] hcX6_X6_0 ndX6_0 gtX6_0 rfl rfl rfl hl.1 [] rfl (Nat.le_of_ble_eq_true rfl) dX6_buy_83 ⟨(Nat.le_of_ble_eq_true rfl), (Nat.le_of_ble_eq_true rfl)⟩) hP hD hS hA [0, 1, 2, 3, 4, 5, 6, 7] hcX6_X6_0 hmX6 kpX6_X6_0 (fun H locs hP hD hS => ?_)
          cases hF
          exact hQ _ _ _ _ _ _ (fun _ => 0) dX6_buy_86 hP hD hS (Nat.le_of_ble_eq_true rfl) (Nat.le_of_ble_eq_true rfl)
  unfold fX6_buy at hF
  refine lv_aload_n hx hb dX6_buy_0 rfl (lv_at hl 0 rfl) ?_
  refine lv_iconst (v := 0) hx hb dX6_buy_1 (by decide) ?_
  refine va_put (D := D) (v := .int 0) (ty := .int) (C := RX6) (T := TX6) (N := 10) hx hb hts hiX6 tyX6 tyX6_ok nmX6 hown hK hP hD hS 0 gtX6_0 rfl 0 (by decide) hf31 (fun _ h9 => h9) rfl (by decide +kernel) rfl rfl (Nat.le_of_ble_eq_true rfl) dX6_buy_2 (fun H locs hP hD hS => ?_)
  rw [stX6_0_0] at hP hD
  refine lv_iload_n hx hb dX6_buy_5 rfl (lv_at hl 1 rfl) ?_
  refine lv_iconst (v := 0) hx hb dX6_buy_6 (by decide) ?_
  refine lv_iconst (v := 3) hx hb dX6_buy_7 (by decide) ?_
  replace hF := bnd_some hF
  obtain ⟨z1, hz_1, hF⟩ := hF
  refine krI (kS (As := [.int a1, .int 0, .int 3]) ⟨hx, hb, hml, hown, hts⟩ (kX6_isIn l D cy sa a1 0 3 z1 hz_1 _) (cwS 3 hts gX6_buy_X6_isIn rfl rfl rfl (by decide +kernel) ⟨Nat.le_of_ble_eq_true rfl, Nat.le_of_ble_eq_true rfl⟩) hK hP hD hS hA hG [] rfl rfl rfl hl.1 [] rfl (Nat.le_of_ble_eq_true rfl) dX6_buy_8 ⟨(Nat.le_of_ble_eq_true rfl), (Nat.le_of_ble_eq_true rfl)⟩) hP hD hS hA [] rfl (fun H locs hP hS => ?_)
  refine lv_if_ne (tgt := 20) hx hb dX6_buy_11 (by decide) (fun c_2 => ?_) (fun c_2 => ?_)
  · replace hF := if_f hF c_2
    refine lv_iload_n hx hb dX6_buy_20 rfl (lv_at hl 2 rfl) ?_
    refine lv_iconst (v := 1) hx hb dX6_buy_21 (by decide) ?_
    refine lv_bipush (v := 99) hx hb dX6_buy_22 (by decide) ?_
    replace hF := bnd_some hF
    obtain ⟨z3, hz_3, hF⟩ := hF
    refine krI (kS (As := [.int a2, .int 1, .int 99]) ⟨hx, hb, hml, hown, hts⟩ (kX6_isIn l D cy sa a2 1 99 z3 hz_3 _) (cwS 3 hts gX6_buy_X6_isIn rfl rfl rfl (by decide +kernel) ⟨Nat.le_of_ble_eq_true rfl, Nat.le_of_ble_eq_true rfl⟩) hK hP hD hS hA hG [] rfl rfl rfl hl.1 [] rfl (Nat.le_of_ble_eq_true rfl) dX6_buy_24 ⟨(Nat.le_of_ble_eq_true rfl), (Nat.le_of_ble_eq_true rfl)⟩) hP hD hS hA [] rfl (fun H locs hP hS => ?_)
    refine lv_if_ne (tgt := 36) hx hb dX6_buy_27 (by decide) (fun c_4 => ?_) (fun c_4 => ?_)
    · replace hF := if_f hF c_4
      refine lv_iload_n hx hb dX6_buy_36 rfl (lv_at hl 1 rfl) ?_
      refine lv_iconst (v := 3) hx hb dX6_buy_37 (by decide) ?_
      refine lv_icmp_ne (tgt := 47) hx hb dX6_buy_38 (by decide) (fun c_5 => ?_) (fun c_5 => ?_)
      · replace hF := if_f hF c_5
        refine lv_iconst (v := 3) hx hb dX6_buy_47 (by decide) ?_
        refine lv_iload_n hx hb dX6_buy_48 rfl (lv_at hl 1 rfl) ?_
        refine lv_isub hx hb dX6_buy_49 ?_
        refine lv_iload_n hx hb dX6_buy_50 rfl (lv_at hl 2 rfl) ?_
        refine lv_imul hx hb dX6_buy_51 ?_
        exact L52  0 ((3 - a1) * a2)  hF _ _ _ hP hD hS (lv_sub hl [0, 1, 2] rfl)
      · replace hF := if_t hF c_5
        refine lv_iconst (v := 2) hx hb dX6_buy_41 (by decide) ?_
        refine lv_iload_n hx hb dX6_buy_42 rfl (lv_at hl 2 rfl) ?_
        refine lv_imul hx hb dX6_buy_43 ?_
        refine lv_goto (tgt := 52) hx hb dX6_buy_44 (by decide) ?_
        exact L52  0 (2 * a2)  hF _ _ _ hP hD hS (lv_sub hl [0, 1, 2] rfl)
    · replace hF := if_t hF c_4
      refine lv_aload_n hx hb dX6_buy_30 rfl (lv_at hl 0 rfl) ?_
      refine lv_iconst (v := 2) hx hb dX6_buy_31 (by decide) ?_
      replace hF := bnd_some hF
      obtain ⟨z19, hz_19, hF⟩ := hF
      refine kwIE (kV (As := [.int 2]) ⟨hx, hb, hml, hown, hts⟩ (kX6_fail l D cy sa h 0 pairs teams water vats moulds crews posts loft nums 2 z19 hz_19 _) (cwV 1 hts gX6_buy_X6_fail rfl rfl rfl (by decide +kernel) ⟨Nat.le_of_ble_eq_true rfl, Nat.le_of_ble_eq_true rfl⟩) hK hP hD hS hA hG [0, 1, 2, 3, 4, 5, 6, 7] hcX6_X6_0 ndX6_0 gtX6_0 rfl rfl rfl hl.1 [] rfl (Nat.le_of_ble_eq_true rfl) dX6_buy_32 ⟨(Nat.le_of_ble_eq_true rfl), (Nat.le_of_ble_eq_true rfl)⟩) hP hD hS hA [0, 1, 2, 3, 4, 5, 6, 7] hcX6_X6_0 hmX6 kpX6_X6_0 (fun H locs hP hD hS => ?_)
      cases hF
      exact hQ _ _ _ _ _ _ (fun _ => 0) dX6_buy_35 hP hD hS (Nat.le_of_ble_eq_true rfl) (Nat.le_of_ble_eq_true rfl)
  · replace hF := if_t hF c_2
    refine lv_aload_n hx hb dX6_buy_14 rfl (lv_at hl 0 rfl) ?_
    refine lv_iconst (v := 1) hx hb dX6_buy_15 (by decide) ?_
    replace hF := bnd_some hF
    obtain ⟨z20, hz_20, hF⟩ := hF
    refine kwIE (kV (As := [.int 1]) ⟨hx, hb, hml, hown, hts⟩ (kX6_fail l D cy sa h 0 pairs teams water vats moulds crews posts loft nums 1 z20 hz_20 _) (cwV 1 hts gX6_buy_X6_fail rfl rfl rfl (by decide +kernel) ⟨Nat.le_of_ble_eq_true rfl, Nat.le_of_ble_eq_true rfl⟩) hK hP hD hS hA hG [0, 1, 2, 3, 4, 5, 6, 7] hcX6_X6_0 ndX6_0 gtX6_0 rfl rfl rfl hl.1 [] rfl (Nat.le_of_ble_eq_true rfl) dX6_buy_16 ⟨(Nat.le_of_ble_eq_true rfl), (Nat.le_of_ble_eq_true rfl)⟩) hP hD hS hA [0, 1, 2, 3, 4, 5, 6, 7] hcX6_X6_0 hmX6 kpX6_X6_0 (fun H locs hP hD hS => ?_)
    cases hF
    exact hQ _ _ _ _ _ _ (fun _ => 0) dX6_buy_19 hP hD hS (Nat.le_of_ble_eq_true rfl) (Nat.le_of_ble_eq_true rfl)

def fX6_sell (loft : FN) (nums : FN) (a1 : Int32) (a2 : Int32) (a3 : Int32) : Option (Int32 × Int32 × FN × FN) := (fX6_isIn a1 0 9).bind fun z1 => if z1 = 0 then (fX6_fail 1).bind fun z3 => some (z3.1, z3.2, loft, nums) else (fX6_isIn a2 0 2).bind fun z4 => if z4 = 0 then (fX6_fail 1).bind fun z18 => some (z18.1, z18.2, loft, nums) else (fX6_isIn a3 1 9).bind fun z6 => if z6 = 0 then (fX6_fail 2).bind fun z17 => some (z17.1, z17.2, loft, nums) else ckI ((3 * a1) + a2) 30 (if (24 * a3) ≤ (loft ((3 * a1) + a2).toNatClampNeg) then ckI ((3 * a1) + a2) 30 (ckI ((3 * a1) + a2) 30 ((fX6_worth a2).bind fun z13 => (fX6_worth a2).bind fun z15 => some (z15 * a3, 0, upd loft ((3 * a1) + a2).toNatClampNeg ((loft ((3 * a1) + a2).toNatClampNeg) - (24 * a3)), upd nums (1 : Int32).toNatClampNeg ((nums (1 : Int32).toNatClampNeg) + (z13 * a3))))) else (fX6_fail 3).bind fun z16 => some (z16.1, z16.2, loft, nums))
abbrev rX6_sell : Room := { frames := 1, cells := 0, slots := 0, locals := 22 }
set_option maxHeartbeats 4000000 in
set_option maxRecDepth 100000 in
theorem kX6_sell (l : Launch) (D : va_G) (cy : Nat → ClassId) (sa : Nat → Nat) (h : Nat → Nat) (thrown : Int32) (pairs : Int32) (teams : Int32) (water : FN) (vats : FN) (moulds : FN) (crews : FN) (posts : FN) (loft : FN) (nums : FN) (a1 : Int32) (a2 : Int32) (a3 : Int32) (z : Int32 × Int32 × FN × FN) (hF : fX6_sell loft nums a1 a2 a3 = some z) : KI l D (tyW cy) sa yX6_sell wsX6_sell rX6_sell [.ref (h 0), .int a1, .int a2, .int a3] (wX6 cy h thrown pairs teams water vats moulds crews posts loft nums) z.1 (fun _ => wX6 cy h z.2.1 pairs teams water vats moulds crews posts z.2.2.1 z.2.2.2) 0 0 := by
  refine KI.of (cc := cX6_sell) (maxL := 4) (by decide +kernel) rfl (Nat.le_of_ble_eq_true rfl) ?_
  intro p e s m args below meth c A ls Q hE hQ
  obtain ⟨hx, hb, hml, hown, hts, hA, hP, hK, hD, hG, hl, hnm⟩ := hE
  replace hown : s.vm.findClass RX6 = some m.cls := hown
  have hiX6 : ∀ w ∈ u_ws RX6 TX6 10, w ∈ wsX6_sell := by decide +kernel
  have hf25 : (Cond.fieldLink RX6 25 "RagVatsModel" "loft" "[I").before args s = true := hts _ (by decide +kernel)
  have hf28 : (Cond.fieldLink RX6 28 "RagVatsModel" "numbers" "[I").before args s = true := hts _ (by decide +kernel)
  have hf31 : (Cond.fieldLink RX6 31 "RagVatsModel" "thrown" "I").before args s = true := hts _ (by decide +kernel)
  replace hl : lv_has ls 4 [(0, .ref (h 0)), (1, .int a1), (2, .int a2), (3, .int a3)] := hl
  have hS : va_S A s.heap s.heap [] := va_S.rf
  unfold fX6_sell at hF
  refine lv_aload_n hx hb dX6_sell_0 rfl (lv_at hl 0 rfl) ?_
  refine lv_iconst (v := 0) hx hb dX6_sell_1 (by decide) ?_
  refine va_put (D := D) (v := .int 0) (ty := .int) (C := RX6) (T := TX6) (N := 10) hx hb hts hiX6 tyX6 tyX6_ok nmX6 hown hK hP hD hS 0 gtX6_0 rfl 0 (by decide) hf31 (fun _ h9 => h9) rfl (by decide +kernel) rfl rfl (Nat.le_of_ble_eq_true rfl) dX6_sell_2 (fun H locs hP hD hS => ?_)
  rw [stX6_0_0] at hP hD
  refine lv_iload_n hx hb dX6_sell_5 rfl (lv_at hl 1 rfl) ?_
  refine lv_iconst (v := 0) hx hb dX6_sell_6 (by decide) ?_
  refine lv_bipush (v := 9) hx hb dX6_sell_7 (by decide) ?_
  replace hF := bnd_some hF
  obtain ⟨z1, hz_1, hF⟩ := hF
  refine krI (kS (As := [.int a1, .int 0, .int 9]) ⟨hx, hb, hml, hown, hts⟩ (kX6_isIn l D cy sa a1 0 9 z1 hz_1 _) (cwS 3 hts gX6_sell_X6_isIn rfl rfl rfl (by decide +kernel) ⟨Nat.le_of_ble_eq_true rfl, Nat.le_of_ble_eq_true rfl⟩) hK hP hD hS hA hG [] rfl rfl rfl hl.1 [] rfl (Nat.le_of_ble_eq_true rfl) dX6_sell_9 ⟨(Nat.le_of_ble_eq_true rfl), (Nat.le_of_ble_eq_true rfl)⟩) hP hD hS hA [] rfl (fun H locs hP hS => ?_)
  refine lv_if_eq (tgt := 24) hx hb dX6_sell_12 (by decide) (fun c_2 => ?_) (fun c_2 => ?_)
  · replace hF := if_t hF c_2
    refine lv_aload_n hx hb dX6_sell_24 rfl (lv_at hl 0 rfl) ?_
    refine lv_iconst (v := 1) hx hb dX6_sell_25 (by decide) ?_
    replace hF := bnd_some hF
    obtain ⟨z3, hz_3, hF⟩ := hF
    refine kwIE (kV (As := [.int 1]) ⟨hx, hb, hml, hown, hts⟩ (kX6_fail l D cy sa h 0 pairs teams water vats moulds crews posts loft nums 1 z3 hz_3 _) (cwV 1 hts gX6_sell_X6_fail rfl rfl rfl (by decide +kernel) ⟨Nat.le_of_ble_eq_true rfl, Nat.le_of_ble_eq_true rfl⟩) hK hP hD hS hA hG [0, 1, 2, 3, 4, 5, 6, 7] hcX6_X6_0 ndX6_0 gtX6_0 rfl rfl rfl hl.1 [] rfl (Nat.le_of_ble_eq_true rfl) dX6_sell_26 ⟨(Nat.le_of_ble_eq_true rfl), (Nat.le_of_ble_eq_true rfl)⟩) hP hD hS hA [0, 1, 2, 3, 4, 5, 6, 7] hcX6_X6_0 hmX6 kpX6_X6_0 (fun H locs hP hD hS => ?_)
    cases hF
    exact hQ _ _ _ _ _ _ (fun _ => 0) dX6_sell_29 hP hD hS (Nat.le_of_ble_eq_true rfl) (Nat.le_of_ble_eq_true rfl)
  · replace hF := if_f hF c_2
    refine lv_iload_n hx hb dX6_sell_15 rfl (lv_at hl 2 rfl) ?_
    refine lv_iconst (v := 0) hx hb dX6_sell_16 (by decide) ?_
    refine lv_iconst (v := 2) hx hb dX6_sell_17 (by decide) ?_
    replace hF := bnd_some hF
    obtain ⟨z4, hz_4, hF⟩ := hF
    refine krI (kS (As := [.int a2, .int 0, .int 2]) ⟨hx, hb, hml, hown, hts⟩ (kX6_isIn l D cy sa a2 0 2 z4 hz_4 _) (cwS 3 hts gX6_sell_X6_isIn rfl rfl rfl (by decide +kernel) ⟨Nat.le_of_ble_eq_true rfl, Nat.le_of_ble_eq_true rfl⟩) hK hP hD hS hA hG [] rfl rfl rfl hl.1 [] rfl (Nat.le_of_ble_eq_true rfl) dX6_sell_18 ⟨(Nat.le_of_ble_eq_true rfl), (Nat.le_of_ble_eq_true rfl)⟩) hP hD hS hA [] rfl (fun H locs hP hS => ?_)
    refine lv_if_ne (tgt := 30) hx hb dX6_sell_21 (by decide) (fun c_5 => ?_) (fun c_5 => ?_)
    · replace hF := if_f hF c_5
      refine lv_iload_n hx hb dX6_sell_30 rfl (lv_at hl 3 rfl) ?_
      refine lv_iconst (v := 1) hx hb dX6_sell_31 (by decide) ?_
      refine lv_bipush (v := 9) hx hb dX6_sell_32 (by decide) ?_
      replace hF := bnd_some hF
      obtain ⟨z6, hz_6, hF⟩ := hF
      refine krI (kS (As := [.int a3, .int 1, .int 9]) ⟨hx, hb, hml, hown, hts⟩ (kX6_isIn l D cy sa a3 1 9 z6 hz_6 _) (cwS 3 hts gX6_sell_X6_isIn rfl rfl rfl (by decide +kernel) ⟨Nat.le_of_ble_eq_true rfl, Nat.le_of_ble_eq_true rfl⟩) hK hP hD hS hA hG [] rfl rfl rfl hl.1 [] rfl (Nat.le_of_ble_eq_true rfl) dX6_sell_34 ⟨(Nat.le_of_ble_eq_true rfl), (Nat.le_of_ble_eq_true rfl)⟩) hP hD hS hA [] rfl (fun H locs hP hS => ?_)
      refine lv_if_ne (tgt := 46) hx hb dX6_sell_37 (by decide) (fun c_7 => ?_) (fun c_7 => ?_)
      · replace hF := if_f hF c_7
        refine lv_aload_n hx hb dX6_sell_46 rfl (lv_at hl 0 rfl) ?_
        refine va_get (D := D) (C := RX6) (T := TX6) (N := 10) hx hb hts hiX6 hown hK hP 0 gtX6_0 rfl 8 (by decide) hf25 (fun _ h9 => h9) rfl dX6_sell_47 ?_
        refine lv_iconst (v := 3) hx hb dX6_sell_50 (by decide) ?_
        refine lv_iload_n hx hb dX6_sell_51 rfl (lv_at hl 1 rfl) ?_
        refine lv_imul hx hb dX6_sell_52 ?_
        refine lv_iload_n hx hb dX6_sell_53 rfl (lv_at hl 2 rfl) ?_
        refine lv_iadd hx hb dX6_sell_54 ?_
        replace hF := ckI_some hF
        obtain ⟨hi_8, hF⟩ := hF
        refine va_iald hx hb hK hP 6 0 gtX6_6 rfl hi_8 dX6_sell_55 ?_
        refine lv_bipush (v := 24) hx hb dX6_sell_56 (by decide) ?_
        refine lv_iload_n hx hb dX6_sell_58 rfl (lv_at hl 3 rfl) ?_
        refine lv_imul hx hb dX6_sell_59 ?_
        refine lv_icmp_ge (tgt := 69) hx hb dX6_sell_60 (by decide) (fun c_9 => ?_) (fun c_9 => ?_)
        · replace hF := if_t hF c_9
          refine lv_aload_n hx hb dX6_sell_69 rfl (lv_at hl 0 rfl) ?_
          refine va_get (D := D) (C := RX6) (T := TX6) (N := 10) hx hb hts hiX6 hown hK hP 0 gtX6_0 rfl 8 (by decide) hf25 (fun _ h9 => h9) rfl dX6_sell_70 ?_
          refine lv_iconst (v := 3) hx hb dX6_sell_73 (by decide) ?_
          refine lv_iload_n hx hb dX6_sell_74 rfl (lv_at hl 1 rfl) ?_
          refine lv_imul hx hb dX6_sell_75 ?_
          refine lv_iload_n hx hb dX6_sell_76 rfl (lv_at hl 2 rfl) ?_
          refine lv_iadd hx hb dX6_sell_77 ?_
          refine lv_dup2_11 hx hb dX6_sell_78 rfl rfl ?_
          replace hF := ckI_some hF
          obtain ⟨hi_10, hF⟩ := hF
          refine va_iald hx hb hK hP 6 0 gtX6_6 rfl hi_10 dX6_sell_79 ?_
          refine lv_bipush (v := 24) hx hb dX6_sell_80 (by decide) ?_
          refine lv_iload_n hx hb dX6_sell_82 rfl (lv_at hl 3 rfl) ?_
          refine lv_imul hx hb dX6_sell_83 ?_
          refine lv_isub hx hb dX6_sell_84 ?_
          replace hF := ckI_some hF
          obtain ⟨hi_11, hF⟩ := hF
          refine va_iast hx hb hK hP hD hS 6 0 gtX6_6 rfl hi_11 dX6_sell_85 (fun H locs hP hD hS => ?_)
          rw [stX6_6] at hP hD
          refine lv_aload_n hx hb dX6_sell_86 rfl (lv_at hl 0 rfl) ?_
          refine va_get (D := D) (C := RX6) (T := TX6) (N := 10) hx hb hts hiX6 hown hK hP 0 gtX6_0 rfl 9 (by decide) hf28 (fun _ h9 => h9) rfl dX6_sell_87 ?_
          refine lv_iconst (v := 1) hx hb dX6_sell_90 (by decide) ?_
          refine lv_dup2_11 hx hb dX6_sell_91 rfl rfl ?_
          refine va_iald hx hb hK hP 7 0 gtX6_7 rfl (show ¬ ((1 : Int32) < 0 ∨ 9 ≤ (1 : Int32).toNatClampNeg) from by decide) dX6_sell_92 ?_
          refine lv_iload_n hx hb dX6_sell_93 rfl (lv_at hl 2 rfl) ?_
          replace hF := bnd_some hF
          obtain ⟨z13, hz_13, hF⟩ := hF
          refine krI (kS (As := [.int a2]) ⟨hx, hb, hml, hown, hts⟩ (kX6_worth l D cy sa a2 z13 hz_13 _) (cwS 1 hts gX6_sell_X6_worth rfl rfl rfl (by decide +kernel) ⟨Nat.le_of_ble_eq_true rfl, Nat.le_of_ble_eq_true rfl⟩) hK hP hD hS hA hG [] rfl rfl rfl hl.1 [.int (nums (1 : Int32).toNatClampNeg), .int 1, .ref (h 7)] rfl (Nat.le_of_ble_eq_true rfl) dX6_sell_94 ⟨(Nat.le_of_ble_eq_true rfl), (Nat.le_of_ble_eq_true rfl)⟩) hP hD hS hA [] rfl (fun H locs hP hS => ?_)
          refine lv_iload_n hx hb dX6_sell_97 rfl (lv_at hl 3 rfl) ?_
          refine lv_imul hx hb dX6_sell_98 ?_
          refine lv_iadd hx hb dX6_sell_99 ?_
          refine va_iast hx hb hK hP hD hS 7 0 gtX6_7 rfl (show ¬ ((1 : Int32) < 0 ∨ 9 ≤ (1 : Int32).toNatClampNeg) from by decide) dX6_sell_100 (fun H locs hP hD hS => ?_)
          rw [stX6_7] at hP hD
          refine lv_iload_n hx hb dX6_sell_101 rfl (lv_at hl 2 rfl) ?_
          replace hF := bnd_some hF
          obtain ⟨z15, hz_15, hF⟩ := hF
          refine krI (kS (As := [.int a2]) ⟨hx, hb, hml, hown, hts⟩ (kX6_worth l D cy sa a2 z15 hz_15 _) (cwS 1 hts gX6_sell_X6_worth rfl rfl rfl (by decide +kernel) ⟨Nat.le_of_ble_eq_true rfl, Nat.le_of_ble_eq_true rfl⟩) hK hP hD hS hA hG [] rfl rfl rfl hl.1 [] rfl (Nat.le_of_ble_eq_true rfl) dX6_sell_102 ⟨(Nat.le_of_ble_eq_true rfl), (Nat.le_of_ble_eq_true rfl)⟩) hP hD hS hA [] rfl (fun H locs hP hS => ?_)
          refine lv_iload_n hx hb dX6_sell_105 rfl (lv_at hl 3 rfl) ?_
          refine lv_imul hx hb dX6_sell_106 ?_
          cases hF
          exact hQ _ _ _ _ _ _ (fun _ => 0) dX6_sell_107 hP hD hS (Nat.le_of_ble_eq_true rfl) (Nat.le_of_ble_eq_true rfl)
        · replace hF := if_f hF c_9
          refine lv_aload_n hx hb dX6_sell_63 rfl (lv_at hl 0 rfl) ?_
          refine lv_iconst (v := 3) hx hb dX6_sell_64 (by decide) ?_
          replace hF := bnd_some hF
          obtain ⟨z16, hz_16, hF⟩ := hF
          refine kwIE (kV (As := [.int 3]) ⟨hx, hb, hml, hown, hts⟩ (kX6_fail l D cy sa h 0 pairs teams water vats moulds crews posts loft nums 3 z16 hz_16 _) (cwV 1 hts gX6_sell_X6_fail rfl rfl rfl (by decide +kernel) ⟨Nat.le_of_ble_eq_true rfl, Nat.le_of_ble_eq_true rfl⟩) hK hP hD hS hA hG [0, 1, 2, 3, 4, 5, 6, 7] hcX6_X6_0 ndX6_0 gtX6_0 rfl rfl rfl hl.1 [] rfl (Nat.le_of_ble_eq_true rfl) dX6_sell_65 ⟨(Nat.le_of_ble_eq_true rfl), (Nat.le_of_ble_eq_true rfl)⟩) hP hD hS hA [0, 1, 2, 3, 4, 5, 6, 7] hcX6_X6_0 hmX6 kpX6_X6_0 (fun H locs hP hD hS => ?_)
          cases hF
          exact hQ _ _ _ _ _ _ (fun _ => 0) dX6_sell_68 hP hD hS (Nat.le_of_ble_eq_true rfl) (Nat.le_of_ble_eq_true rfl)
      · replace hF := if_t hF c_7
        refine lv_aload_n hx hb dX6_sell_40 rfl (lv_at hl 0 rfl) ?_
        refine lv_iconst (v := 2) hx hb dX6_sell_41 (by decide) ?_
        replace hF := bnd_some hF
        obtain ⟨z17, hz_17, hF⟩ := hF
        refine kwIE (kV (As := [.int 2]) ⟨hx, hb, hml, hown, hts⟩ (kX6_fail l D cy sa h 0 pairs teams water vats moulds crews posts loft nums 2 z17 hz_17 _) (cwV 1 hts gX6_sell_X6_fail rfl rfl rfl (by decide +kernel) ⟨Nat.le_of_ble_eq_true rfl, Nat.le_of_ble_eq_true rfl⟩) hK hP hD hS hA hG [0, 1, 2, 3, 4, 5, 6, 7] hcX6_X6_0 ndX6_0 gtX6_0 rfl rfl rfl hl.1 [] rfl (Nat.le_of_ble_eq_true rfl) dX6_sell_42 ⟨(Nat.le_of_ble_eq_true rfl), (Nat.le_of_ble_eq_true rfl)⟩) hP hD hS hA [0, 1, 2, 3, 4, 5, 6, 7] hcX6_X6_0 hmX6 kpX6_X6_0 (fun H locs hP hD hS => ?_)
        cases hF
        exact hQ _ _ _ _ _ _ (fun _ => 0) dX6_sell_45 hP hD hS (Nat.le_of_ble_eq_true rfl) (Nat.le_of_ble_eq_true rfl)
    · replace hF := if_t hF c_5
      refine lv_aload_n hx hb dX6_sell_24 rfl (lv_at hl 0 rfl) ?_
      refine lv_iconst (v := 1) hx hb dX6_sell_25 (by decide) ?_
      replace hF := bnd_some hF
      obtain ⟨z18, hz_18, hF⟩ := hF
      refine kwIE (kV (As := [.int 1]) ⟨hx, hb, hml, hown, hts⟩ (kX6_fail l D cy sa h 0 pairs teams water vats moulds crews posts loft nums 1 z18 hz_18 _) (cwV 1 hts gX6_sell_X6_fail rfl rfl rfl (by decide +kernel) ⟨Nat.le_of_ble_eq_true rfl, Nat.le_of_ble_eq_true rfl⟩) hK hP hD hS hA hG [0, 1, 2, 3, 4, 5, 6, 7] hcX6_X6_0 ndX6_0 gtX6_0 rfl rfl rfl hl.1 [] rfl (Nat.le_of_ble_eq_true rfl) dX6_sell_26 ⟨(Nat.le_of_ble_eq_true rfl), (Nat.le_of_ble_eq_true rfl)⟩) hP hD hS hA [0, 1, 2, 3, 4, 5, 6, 7] hcX6_X6_0 hmX6 kpX6_X6_0 (fun H locs hP hD hS => ?_)
      cases hF
      exact hQ _ _ _ _ _ _ (fun _ => 0) dX6_sell_29 hP hD hS (Nat.le_of_ble_eq_true rfl) (Nat.le_of_ble_eq_true rfl)

def fX6_fill (vats : FN) (nums : FN) (a1 : Int32) (a2 : Int32) (a3 : Int32) : Option (Int32 × Int32 × FN × FN) := (fX6_isVat a1).bind fun z1 => if z1 = 0 then (fX6_fail 1).bind fun z3 => some (z3.1, z3.2, vats, nums) else (fX6_isIn a2 0 2).bind fun z4 => if z4 = 0 then (fX6_fail 1).bind fun z19 => some (z19.1, z19.2, vats, nums) else (fX6_isIn a3 1 40).bind fun z6 => if z6 = 0 then (fX6_fail 2).bind fun z18 => some (z18.1, z18.2, vats, nums) else (fX6_va vats a1 0).bind fun z8 => if 0 < z8 then (fX6_fail 3).bind fun z10 => some (z10.1, z10.2, vats, nums) else ckI (6 + a2) 9 (if a3 ≤ (nums (6 + a2).toNatClampNeg) then ckI (6 + a2) 9 (ckI (6 + a2) 9 ((fX6_let vats a1 a3 0 a2).bind fun z15 => ckI (6 + a2) 9 (some ((upd nums (6 + a2).toNatClampNeg ((nums (6 + a2).toNatClampNeg) - a3)) (6 + a2).toNatClampNeg, 0, z15, upd nums (6 + a2).toNatClampNeg ((nums (6 + a2).toNatClampNeg) - a3))))) else (fX6_fail 3).bind fun z17 => some (z17.1, z17.2, vats, nums))
abbrev rX6_fill : Room := { frames := 2, cells := 0, slots := 0, locals := 42 }
set_option maxHeartbeats 4000000 in
set_option maxRecDepth 100000 in
theorem kX6_fill (l : Launch) (D : va_G) (cy : Nat → ClassId) (sa : Nat → Nat) (h : Nat → Nat) (thrown : Int32) (pairs : Int32) (teams : Int32) (water : FN) (vats : FN) (moulds : FN) (crews : FN) (posts : FN) (loft : FN) (nums : FN) (a1 : Int32) (a2 : Int32) (a3 : Int32) (z : Int32 × Int32 × FN × FN) (hF : fX6_fill vats nums a1 a2 a3 = some z) : KI l D (tyW cy) sa yX6_fill wsX6_fill rX6_fill [.ref (h 0), .int a1, .int a2, .int a3] (wX6 cy h thrown pairs teams water vats moulds crews posts loft nums) z.1 (fun _ => wX6 cy h z.2.1 pairs teams water z.2.2.1 moulds crews posts loft z.2.2.2) 0 0 := by
  refine KI.of (cc := cX6_fill) (maxL := 4) (by decide +kernel) rfl (Nat.le_of_ble_eq_true rfl) ?_
  intro p e s m args below meth c A ls Q hE hQ
  obtain ⟨hx, hb, hml, hown, hts, hA, hP, hK, hD, hG, hl, hnm⟩ := hE
  replace hown : s.vm.findClass RX6 = some m.cls := hown
  have hiX6 : ∀ w ∈ u_ws RX6 TX6 10, w ∈ wsX6_fill := by decide +kernel
  have hf28 : (Cond.fieldLink RX6 28 "RagVatsModel" "numbers" "[I").before args s = true := hts _ (by decide +kernel)
  have hf31 : (Cond.fieldLink RX6 31 "RagVatsModel" "thrown" "I").before args s = true := hts _ (by decide +kernel)
  replace hl : lv_has ls 4 [(0, .ref (h 0)), (1, .int a1), (2, .int a2), (3, .int a3)] := hl
  have hS : va_S A s.heap s.heap [] := va_S.rf
  unfold fX6_fill at hF
  refine lv_aload_n hx hb dX6_fill_0 rfl (lv_at hl 0 rfl) ?_
  refine lv_iconst (v := 0) hx hb dX6_fill_1 (by decide) ?_
  refine va_put (D := D) (v := .int 0) (ty := .int) (C := RX6) (T := TX6) (N := 10) hx hb hts hiX6 tyX6 tyX6_ok nmX6 hown hK hP hD hS 0 gtX6_0 rfl 0 (by decide) hf31 (fun _ h9 => h9) rfl (by decide +kernel) rfl rfl (Nat.le_of_ble_eq_true rfl) dX6_fill_2 (fun H locs hP hD hS => ?_)
  rw [stX6_0_0] at hP hD
  refine lv_iload_n hx hb dX6_fill_5 rfl (lv_at hl 1 rfl) ?_
  replace hF := bnd_some hF
  obtain ⟨z1, hz_1, hF⟩ := hF
  refine krI (kS (As := [.int a1]) ⟨hx, hb, hml, hown, hts⟩ (kX6_isVat l D cy sa a1 z1 hz_1 _) (cwS 1 hts gX6_fill_X6_isVat rfl rfl rfl (by decide +kernel) ⟨Nat.le_of_ble_eq_true rfl, Nat.le_of_ble_eq_true rfl⟩) hK hP hD hS hA hG [] rfl rfl rfl hl.1 [] rfl (Nat.le_of_ble_eq_true rfl) dX6_fill_6 ⟨(Nat.le_of_ble_eq_true rfl), (Nat.le_of_ble_eq_true rfl)⟩) hP hD hS hA [] rfl (fun H locs hP hS => ?_)
  refine lv_if_eq (tgt := 21) hx hb dX6_fill_9 (by decide) (fun c_2 => ?_) (fun c_2 => ?_)
  · replace hF := if_t hF c_2
    refine lv_aload_n hx hb dX6_fill_21 rfl (lv_at hl 0 rfl) ?_
    refine lv_iconst (v := 1) hx hb dX6_fill_22 (by decide) ?_
    replace hF := bnd_some hF
    obtain ⟨z3, hz_3, hF⟩ := hF
    refine kwIE (kV (As := [.int 1]) ⟨hx, hb, hml, hown, hts⟩ (kX6_fail l D cy sa h 0 pairs teams water vats moulds crews posts loft nums 1 z3 hz_3 _) (cwV 1 hts gX6_fill_X6_fail rfl rfl rfl (by decide +kernel) ⟨Nat.le_of_ble_eq_true rfl, Nat.le_of_ble_eq_true rfl⟩) hK hP hD hS hA hG [0, 1, 2, 3, 4, 5, 6, 7] hcX6_X6_0 ndX6_0 gtX6_0 rfl rfl rfl hl.1 [] rfl (Nat.le_of_ble_eq_true rfl) dX6_fill_23 ⟨(Nat.le_of_ble_eq_true rfl), (Nat.le_of_ble_eq_true rfl)⟩) hP hD hS hA [0, 1, 2, 3, 4, 5, 6, 7] hcX6_X6_0 hmX6 kpX6_X6_0 (fun H locs hP hD hS => ?_)
    cases hF
    exact hQ _ _ _ _ _ _ (fun _ => 0) dX6_fill_26 hP hD hS (Nat.le_of_ble_eq_true rfl) (Nat.le_of_ble_eq_true rfl)
  · replace hF := if_f hF c_2
    refine lv_iload_n hx hb dX6_fill_12 rfl (lv_at hl 2 rfl) ?_
    refine lv_iconst (v := 0) hx hb dX6_fill_13 (by decide) ?_
    refine lv_iconst (v := 2) hx hb dX6_fill_14 (by decide) ?_
    replace hF := bnd_some hF
    obtain ⟨z4, hz_4, hF⟩ := hF
    refine krI (kS (As := [.int a2, .int 0, .int 2]) ⟨hx, hb, hml, hown, hts⟩ (kX6_isIn l D cy sa a2 0 2 z4 hz_4 _) (cwS 3 hts gX6_fill_X6_isIn rfl rfl rfl (by decide +kernel) ⟨Nat.le_of_ble_eq_true rfl, Nat.le_of_ble_eq_true rfl⟩) hK hP hD hS hA hG [] rfl rfl rfl hl.1 [] rfl (Nat.le_of_ble_eq_true rfl) dX6_fill_15 ⟨(Nat.le_of_ble_eq_true rfl), (Nat.le_of_ble_eq_true rfl)⟩) hP hD hS hA [] rfl (fun H locs hP hS => ?_)
    refine lv_if_ne (tgt := 27) hx hb dX6_fill_18 (by decide) (fun c_5 => ?_) (fun c_5 => ?_)
    · replace hF := if_f hF c_5
      refine lv_iload_n hx hb dX6_fill_27 rfl (lv_at hl 3 rfl) ?_
      refine lv_iconst (v := 1) hx hb dX6_fill_28 (by decide) ?_
      refine lv_bipush (v := 40) hx hb dX6_fill_29 (by decide) ?_
      replace hF := bnd_some hF
      obtain ⟨z6, hz_6, hF⟩ := hF
      refine krI (kS (As := [.int a3, .int 1, .int 40]) ⟨hx, hb, hml, hown, hts⟩ (kX6_isIn l D cy sa a3 1 40 z6 hz_6 _) (cwS 3 hts gX6_fill_X6_isIn rfl rfl rfl (by decide +kernel) ⟨Nat.le_of_ble_eq_true rfl, Nat.le_of_ble_eq_true rfl⟩) hK hP hD hS hA hG [] rfl rfl rfl hl.1 [] rfl (Nat.le_of_ble_eq_true rfl) dX6_fill_31 ⟨(Nat.le_of_ble_eq_true rfl), (Nat.le_of_ble_eq_true rfl)⟩) hP hD hS hA [] rfl (fun H locs hP hS => ?_)
      refine lv_if_ne (tgt := 43) hx hb dX6_fill_34 (by decide) (fun c_7 => ?_) (fun c_7 => ?_)
      · replace hF := if_f hF c_7
        refine lv_aload_n hx hb dX6_fill_43 rfl (lv_at hl 0 rfl) ?_
        refine lv_iload_n hx hb dX6_fill_44 rfl (lv_at hl 1 rfl) ?_
        refine lv_iconst (v := 0) hx hb dX6_fill_45 (by decide) ?_
        replace hF := bnd_some hF
        obtain ⟨z8, hz_8, hF⟩ := hF
        refine krI (kV (As := [.int a1, .int 0]) ⟨hx, hb, hml, hown, hts⟩ (kX6_va l D cy sa h 0 pairs teams water vats moulds crews posts loft nums a1 0 z8 hz_8 _) (cwV 2 hts gX6_fill_X6_va rfl rfl rfl (by decide +kernel) ⟨Nat.le_of_ble_eq_true rfl, Nat.le_of_ble_eq_true rfl⟩) hK hP hD hS hA hG [0, 1, 2, 3, 4, 5, 6, 7] hcX6_X6_0 ndX6_0 gtX6_0 rfl rfl rfl hl.1 [] rfl (Nat.le_of_ble_eq_true rfl) dX6_fill_46 ⟨(Nat.le_of_ble_eq_true rfl), (Nat.le_of_ble_eq_true rfl)⟩) hP hD hS hA [0, 1, 2, 3, 4, 5, 6, 7] hcX6_X6_0 (fun H locs hP hS => ?_)
        refine lv_if_gt (tgt := 65) hx hb dX6_fill_49 (by decide) (fun c_9 => ?_) (fun c_9 => ?_)
        · replace hF := if_t hF c_9
          refine lv_aload_n hx hb dX6_fill_65 rfl (lv_at hl 0 rfl) ?_
          refine lv_iconst (v := 3) hx hb dX6_fill_66 (by decide) ?_
          replace hF := bnd_some hF
          obtain ⟨z10, hz_10, hF⟩ := hF
          refine kwIE (kV (As := [.int 3]) ⟨hx, hb, hml, hown, hts⟩ (kX6_fail l D cy sa h 0 pairs teams water vats moulds crews posts loft nums 3 z10 hz_10 _) (cwV 1 hts gX6_fill_X6_fail rfl rfl rfl (by decide +kernel) ⟨Nat.le_of_ble_eq_true rfl, Nat.le_of_ble_eq_true rfl⟩) hK hP hD hS hA hG [0, 1, 2, 3, 4, 5, 6, 7] hcX6_X6_0 ndX6_0 gtX6_0 rfl rfl rfl hl.1 [] rfl (Nat.le_of_ble_eq_true rfl) dX6_fill_67 ⟨(Nat.le_of_ble_eq_true rfl), (Nat.le_of_ble_eq_true rfl)⟩) hP hD hS hA [0, 1, 2, 3, 4, 5, 6, 7] hcX6_X6_0 hmX6 kpX6_X6_0 (fun H locs hP hD hS => ?_)
          cases hF
          exact hQ _ _ _ _ _ _ (fun _ => 0) dX6_fill_70 hP hD hS (Nat.le_of_ble_eq_true rfl) (Nat.le_of_ble_eq_true rfl)
        · replace hF := if_f hF c_9
          refine lv_aload_n hx hb dX6_fill_52 rfl (lv_at hl 0 rfl) ?_
          refine va_get (D := D) (C := RX6) (T := TX6) (N := 10) hx hb hts hiX6 hown hK hP 0 gtX6_0 rfl 9 (by decide) hf28 (fun _ h9 => h9) rfl dX6_fill_53 ?_
          refine lv_bipush (v := 6) hx hb dX6_fill_56 (by decide) ?_
          refine lv_iload_n hx hb dX6_fill_58 rfl (lv_at hl 2 rfl) ?_
          refine lv_iadd hx hb dX6_fill_59 ?_
          replace hF := ckI_some hF
          obtain ⟨hi_11, hF⟩ := hF
          refine va_iald hx hb hK hP 7 0 gtX6_7 rfl hi_11 dX6_fill_60 ?_
          refine lv_iload_n hx hb dX6_fill_61 rfl (lv_at hl 3 rfl) ?_
          refine lv_icmp_ge (tgt := 71) hx hb dX6_fill_62 (by decide) (fun c_12 => ?_) (fun c_12 => ?_)
          · replace hF := if_t hF c_12
            refine lv_aload_n hx hb dX6_fill_71 rfl (lv_at hl 0 rfl) ?_
            refine va_get (D := D) (C := RX6) (T := TX6) (N := 10) hx hb hts hiX6 hown hK hP 0 gtX6_0 rfl 9 (by decide) hf28 (fun _ h9 => h9) rfl dX6_fill_72 ?_
            refine lv_bipush (v := 6) hx hb dX6_fill_75 (by decide) ?_
            refine lv_iload_n hx hb dX6_fill_77 rfl (lv_at hl 2 rfl) ?_
            refine lv_iadd hx hb dX6_fill_78 ?_
            refine lv_dup2_11 hx hb dX6_fill_79 rfl rfl ?_
            replace hF := ckI_some hF
            obtain ⟨hi_13, hF⟩ := hF
            refine va_iald hx hb hK hP 7 0 gtX6_7 rfl hi_13 dX6_fill_80 ?_
            refine lv_iload_n hx hb dX6_fill_81 rfl (lv_at hl 3 rfl) ?_
            refine lv_isub hx hb dX6_fill_82 ?_
            replace hF := ckI_some hF
            obtain ⟨hi_14, hF⟩ := hF
            refine va_iast hx hb hK hP hD hS 7 0 gtX6_7 rfl hi_14 dX6_fill_83 (fun H locs hP hD hS => ?_)
            rw [stX6_7] at hP hD
            refine lv_aload_n hx hb dX6_fill_84 rfl (lv_at hl 0 rfl) ?_
            refine lv_iload_n hx hb dX6_fill_85 rfl (lv_at hl 1 rfl) ?_
            refine lv_iload_n hx hb dX6_fill_86 rfl (lv_at hl 3 rfl) ?_
            refine lv_iconst (v := 0) hx hb dX6_fill_87 (by decide) ?_
            refine lv_iload_n hx hb dX6_fill_88 rfl (lv_at hl 2 rfl) ?_
            replace hF := bnd_some hF
            obtain ⟨z15, hz_15, hF⟩ := hF
            refine kwVE (kV (As := [.int a1, .int a3, .int 0, .int a2]) ⟨hx, hb, hml, hown, hts⟩ (kX6_let l D cy sa h 0 pairs teams water vats moulds crews posts loft (upd nums (6 + a2).toNatClampNeg ((nums (6 + a2).toNatClampNeg) - a3)) a1 a3 0 a2 z15 hz_15 _) (cwV 4 hts gX6_fill_X6_let rfl rfl rfl (by decide +kernel) ⟨Nat.le_of_ble_eq_true rfl, Nat.le_of_ble_eq_true rfl⟩) hK hP hD hS hA hG [0, 1, 2, 3, 4, 5, 6, 7] hcX6_X6_0 ndX6_0 gtX6_0 rfl rfl rfl hl.1 [] rfl (Nat.le_of_ble_eq_true rfl) dX6_fill_89 ⟨(Nat.le_of_ble_eq_true rfl), (Nat.le_of_ble_eq_true rfl)⟩) hP hD hS hA [0, 1, 2, 3, 4, 5, 6, 7] hcX6_X6_0 hmX6 kpX6_X6_0 (fun H locs hP hD hS => ?_)
            refine lv_aload_n hx hb dX6_fill_92 rfl (lv_at hl 0 rfl) ?_
            refine va_get (D := D) (C := RX6) (T := TX6) (N := 10) hx hb hts hiX6 hown hK hP 0 gtX6_0 rfl 9 (by decide) hf28 (fun _ h9 => h9) rfl dX6_fill_93 ?_
            refine lv_bipush (v := 6) hx hb dX6_fill_96 (by decide) ?_
            refine lv_iload_n hx hb dX6_fill_98 rfl (lv_at hl 2 rfl) ?_
            refine lv_iadd hx hb dX6_fill_99 ?_
            replace hF := ckI_some hF
            obtain ⟨hi_16, hF⟩ := hF
            refine va_iald hx hb hK hP 7 0 gtX6_7 rfl hi_16 dX6_fill_100 ?_
            cases hF
            exact hQ _ _ _ _ _ _ (fun _ => 0) dX6_fill_101 hP hD hS (Nat.le_of_ble_eq_true rfl) (Nat.le_of_ble_eq_true rfl)
          · replace hF := if_f hF c_12
            refine lv_aload_n hx hb dX6_fill_65 rfl (lv_at hl 0 rfl) ?_
            refine lv_iconst (v := 3) hx hb dX6_fill_66 (by decide) ?_
            replace hF := bnd_some hF
            obtain ⟨z17, hz_17, hF⟩ := hF
            refine kwIE (kV (As := [.int 3]) ⟨hx, hb, hml, hown, hts⟩ (kX6_fail l D cy sa h 0 pairs teams water vats moulds crews posts loft nums 3 z17 hz_17 _) (cwV 1 hts gX6_fill_X6_fail rfl rfl rfl (by decide +kernel) ⟨Nat.le_of_ble_eq_true rfl, Nat.le_of_ble_eq_true rfl⟩) hK hP hD hS hA hG [0, 1, 2, 3, 4, 5, 6, 7] hcX6_X6_0 ndX6_0 gtX6_0 rfl rfl rfl hl.1 [] rfl (Nat.le_of_ble_eq_true rfl) dX6_fill_67 ⟨(Nat.le_of_ble_eq_true rfl), (Nat.le_of_ble_eq_true rfl)⟩) hP hD hS hA [0, 1, 2, 3, 4, 5, 6, 7] hcX6_X6_0 hmX6 kpX6_X6_0 (fun H locs hP hD hS => ?_)
            cases hF
            exact hQ _ _ _ _ _ _ (fun _ => 0) dX6_fill_70 hP hD hS (Nat.le_of_ble_eq_true rfl) (Nat.le_of_ble_eq_true rfl)
      · replace hF := if_t hF c_7
        refine lv_aload_n hx hb dX6_fill_37 rfl (lv_at hl 0 rfl) ?_
        refine lv_iconst (v := 2) hx hb dX6_fill_38 (by decide) ?_
        replace hF := bnd_some hF
        obtain ⟨z18, hz_18, hF⟩ := hF
        refine kwIE (kV (As := [.int 2]) ⟨hx, hb, hml, hown, hts⟩ (kX6_fail l D cy sa h 0 pairs teams water vats moulds crews posts loft nums 2 z18 hz_18 _) (cwV 1 hts gX6_fill_X6_fail rfl rfl rfl (by decide +kernel) ⟨Nat.le_of_ble_eq_true rfl, Nat.le_of_ble_eq_true rfl⟩) hK hP hD hS hA hG [0, 1, 2, 3, 4, 5, 6, 7] hcX6_X6_0 ndX6_0 gtX6_0 rfl rfl rfl hl.1 [] rfl (Nat.le_of_ble_eq_true rfl) dX6_fill_39 ⟨(Nat.le_of_ble_eq_true rfl), (Nat.le_of_ble_eq_true rfl)⟩) hP hD hS hA [0, 1, 2, 3, 4, 5, 6, 7] hcX6_X6_0 hmX6 kpX6_X6_0 (fun H locs hP hD hS => ?_)
        cases hF
        exact hQ _ _ _ _ _ _ (fun _ => 0) dX6_fill_42 hP hD hS (Nat.le_of_ble_eq_true rfl) (Nat.le_of_ble_eq_true rfl)
    · replace hF := if_t hF c_5
      refine lv_aload_n hx hb dX6_fill_21 rfl (lv_at hl 0 rfl) ?_
      refine lv_iconst (v := 1) hx hb dX6_fill_22 (by decide) ?_
      replace hF := bnd_some hF
      obtain ⟨z19, hz_19, hF⟩ := hF
      refine kwIE (kV (As := [.int 1]) ⟨hx, hb, hml, hown, hts⟩ (kX6_fail l D cy sa h 0 pairs teams water vats moulds crews posts loft nums 1 z19 hz_19 _) (cwV 1 hts gX6_fill_X6_fail rfl rfl rfl (by decide +kernel) ⟨Nat.le_of_ble_eq_true rfl, Nat.le_of_ble_eq_true rfl⟩) hK hP hD hS hA hG [0, 1, 2, 3, 4, 5, 6, 7] hcX6_X6_0 ndX6_0 gtX6_0 rfl rfl rfl hl.1 [] rfl (Nat.le_of_ble_eq_true rfl) dX6_fill_23 ⟨(Nat.le_of_ble_eq_true rfl), (Nat.le_of_ble_eq_true rfl)⟩) hP hD hS hA [0, 1, 2, 3, 4, 5, 6, 7] hcX6_X6_0 hmX6 kpX6_X6_0 (fun H locs hP hD hS => ?_)
      cases hF
      exact hQ _ _ _ _ _ _ (fun _ => 0) dX6_fill_26 hP hD hS (Nat.le_of_ble_eq_true rfl) (Nat.le_of_ble_eq_true rfl)

def fX6_drain (vats : FN) (a1 : Int32) : Option (Int32 × Int32 × FN) := (fX6_isVat a1).bind fun z1 => if z1 = 0 then (fX6_fail 1).bind fun z7 => some (z7.1, z7.2, vats) else (fX6_va vats a1 0).bind fun z3 => if z3 = 0 then (fX6_fail 2).bind fun z6 => some (z6.1, z6.2, vats) else (fX6_let vats a1 0 0 (-1)).bind fun z5 => some (z3, 0, z5)
abbrev rX6_drain : Room := { frames := 2, cells := 0, slots := 0, locals := 42 }
set_option maxHeartbeats 4000000 in
set_option maxRecDepth 100000 in
theorem kX6_drain (l : Launch) (D : va_G) (cy : Nat → ClassId) (sa : Nat → Nat) (h : Nat → Nat) (thrown : Int32) (pairs : Int32) (teams : Int32) (water : FN) (vats : FN) (moulds : FN) (crews : FN) (posts : FN) (loft : FN) (nums : FN) (a1 : Int32) (z : Int32 × Int32 × FN) (hF : fX6_drain vats a1 = some z) : KI l D (tyW cy) sa yX6_drain wsX6_drain rX6_drain [.ref (h 0), .int a1] (wX6 cy h thrown pairs teams water vats moulds crews posts loft nums) z.1 (fun _ => wX6 cy h z.2.1 pairs teams water z.2.2 moulds crews posts loft nums) 0 0 := by
  refine KI.of (cc := cX6_drain) (maxL := 3) (by decide +kernel) rfl (Nat.le_of_ble_eq_true rfl) ?_
  intro p e s m args below meth c A ls Q hE hQ
  obtain ⟨hx, hb, hml, hown, hts, hA, hP, hK, hD, hG, hl, hnm⟩ := hE
  replace hown : s.vm.findClass RX6 = some m.cls := hown
  have hiX6 : ∀ w ∈ u_ws RX6 TX6 10, w ∈ wsX6_drain := by decide +kernel
  have hf31 : (Cond.fieldLink RX6 31 "RagVatsModel" "thrown" "I").before args s = true := hts _ (by decide +kernel)
  replace hl : lv_has ls 3 [(0, .ref (h 0)), (1, .int a1)] := hl
  have hS : va_S A s.heap s.heap [] := va_S.rf
  unfold fX6_drain at hF
  refine lv_aload_n hx hb dX6_drain_0 rfl (lv_at hl 0 rfl) ?_
  refine lv_iconst (v := 0) hx hb dX6_drain_1 (by decide) ?_
  refine va_put (D := D) (v := .int 0) (ty := .int) (C := RX6) (T := TX6) (N := 10) hx hb hts hiX6 tyX6 tyX6_ok nmX6 hown hK hP hD hS 0 gtX6_0 rfl 0 (by decide) hf31 (fun _ h9 => h9) rfl (by decide +kernel) rfl rfl (Nat.le_of_ble_eq_true rfl) dX6_drain_2 (fun H locs hP hD hS => ?_)
  rw [stX6_0_0] at hP hD
  refine lv_iload_n hx hb dX6_drain_5 rfl (lv_at hl 1 rfl) ?_
  replace hF := bnd_some hF
  obtain ⟨z1, hz_1, hF⟩ := hF
  refine krI (kS (As := [.int a1]) ⟨hx, hb, hml, hown, hts⟩ (kX6_isVat l D cy sa a1 z1 hz_1 _) (cwS 1 hts gX6_drain_X6_isVat rfl rfl rfl (by decide +kernel) ⟨Nat.le_of_ble_eq_true rfl, Nat.le_of_ble_eq_true rfl⟩) hK hP hD hS hA hG [] rfl rfl rfl hl.1 [] rfl (Nat.le_of_ble_eq_true rfl) dX6_drain_6 ⟨(Nat.le_of_ble_eq_true rfl), (Nat.le_of_ble_eq_true rfl)⟩) hP hD hS hA [] rfl (fun H locs hP hS => ?_)
  refine lv_if_ne (tgt := 18) hx hb dX6_drain_9 (by decide) (fun c_2 => ?_) (fun c_2 => ?_)
  · replace hF := if_f hF c_2
    refine lv_aload_n hx hb dX6_drain_18 rfl (lv_at hl 0 rfl) ?_
    refine lv_iload_n hx hb dX6_drain_19 rfl (lv_at hl 1 rfl) ?_
    refine lv_iconst (v := 0) hx hb dX6_drain_20 (by decide) ?_
    replace hF := bnd_some hF
    obtain ⟨z3, hz_3, hF⟩ := hF
    refine krI (kV (As := [.int a1, .int 0]) ⟨hx, hb, hml, hown, hts⟩ (kX6_va l D cy sa h 0 pairs teams water vats moulds crews posts loft nums a1 0 z3 hz_3 _) (cwV 2 hts gX6_drain_X6_va rfl rfl rfl (by decide +kernel) ⟨Nat.le_of_ble_eq_true rfl, Nat.le_of_ble_eq_true rfl⟩) hK hP hD hS hA hG [0, 1, 2, 3, 4, 5, 6, 7] hcX6_X6_0 ndX6_0 gtX6_0 rfl rfl rfl hl.1 [] rfl (Nat.le_of_ble_eq_true rfl) dX6_drain_21 ⟨(Nat.le_of_ble_eq_true rfl), (Nat.le_of_ble_eq_true rfl)⟩) hP hD hS hA [0, 1, 2, 3, 4, 5, 6, 7] hcX6_X6_0 (fun H locs hP hS => ?_)
    refine lv_istore_n (lv' := [(2, .int z3), (0, .ref (h 0)), (1, .int a1)]) hx hb dX6_drain_24 rfl hl (by decide) rfl (fun ls hl => ?_)
    refine lv_iload_n hx hb dX6_drain_25 rfl (lv_at hl 0 rfl) ?_
    refine lv_if_ne (tgt := 35) hx hb dX6_drain_26 (by decide) (fun c_4 => ?_) (fun c_4 => ?_)
    · replace hF := if_f hF c_4
      refine lv_aload_n hx hb dX6_drain_35 rfl (lv_at hl 1 rfl) ?_
      refine lv_iload_n hx hb dX6_drain_36 rfl (lv_at hl 2 rfl) ?_
      refine lv_iconst (v := 0) hx hb dX6_drain_37 (by decide) ?_
      refine lv_iconst (v := 0) hx hb dX6_drain_38 (by decide) ?_
      refine lv_iconst (v := -1) hx hb dX6_drain_39 (by decide) ?_
      replace hF := bnd_some hF
      obtain ⟨z5, hz_5, hF⟩ := hF
      refine kwVE (kV (As := [.int a1, .int 0, .int 0, .int (-1)]) ⟨hx, hb, hml, hown, hts⟩ (kX6_let l D cy sa h 0 pairs teams water vats moulds crews posts loft nums a1 0 0 (-1) z5 hz_5 _) (cwV 4 hts gX6_drain_X6_let rfl rfl rfl (by decide +kernel) ⟨Nat.le_of_ble_eq_true rfl, Nat.le_of_ble_eq_true rfl⟩) hK hP hD hS hA hG [0, 1, 2, 3, 4, 5, 6, 7] hcX6_X6_0 ndX6_0 gtX6_0 rfl rfl rfl hl.1 [] rfl (Nat.le_of_ble_eq_true rfl) dX6_drain_40 ⟨(Nat.le_of_ble_eq_true rfl), (Nat.le_of_ble_eq_true rfl)⟩) hP hD hS hA [0, 1, 2, 3, 4, 5, 6, 7] hcX6_X6_0 hmX6 kpX6_X6_0 (fun H locs hP hD hS => ?_)
      refine lv_iload_n hx hb dX6_drain_43 rfl (lv_at hl 0 rfl) ?_
      cases hF
      exact hQ _ _ _ _ _ _ (fun _ => 0) dX6_drain_44 hP hD hS (Nat.le_of_ble_eq_true rfl) (Nat.le_of_ble_eq_true rfl)
    · replace hF := if_t hF c_4
      refine lv_aload_n hx hb dX6_drain_29 rfl (lv_at hl 1 rfl) ?_
      refine lv_iconst (v := 2) hx hb dX6_drain_30 (by decide) ?_
      replace hF := bnd_some hF
      obtain ⟨z6, hz_6, hF⟩ := hF
      refine kwIE (kV (As := [.int 2]) ⟨hx, hb, hml, hown, hts⟩ (kX6_fail l D cy sa h 0 pairs teams water vats moulds crews posts loft nums 2 z6 hz_6 _) (cwV 1 hts gX6_drain_X6_fail rfl rfl rfl (by decide +kernel) ⟨Nat.le_of_ble_eq_true rfl, Nat.le_of_ble_eq_true rfl⟩) hK hP hD hS hA hG [0, 1, 2, 3, 4, 5, 6, 7] hcX6_X6_0 ndX6_0 gtX6_0 rfl rfl rfl hl.1 [] rfl (Nat.le_of_ble_eq_true rfl) dX6_drain_31 ⟨(Nat.le_of_ble_eq_true rfl), (Nat.le_of_ble_eq_true rfl)⟩) hP hD hS hA [0, 1, 2, 3, 4, 5, 6, 7] hcX6_X6_0 hmX6 kpX6_X6_0 (fun H locs hP hD hS => ?_)
      cases hF
      exact hQ _ _ _ _ _ _ (fun _ => 0) dX6_drain_34 hP hD hS (Nat.le_of_ble_eq_true rfl) (Nat.le_of_ble_eq_true rfl)
  · replace hF := if_t hF c_2
    refine lv_aload_n hx hb dX6_drain_12 rfl (lv_at hl 0 rfl) ?_
    refine lv_iconst (v := 1) hx hb dX6_drain_13 (by decide) ?_
    replace hF := bnd_some hF
    obtain ⟨z7, hz_7, hF⟩ := hF
    refine kwIE (kV (As := [.int 1]) ⟨hx, hb, hml, hown, hts⟩ (kX6_fail l D cy sa h 0 pairs teams water vats moulds crews posts loft nums 1 z7 hz_7 _) (cwV 1 hts gX6_drain_X6_fail rfl rfl rfl (by decide +kernel) ⟨Nat.le_of_ble_eq_true rfl, Nat.le_of_ble_eq_true rfl⟩) hK hP hD hS hA hG [0, 1, 2, 3, 4, 5, 6, 7] hcX6_X6_0 ndX6_0 gtX6_0 rfl rfl rfl hl.1 [] rfl (Nat.le_of_ble_eq_true rfl) dX6_drain_14 ⟨(Nat.le_of_ble_eq_true rfl), (Nat.le_of_ble_eq_true rfl)⟩) hP hD hS hA [0, 1, 2, 3, 4, 5, 6, 7] hcX6_X6_0 hmX6 kpX6_X6_0 (fun H locs hP hD hS => ?_)
    cases hF
    exact hQ _ _ _ _ _ _ (fun _ => 0) dX6_drain_17 hP hD hS (Nat.le_of_ble_eq_true rfl) (Nat.le_of_ble_eq_true rfl)

def fX6_pair (pairs : Int32) (moulds : FN) (a1 : Int32) (a2 : Int32) : Option (Int32 × Int32 × Int32 × FN) := (fX6_isIn a1 0 9).bind fun z1 => if z1 = 0 then (fX6_fail 1).bind fun z10 => some (z10.1, z10.2, pairs, moulds) else (fX6_isIn a2 1 3).bind fun z3 => if z3 = 0 then (fX6_fail 2).bind fun z9 => some (z9.1, z9.2, pairs, moulds) else if pairs = 5 then (fX6_fail 3).bind fun z8 => some (z8.1, z8.2, pairs, moulds) else ckI ((3 * pairs) + 0) 15 (ckI ((3 * pairs) + 1) 15 (some ((pairs + 1) - 1, 0, pairs + 1, upd (upd moulds ((3 * pairs) + 0).toNatClampNeg a1) ((3 * pairs) + 1).toNatClampNeg a2)))
abbrev rX6_pair : Room := { frames := 1, cells := 0, slots := 0, locals := 22 }
set_option maxHeartbeats 4000000 in
set_option maxRecDepth 100000 in
theorem kX6_pair (l : Launch) (D : va_G) (cy : Nat → ClassId) (sa : Nat → Nat) (h : Nat → Nat) (thrown : Int32) (pairs : Int32) (teams : Int32) (water : FN) (vats : FN) (moulds : FN) (crews : FN) (posts : FN) (loft : FN) (nums : FN) (a1 : Int32) (a2 : Int32) (z : Int32 × Int32 × Int32 × FN) (hF : fX6_pair pairs moulds a1 a2 = some z) : KI l D (tyW cy) sa yX6_pair wsX6_pair rX6_pair [.ref (h 0), .int a1, .int a2] (wX6 cy h thrown pairs teams water vats moulds crews posts loft nums) z.1 (fun _ => wX6 cy h z.2.1 z.2.2.1 teams water vats z.2.2.2 crews posts loft nums) 0 0 := by
  refine KI.of (cc := cX6_pair) (maxL := 3) (by decide +kernel) rfl (Nat.le_of_ble_eq_true rfl) ?_
  intro p e s m args below meth c A ls Q hE hQ
  obtain ⟨hx, hb, hml, hown, hts, hA, hP, hK, hD, hG, hl, hnm⟩ := hE
  replace hown : s.vm.findClass RX6 = some m.cls := hown
  have hiX6 : ∀ w ∈ u_ws RX6 TX6 10, w ∈ wsX6_pair := by decide +kernel
  have hf16 : (Cond.fieldLink RX6 16 "RagVatsModel" "moulds" "[I").before args s = true := hts _ (by decide +kernel)
  have hf31 : (Cond.fieldLink RX6 31 "RagVatsModel" "thrown" "I").before args s = true := hts _ (by decide +kernel)
  have hf39 : (Cond.fieldLink RX6 39 "RagVatsModel" "pairs" "I").before args s = true := hts _ (by decide +kernel)
  replace hl : lv_has ls 3 [(0, .ref (h 0)), (1, .int a1), (2, .int a2)] := hl
  have hS : va_S A s.heap s.heap [] := va_S.rf
  unfold fX6_pair at hF
  refine lv_aload_n hx hb dX6_pair_0 rfl (lv_at hl 0 rfl) ?_
  refine lv_iconst (v := 0) hx hb dX6_pair_1 (by decide) ?_
  refine va_put (D := D) (v := .int 0) (ty := .int) (C := RX6) (T := TX6) (N := 10) hx hb hts hiX6 tyX6 tyX6_ok nmX6 hown hK hP hD hS 0 gtX6_0 rfl 0 (by decide) hf31 (fun _ h9 => h9) rfl (by decide +kernel) rfl rfl (Nat.le_of_ble_eq_true rfl) dX6_pair_2 (fun H locs hP hD hS => ?_)
  rw [stX6_0_0] at hP hD
  refine lv_iload_n hx hb dX6_pair_5 rfl (lv_at hl 1 rfl) ?_
  refine lv_iconst (v := 0) hx hb dX6_pair_6 (by decide) ?_
  refine lv_bipush (v := 9) hx hb dX6_pair_7 (by decide) ?_
  replace hF := bnd_some hF
  obtain ⟨z1, hz_1, hF⟩ := hF
  refine krI (kS (As := [.int a1, .int 0, .int 9]) ⟨hx, hb, hml, hown, hts⟩ (kX6_isIn l D cy sa a1 0 9 z1 hz_1 _) (cwS 3 hts gX6_pair_X6_isIn rfl rfl rfl (by decide +kernel) ⟨Nat.le_of_ble_eq_true rfl, Nat.le_of_ble_eq_true rfl⟩) hK hP hD hS hA hG [] rfl rfl rfl hl.1 [] rfl (Nat.le_of_ble_eq_true rfl) dX6_pair_9 ⟨(Nat.le_of_ble_eq_true rfl), (Nat.le_of_ble_eq_true rfl)⟩) hP hD hS hA [] rfl (fun H locs hP hS => ?_)
  refine lv_if_ne (tgt := 21) hx hb dX6_pair_12 (by decide) (fun c_2 => ?_) (fun c_2 => ?_)
  · replace hF := if_f hF c_2
    refine lv_iload_n hx hb dX6_pair_21 rfl (lv_at hl 2 rfl) ?_
    refine lv_iconst (v := 1) hx hb dX6_pair_22 (by decide) ?_
    refine lv_iconst (v := 3) hx hb dX6_pair_23 (by decide) ?_
    replace hF := bnd_some hF
    obtain ⟨z3, hz_3, hF⟩ := hF
    refine krI (kS (As := [.int a2, .int 1, .int 3]) ⟨hx, hb, hml, hown, hts⟩ (kX6_isIn l D cy sa a2 1 3 z3 hz_3 _) (cwS 3 hts gX6_pair_X6_isIn rfl rfl rfl (by decide +kernel) ⟨Nat.le_of_ble_eq_true rfl, Nat.le_of_ble_eq_true rfl⟩) hK hP hD hS hA hG [] rfl rfl rfl hl.1 [] rfl (Nat.le_of_ble_eq_true rfl) dX6_pair_24 ⟨(Nat.le_of_ble_eq_true rfl), (Nat.le_of_ble_eq_true rfl)⟩) hP hD hS hA [] rfl (fun H locs hP hS => ?_)
    refine lv_if_ne (tgt := 36) hx hb dX6_pair_27 (by decide) (fun c_4 => ?_) (fun c_4 => ?_)
    · replace hF := if_f hF c_4
      refine lv_aload_n hx hb dX6_pair_36 rfl (lv_at hl 0 rfl) ?_
      refine va_get (D := D) (C := RX6) (T := TX6) (N := 10) hx hb hts hiX6 hown hK hP 0 gtX6_0 rfl 1 (by decide) hf39 (fun _ h9 => h9) rfl dX6_pair_37 ?_
      refine lv_iconst (v := 5) hx hb dX6_pair_40 (by decide) ?_
      refine lv_icmp_ne (tgt := 50) hx hb dX6_pair_41 (by decide) (fun c_5 => ?_) (fun c_5 => ?_)
      · replace hF := if_f hF c_5
        refine lv_aload_n hx hb dX6_pair_50 rfl (lv_at hl 0 rfl) ?_
        refine va_get (D := D) (C := RX6) (T := TX6) (N := 10) hx hb hts hiX6 hown hK hP 0 gtX6_0 rfl 5 (by decide) hf16 (fun _ h9 => h9) rfl dX6_pair_51 ?_
        refine lv_iconst (v := 3) hx hb dX6_pair_54 (by decide) ?_
        refine lv_aload_n hx hb dX6_pair_55 rfl (lv_at hl 0 rfl) ?_
        refine va_get (D := D) (C := RX6) (T := TX6) (N := 10) hx hb hts hiX6 hown hK hP 0 gtX6_0 rfl 1 (by decide) hf39 (fun _ h9 => h9) rfl dX6_pair_56 ?_
        refine lv_imul hx hb dX6_pair_59 ?_
        refine lv_iconst (v := 0) hx hb dX6_pair_60 (by decide) ?_
        refine lv_iadd hx hb dX6_pair_61 ?_
        refine lv_iload_n hx hb dX6_pair_62 rfl (lv_at hl 1 rfl) ?_
        replace hF := ckI_some hF
        obtain ⟨hi_6, hF⟩ := hF
        refine va_iast hx hb hK hP hD hS 3 0 gtX6_3 rfl hi_6 dX6_pair_63 (fun H locs hP hD hS => ?_)
        rw [stX6_3] at hP hD
        refine lv_aload_n hx hb dX6_pair_64 rfl (lv_at hl 0 rfl) ?_
        refine va_get (D := D) (C := RX6) (T := TX6) (N := 10) hx hb hts hiX6 hown hK hP 0 gtX6_0 rfl 5 (by decide) hf16 (fun _ h9 => h9) rfl dX6_pair_65 ?_
        refine lv_iconst (v := 3) hx hb dX6_pair_68 (by decide) ?_
        refine lv_aload_n hx hb dX6_pair_69 rfl (lv_at hl 0 rfl) ?_
        refine va_get (D := D) (C := RX6) (T := TX6) (N := 10) hx hb hts hiX6 hown hK hP 0 gtX6_0 rfl 1 (by decide) hf39 (fun _ h9 => h9) rfl dX6_pair_70 ?_
        refine lv_imul hx hb dX6_pair_73 ?_
        refine lv_iconst (v := 1) hx hb dX6_pair_74 (by decide) ?_
        refine lv_iadd hx hb dX6_pair_75 ?_
        refine lv_iload_n hx hb dX6_pair_76 rfl (lv_at hl 2 rfl) ?_
        replace hF := ckI_some hF
        obtain ⟨hi_7, hF⟩ := hF
        refine va_iast hx hb hK hP hD hS 3 0 gtX6_3 rfl hi_7 dX6_pair_77 (fun H locs hP hD hS => ?_)
        rw [stX6_3] at hP hD
        refine lv_aload_n hx hb dX6_pair_78 rfl (lv_at hl 0 rfl) ?_
        refine lv_dup hx hb dX6_pair_79 rfl ?_
        refine va_get (D := D) (C := RX6) (T := TX6) (N := 10) hx hb hts hiX6 hown hK hP 0 gtX6_0 rfl 1 (by decide) hf39 (fun _ h9 => h9) rfl dX6_pair_80 ?_
        refine lv_iconst (v := 1) hx hb dX6_pair_83 (by decide) ?_
        refine lv_iadd hx hb dX6_pair_84 ?_
        refine va_put (D := D) (v := .int (pairs + 1)) (ty := .int) (C := RX6) (T := TX6) (N := 10) hx hb hts hiX6 tyX6 tyX6_ok nmX6 hown hK hP hD hS 0 gtX6_0 rfl 1 (by decide) hf39 (fun _ h9 => h9) rfl (by decide +kernel) rfl rfl (Nat.le_of_ble_eq_true rfl) dX6_pair_85 (fun H locs hP hD hS => ?_)
        rw [stX6_0_1] at hP hD
        refine lv_aload_n hx hb dX6_pair_88 rfl (lv_at hl 0 rfl) ?_
        refine va_get (D := D) (C := RX6) (T := TX6) (N := 10) hx hb hts hiX6 hown hK hP 0 gtX6_0 rfl 1 (by decide) hf39 (fun _ h9 => h9) rfl dX6_pair_89 ?_
        refine lv_iconst (v := 1) hx hb dX6_pair_92 (by decide) ?_
        refine lv_isub hx hb dX6_pair_93 ?_
        cases hF
        exact hQ _ _ _ _ _ _ (fun _ => 0) dX6_pair_94 hP hD hS (Nat.le_of_ble_eq_true rfl) (Nat.le_of_ble_eq_true rfl)
      · replace hF := if_t hF c_5
        refine lv_aload_n hx hb dX6_pair_44 rfl (lv_at hl 0 rfl) ?_
        refine lv_iconst (v := 3) hx hb dX6_pair_45 (by decide) ?_
        replace hF := bnd_some hF
        obtain ⟨z8, hz_8, hF⟩ := hF
        refine kwIE (kV (As := [.int 3]) ⟨hx, hb, hml, hown, hts⟩ (kX6_fail l D cy sa h 0 pairs teams water vats moulds crews posts loft nums 3 z8 hz_8 _) (cwV 1 hts gX6_pair_X6_fail rfl rfl rfl (by decide +kernel) ⟨Nat.le_of_ble_eq_true rfl, Nat.le_of_ble_eq_true rfl⟩) hK hP hD hS hA hG [0, 1, 2, 3, 4, 5, 6, 7] hcX6_X6_0 ndX6_0 gtX6_0 rfl rfl rfl hl.1 [] rfl (Nat.le_of_ble_eq_true rfl) dX6_pair_46 ⟨(Nat.le_of_ble_eq_true rfl), (Nat.le_of_ble_eq_true rfl)⟩) hP hD hS hA [0, 1, 2, 3, 4, 5, 6, 7] hcX6_X6_0 hmX6 kpX6_X6_0 (fun H locs hP hD hS => ?_)
        cases hF
        exact hQ _ _ _ _ _ _ (fun _ => 0) dX6_pair_49 hP hD hS (Nat.le_of_ble_eq_true rfl) (Nat.le_of_ble_eq_true rfl)
    · replace hF := if_t hF c_4
      refine lv_aload_n hx hb dX6_pair_30 rfl (lv_at hl 0 rfl) ?_
      refine lv_iconst (v := 2) hx hb dX6_pair_31 (by decide) ?_
      replace hF := bnd_some hF
      obtain ⟨z9, hz_9, hF⟩ := hF
      refine kwIE (kV (As := [.int 2]) ⟨hx, hb, hml, hown, hts⟩ (kX6_fail l D cy sa h 0 pairs teams water vats moulds crews posts loft nums 2 z9 hz_9 _) (cwV 1 hts gX6_pair_X6_fail rfl rfl rfl (by decide +kernel) ⟨Nat.le_of_ble_eq_true rfl, Nat.le_of_ble_eq_true rfl⟩) hK hP hD hS hA hG [0, 1, 2, 3, 4, 5, 6, 7] hcX6_X6_0 ndX6_0 gtX6_0 rfl rfl rfl hl.1 [] rfl (Nat.le_of_ble_eq_true rfl) dX6_pair_32 ⟨(Nat.le_of_ble_eq_true rfl), (Nat.le_of_ble_eq_true rfl)⟩) hP hD hS hA [0, 1, 2, 3, 4, 5, 6, 7] hcX6_X6_0 hmX6 kpX6_X6_0 (fun H locs hP hD hS => ?_)
      cases hF
      exact hQ _ _ _ _ _ _ (fun _ => 0) dX6_pair_35 hP hD hS (Nat.le_of_ble_eq_true rfl) (Nat.le_of_ble_eq_true rfl)
  · replace hF := if_t hF c_2
    refine lv_aload_n hx hb dX6_pair_15 rfl (lv_at hl 0 rfl) ?_
    refine lv_iconst (v := 1) hx hb dX6_pair_16 (by decide) ?_
    replace hF := bnd_some hF
    obtain ⟨z10, hz_10, hF⟩ := hF
    refine kwIE (kV (As := [.int 1]) ⟨hx, hb, hml, hown, hts⟩ (kX6_fail l D cy sa h 0 pairs teams water vats moulds crews posts loft nums 1 z10 hz_10 _) (cwV 1 hts gX6_pair_X6_fail rfl rfl rfl (by decide +kernel) ⟨Nat.le_of_ble_eq_true rfl, Nat.le_of_ble_eq_true rfl⟩) hK hP hD hS hA hG [0, 1, 2, 3, 4, 5, 6, 7] hcX6_X6_0 ndX6_0 gtX6_0 rfl rfl rfl hl.1 [] rfl (Nat.le_of_ble_eq_true rfl) dX6_pair_17 ⟨(Nat.le_of_ble_eq_true rfl), (Nat.le_of_ble_eq_true rfl)⟩) hP hD hS hA [0, 1, 2, 3, 4, 5, 6, 7] hcX6_X6_0 hmX6 kpX6_X6_0 (fun H locs hP hD hS => ?_)
    cases hF
    exact hQ _ _ _ _ _ _ (fun _ => 0) dX6_pair_20 hP hD hS (Nat.le_of_ble_eq_true rfl) (Nat.le_of_ble_eq_true rfl)

def fX6_wire (pairs : Int32) (moulds : FN) (nums : FN) (a1 : Int32) : Option (Int32 × Int32 × FN × FN) := (fX6_isPair pairs a1).bind fun z1 => if z1 = 0 then (fX6_fail 1).bind fun z12 => some (z12.1, z12.2, moulds, nums) else (fX6_mo moulds a1 2).bind fun z3 => if z3 = 0 then (fX6_fail 2).bind fun z5 => some (z5.1, z5.2, moulds, nums) else if 5 ≤ (nums (1 : Int32).toNatClampNeg) then ckI ((3 * a1) + 2) 15 (some (z3, 0, upd moulds ((3 * a1) + 2).toNatClampNeg 0, upd nums (1 : Int32).toNatClampNeg ((nums (1 : Int32).toNatClampNeg) - 5))) else (fX6_fail 2).bind fun z11 => some (z11.1, z11.2, moulds, nums)
abbrev rX6_wire : Room := { frames := 2, cells := 0, slots := 0, locals := 43 }
set_option maxHeartbeats 4000000 in
set_option maxRecDepth 100000 in
theorem kX6_wire (l : Launch) (D : va_G) (cy : Nat → ClassId) (sa : Nat → Nat) (h : Nat → Nat) (thrown : Int32) (pairs : Int32) (teams : Int32) (water : FN) (vats : FN) (moulds : FN) (crews : FN) (posts : FN) (loft : FN) (nums : FN) (a1 : Int32) (z : Int32 × Int32 × FN × FN) (hF : fX6_wire pairs moulds nums a1 = some z) : KI l D (tyW cy) sa yX6_wire wsX6_wire rX6_wire [.ref (h 0), .int a1] (wX6 cy h thrown pairs teams water vats moulds crews posts loft nums) z.1 (fun _ => wX6 cy h z.2.1 pairs teams water vats z.2.2.1 crews posts loft z.2.2.2) 0 0 := by
  refine KI.of (cc := cX6_wire) (maxL := 3) (by decide +kernel) rfl (Nat.le_of_ble_eq_true rfl) ?_
  intro p e s m args below meth c A ls Q hE hQ
  obtain ⟨hx, hb, hml, hown, hts, hA, hP, hK, hD, hG, hl, hnm⟩ := hE
  replace hown : s.vm.findClass RX6 = some m.cls := hown
  have hiX6 : ∀ w ∈ u_ws RX6 TX6 10, w ∈ wsX6_wire := by decide +kernel
  have hf16 : (Cond.fieldLink RX6 16 "RagVatsModel" "moulds" "[I").before args s = true := hts _ (by decide +kernel)
  have hf28 : (Cond.fieldLink RX6 28 "RagVatsModel" "numbers" "[I").before args s = true := hts _ (by decide +kernel)
  have hf31 : (Cond.fieldLink RX6 31 "RagVatsModel" "thrown" "I").before args s = true := hts _ (by decide +kernel)
  replace hl : lv_has ls 3 [(0, .ref (h 0)), (1, .int a1)] := hl
  have hS : va_S A s.heap s.heap [] := va_S.rf
  unfold fX6_wire at hF
  refine lv_aload_n hx hb dX6_wire_0 rfl (lv_at hl 0 rfl) ?_
  refine lv_iconst (v := 0) hx hb dX6_wire_1 (by decide) ?_
  refine va_put (D := D) (v := .int 0) (ty := .int) (C := RX6) (T := TX6) (N := 10) hx hb hts hiX6 tyX6 tyX6_ok nmX6 hown hK hP hD hS 0 gtX6_0 rfl 0 (by decide) hf31 (fun _ h9 => h9) rfl (by decide +kernel) rfl rfl (Nat.le_of_ble_eq_true rfl) dX6_wire_2 (fun H locs hP hD hS => ?_)
  rw [stX6_0_0] at hP hD
  refine lv_aload_n hx hb dX6_wire_5 rfl (lv_at hl 0 rfl) ?_
  refine lv_iload_n hx hb dX6_wire_6 rfl (lv_at hl 1 rfl) ?_
  replace hF := bnd_some hF
  obtain ⟨z1, hz_1, hF⟩ := hF
  refine krI (kV (As := [.int a1]) ⟨hx, hb, hml, hown, hts⟩ (kX6_isPair l D cy sa h 0 pairs teams water vats moulds crews posts loft nums a1 z1 hz_1 _) (cwV 1 hts gX6_wire_X6_isPair rfl rfl rfl (by decide +kernel) ⟨Nat.le_of_ble_eq_true rfl, Nat.le_of_ble_eq_true rfl⟩) hK hP hD hS hA hG [0, 1, 2, 3, 4, 5, 6, 7] hcX6_X6_0 ndX6_0 gtX6_0 rfl rfl rfl hl.1 [] rfl (Nat.le_of_ble_eq_true rfl) dX6_wire_7 ⟨(Nat.le_of_ble_eq_true rfl), (Nat.le_of_ble_eq_true rfl)⟩) hP hD hS hA [0, 1, 2, 3, 4, 5, 6, 7] hcX6_X6_0 (fun H locs hP hS => ?_)
  refine lv_if_ne (tgt := 19) hx hb dX6_wire_10 (by decide) (fun c_2 => ?_) (fun c_2 => ?_)
  · replace hF := if_f hF c_2
    refine lv_aload_n hx hb dX6_wire_19 rfl (lv_at hl 0 rfl) ?_
    refine lv_iload_n hx hb dX6_wire_20 rfl (lv_at hl 1 rfl) ?_
    refine lv_iconst (v := 2) hx hb dX6_wire_21 (by decide) ?_
    replace hF := bnd_some hF
    obtain ⟨z3, hz_3, hF⟩ := hF
    refine krI (kV (As := [.int a1, .int 2]) ⟨hx, hb, hml, hown, hts⟩ (kX6_mo l D cy sa h 0 pairs teams water vats moulds crews posts loft nums a1 2 z3 hz_3 _) (cwV 2 hts gX6_wire_X6_mo rfl rfl rfl (by decide +kernel) ⟨Nat.le_of_ble_eq_true rfl, Nat.le_of_ble_eq_true rfl⟩) hK hP hD hS hA hG [0, 1, 2, 3, 4, 5, 6, 7] hcX6_X6_0 ndX6_0 gtX6_0 rfl rfl rfl hl.1 [] rfl (Nat.le_of_ble_eq_true rfl) dX6_wire_22 ⟨(Nat.le_of_ble_eq_true rfl), (Nat.le_of_ble_eq_true rfl)⟩) hP hD hS hA [0, 1, 2, 3, 4, 5, 6, 7] hcX6_X6_0 (fun H locs hP hS => ?_)
    refine lv_istore_n (lv' := [(2, .int z3), (0, .ref (h 0)), (1, .int a1)]) hx hb dX6_wire_25 rfl hl (by decide) rfl (fun ls hl => ?_)
    refine lv_iload_n hx hb dX6_wire_26 rfl (lv_at hl 0 rfl) ?_
    refine lv_if_eq (tgt := 40) hx hb dX6_wire_27 (by decide) (fun c_4 => ?_) (fun c_4 => ?_)
    · replace hF := if_t hF c_4
      refine lv_aload_n hx hb dX6_wire_40 rfl (lv_at hl 1 rfl) ?_
      refine lv_iconst (v := 2) hx hb dX6_wire_41 (by decide) ?_
      replace hF := bnd_some hF
      obtain ⟨z5, hz_5, hF⟩ := hF
      refine kwIE (kV (As := [.int 2]) ⟨hx, hb, hml, hown, hts⟩ (kX6_fail l D cy sa h 0 pairs teams water vats moulds crews posts loft nums 2 z5 hz_5 _) (cwV 1 hts gX6_wire_X6_fail rfl rfl rfl (by decide +kernel) ⟨Nat.le_of_ble_eq_true rfl, Nat.le_of_ble_eq_true rfl⟩) hK hP hD hS hA hG [0, 1, 2, 3, 4, 5, 6, 7] hcX6_X6_0 ndX6_0 gtX6_0 rfl rfl rfl hl.1 [] rfl (Nat.le_of_ble_eq_true rfl) dX6_wire_42 ⟨(Nat.le_of_ble_eq_true rfl), (Nat.le_of_ble_eq_true rfl)⟩) hP hD hS hA [0, 1, 2, 3, 4, 5, 6, 7] hcX6_X6_0 hmX6 kpX6_X6_0 (fun H locs hP hD hS => ?_)
      cases hF
      exact hQ _ _ _ _ _ _ (fun _ => 0) dX6_wire_45 hP hD hS (Nat.le_of_ble_eq_true rfl) (Nat.le_of_ble_eq_true rfl)
    · replace hF := if_f hF c_4
      refine lv_aload_n hx hb dX6_wire_30 rfl (lv_at hl 1 rfl) ?_
      refine va_get (D := D) (C := RX6) (T := TX6) (N := 10) hx hb hts hiX6 hown hK hP 0 gtX6_0 rfl 9 (by decide) hf28 (fun _ h9 => h9) rfl dX6_wire_31 ?_
      refine lv_iconst (v := 1) hx hb dX6_wire_34 (by decide) ?_
      refine va_iald hx hb hK hP 7 0 gtX6_7 rfl (show ¬ ((1 : Int32) < 0 ∨ 9 ≤ (1 : Int32).toNatClampNeg) from by decide) dX6_wire_35 ?_
      refine lv_iconst (v := 5) hx hb dX6_wire_36 (by decide) ?_
      refine lv_icmp_ge (tgt := 46) hx hb dX6_wire_37 (by decide) (fun c_7 => ?_) (fun c_7 => ?_)
      · replace hF := if_t hF c_7
        refine lv_aload_n hx hb dX6_wire_46 rfl (lv_at hl 1 rfl) ?_
        refine va_get (D := D) (C := RX6) (T := TX6) (N := 10) hx hb hts hiX6 hown hK hP 0 gtX6_0 rfl 9 (by decide) hf28 (fun _ h9 => h9) rfl dX6_wire_47 ?_
        refine lv_iconst (v := 1) hx hb dX6_wire_50 (by decide) ?_
        refine lv_dup2_11 hx hb dX6_wire_51 rfl rfl ?_
        refine va_iald hx hb hK hP 7 0 gtX6_7 rfl (show ¬ ((1 : Int32) < 0 ∨ 9 ≤ (1 : Int32).toNatClampNeg) from by decide) dX6_wire_52 ?_
        refine lv_iconst (v := 5) hx hb dX6_wire_53 (by decide) ?_
        refine lv_isub hx hb dX6_wire_54 ?_
        refine va_iast hx hb hK hP hD hS 7 0 gtX6_7 rfl (show ¬ ((1 : Int32) < 0 ∨ 9 ≤ (1 : Int32).toNatClampNeg) from by decide) dX6_wire_55 (fun H locs hP hD hS => ?_)
        rw [stX6_7] at hP hD
        refine lv_aload_n hx hb dX6_wire_56 rfl (lv_at hl 1 rfl) ?_
        refine va_get (D := D) (C := RX6) (T := TX6) (N := 10) hx hb hts hiX6 hown hK hP 0 gtX6_0 rfl 5 (by decide) hf16 (fun _ h9 => h9) rfl dX6_wire_57 ?_
        refine lv_iconst (v := 3) hx hb dX6_wire_60 (by decide) ?_
        refine lv_iload_n hx hb dX6_wire_61 rfl (lv_at hl 2 rfl) ?_
        refine lv_imul hx hb dX6_wire_62 ?_
        refine lv_iconst (v := 2) hx hb dX6_wire_63 (by decide) ?_
        refine lv_iadd hx hb dX6_wire_64 ?_
        refine lv_iconst (v := 0) hx hb dX6_wire_65 (by decide) ?_
        replace hF := ckI_some hF
        obtain ⟨hi_10, hF⟩ := hF
        refine va_iast hx hb hK hP hD hS 3 0 gtX6_3 rfl hi_10 dX6_wire_66 (fun H locs hP hD hS => ?_)
        rw [stX6_3] at hP hD
        refine lv_iload_n hx hb dX6_wire_67 rfl (lv_at hl 0 rfl) ?_
        cases hF
        exact hQ _ _ _ _ _ _ (fun _ => 0) dX6_wire_68 hP hD hS (Nat.le_of_ble_eq_true rfl) (Nat.le_of_ble_eq_true rfl)
      · replace hF := if_f hF c_7
        refine lv_aload_n hx hb dX6_wire_40 rfl (lv_at hl 1 rfl) ?_
        refine lv_iconst (v := 2) hx hb dX6_wire_41 (by decide) ?_
        replace hF := bnd_some hF
        obtain ⟨z11, hz_11, hF⟩ := hF
        refine kwIE (kV (As := [.int 2]) ⟨hx, hb, hml, hown, hts⟩ (kX6_fail l D cy sa h 0 pairs teams water vats moulds crews posts loft nums 2 z11 hz_11 _) (cwV 1 hts gX6_wire_X6_fail rfl rfl rfl (by decide +kernel) ⟨Nat.le_of_ble_eq_true rfl, Nat.le_of_ble_eq_true rfl⟩) hK hP hD hS hA hG [0, 1, 2, 3, 4, 5, 6, 7] hcX6_X6_0 ndX6_0 gtX6_0 rfl rfl rfl hl.1 [] rfl (Nat.le_of_ble_eq_true rfl) dX6_wire_42 ⟨(Nat.le_of_ble_eq_true rfl), (Nat.le_of_ble_eq_true rfl)⟩) hP hD hS hA [0, 1, 2, 3, 4, 5, 6, 7] hcX6_X6_0 hmX6 kpX6_X6_0 (fun H locs hP hD hS => ?_)
        cases hF
        exact hQ _ _ _ _ _ _ (fun _ => 0) dX6_wire_45 hP hD hS (Nat.le_of_ble_eq_true rfl) (Nat.le_of_ble_eq_true rfl)
  · replace hF := if_t hF c_2
    refine lv_aload_n hx hb dX6_wire_13 rfl (lv_at hl 0 rfl) ?_
    refine lv_iconst (v := 1) hx hb dX6_wire_14 (by decide) ?_
    replace hF := bnd_some hF
    obtain ⟨z12, hz_12, hF⟩ := hF
    refine kwIE (kV (As := [.int 1]) ⟨hx, hb, hml, hown, hts⟩ (kX6_fail l D cy sa h 0 pairs teams water vats moulds crews posts loft nums 1 z12 hz_12 _) (cwV 1 hts gX6_wire_X6_fail rfl rfl rfl (by decide +kernel) ⟨Nat.le_of_ble_eq_true rfl, Nat.le_of_ble_eq_true rfl⟩) hK hP hD hS hA hG [0, 1, 2, 3, 4, 5, 6, 7] hcX6_X6_0 ndX6_0 gtX6_0 rfl rfl rfl hl.1 [] rfl (Nat.le_of_ble_eq_true rfl) dX6_wire_15 ⟨(Nat.le_of_ble_eq_true rfl), (Nat.le_of_ble_eq_true rfl)⟩) hP hD hS hA [0, 1, 2, 3, 4, 5, 6, 7] hcX6_X6_0 hmX6 kpX6_X6_0 (fun H locs hP hD hS => ?_)
    cases hF
    exact hQ _ _ _ _ _ _ (fun _ => 0) dX6_wire_18 hP hD hS (Nat.le_of_ble_eq_true rfl) (Nat.le_of_ble_eq_true rfl)

def fX6_team (teams : Int32) (crews : FN) (a1 : Int32) : Option (Int32 × Int32 × Int32 × FN) := (fX6_isIn a1 1 12).bind fun z1 => if z1 = 0 then (fX6_fail 1).bind fun z8 => some (z8.1, z8.2, teams, crews) else if teams = 3 then (fX6_fail 2).bind fun z7 => some (z7.1, z7.2, teams, crews) else ckI ((3 * teams) + 0) 9 (ckI ((3 * teams) + 1) 9 (ckI ((3 * teams) + 2) 9 (some ((teams + 1) - 1, 0, teams + 1, upd (upd (upd crews ((3 * teams) + 0).toNatClampNeg a1) ((3 * teams) + 1).toNatClampNeg (-1)) ((3 * teams) + 2).toNatClampNeg (-1)))))
abbrev rX6_team : Room := { frames := 1, cells := 0, slots := 0, locals := 22 }
set_option maxHeartbeats 4000000 in
set_option maxRecDepth 100000 in
theorem kX6_team (l : Launch) (D : va_G) (cy : Nat → ClassId) (sa : Nat → Nat) (h : Nat → Nat) (thrown : Int32) (pairs : Int32) (teams : Int32) (water : FN) (vats : FN) (moulds : FN) (crews : FN) (posts : FN) (loft : FN) (nums : FN) (a1 : Int32) (z : Int32 × Int32 × Int32 × FN) (hF : fX6_team teams crews a1 = some z) : KI l D (tyW cy) sa yX6_team wsX6_team rX6_team [.ref (h 0), .int a1] (wX6 cy h thrown pairs teams water vats moulds crews posts loft nums) z.1 (fun _ => wX6 cy h z.2.1 pairs z.2.2.1 water vats moulds z.2.2.2 posts loft nums) 0 0 := by
  refine KI.of (cc := cX6_team) (maxL := 2) (by decide +kernel) rfl (Nat.le_of_ble_eq_true rfl) ?_
  intro p e s m args below meth c A ls Q hE hQ
  obtain ⟨hx, hb, hml, hown, hts, hA, hP, hK, hD, hG, hl, hnm⟩ := hE
  replace hown : s.vm.findClass RX6 = some m.cls := hown
  have hiX6 : ∀ w ∈ u_ws RX6 TX6 10, w ∈ wsX6_team := by decide +kernel
  have hf19 : (Cond.fieldLink RX6 19 "RagVatsModel" "crews" "[I").before args s = true := hts _ (by decide +kernel)
  have hf31 : (Cond.fieldLink RX6 31 "RagVatsModel" "thrown" "I").before args s = true := hts _ (by decide +kernel)
  have hf42 : (Cond.fieldLink RX6 42 "RagVatsModel" "teams" "I").before args s = true := hts _ (by decide +kernel)
  replace hl : lv_has ls 2 [(0, .ref (h 0)), (1, .int a1)] := hl
  have hS : va_S A s.heap s.heap [] := va_S.rf
  unfold fX6_team at hF
  refine lv_aload_n hx hb dX6_team_0 rfl (lv_at hl 0 rfl) ?_
  refine lv_iconst (v := 0) hx hb dX6_team_1 (by decide) ?_
  refine va_put (D := D) (v := .int 0) (ty := .int) (C := RX6) (T := TX6) (N := 10) hx hb hts hiX6 tyX6 tyX6_ok nmX6 hown hK hP hD hS 0 gtX6_0 rfl 0 (by decide) hf31 (fun _ h9 => h9) rfl (by decide +kernel) rfl rfl (Nat.le_of_ble_eq_true rfl) dX6_team_2 (fun H locs hP hD hS => ?_)
  rw [stX6_0_0] at hP hD
  refine lv_iload_n hx hb dX6_team_5 rfl (lv_at hl 1 rfl) ?_
  refine lv_iconst (v := 1) hx hb dX6_team_6 (by decide) ?_
  refine lv_bipush (v := 12) hx hb dX6_team_7 (by decide) ?_
  replace hF := bnd_some hF
  obtain ⟨z1, hz_1, hF⟩ := hF
  refine krI (kS (As := [.int a1, .int 1, .int 12]) ⟨hx, hb, hml, hown, hts⟩ (kX6_isIn l D cy sa a1 1 12 z1 hz_1 _) (cwS 3 hts gX6_team_X6_isIn rfl rfl rfl (by decide +kernel) ⟨Nat.le_of_ble_eq_true rfl, Nat.le_of_ble_eq_true rfl⟩) hK hP hD hS hA hG [] rfl rfl rfl hl.1 [] rfl (Nat.le_of_ble_eq_true rfl) dX6_team_9 ⟨(Nat.le_of_ble_eq_true rfl), (Nat.le_of_ble_eq_true rfl)⟩) hP hD hS hA [] rfl (fun H locs hP hS => ?_)
  refine lv_if_ne (tgt := 21) hx hb dX6_team_12 (by decide) (fun c_2 => ?_) (fun c_2 => ?_)
  · replace hF := if_f hF c_2
    refine lv_aload_n hx hb dX6_team_21 rfl (lv_at hl 0 rfl) ?_
    refine va_get (D := D) (C := RX6) (T := TX6) (N := 10) hx hb hts hiX6 hown hK hP 0 gtX6_0 rfl 2 (by decide) hf42 (fun _ h9 => h9) rfl dX6_team_22 ?_
    refine lv_iconst (v := 3) hx hb dX6_team_25 (by decide) ?_
    refine lv_icmp_ne (tgt := 35) hx hb dX6_team_26 (by decide) (fun c_3 => ?_) (fun c_3 => ?_)
    · replace hF := if_f hF c_3
      refine lv_aload_n hx hb dX6_team_35 rfl (lv_at hl 0 rfl) ?_
      refine va_get (D := D) (C := RX6) (T := TX6) (N := 10) hx hb hts hiX6 hown hK hP 0 gtX6_0 rfl 6 (by decide) hf19 (fun _ h9 => h9) rfl dX6_team_36 ?_
      refine lv_iconst (v := 3) hx hb dX6_team_39 (by decide) ?_
      refine lv_aload_n hx hb dX6_team_40 rfl (lv_at hl 0 rfl) ?_
      refine va_get (D := D) (C := RX6) (T := TX6) (N := 10) hx hb hts hiX6 hown hK hP 0 gtX6_0 rfl 2 (by decide) hf42 (fun _ h9 => h9) rfl dX6_team_41 ?_
      refine lv_imul hx hb dX6_team_44 ?_
      refine lv_iconst (v := 0) hx hb dX6_team_45 (by decide) ?_
      refine lv_iadd hx hb dX6_team_46 ?_
      refine lv_iload_n hx hb dX6_team_47 rfl (lv_at hl 1 rfl) ?_
      replace hF := ckI_some hF
      obtain ⟨hi_4, hF⟩ := hF
      refine va_iast hx hb hK hP hD hS 4 0 gtX6_4 rfl hi_4 dX6_team_48 (fun H locs hP hD hS => ?_)
      rw [stX6_4] at hP hD
      refine lv_aload_n hx hb dX6_team_49 rfl (lv_at hl 0 rfl) ?_
      refine va_get (D := D) (C := RX6) (T := TX6) (N := 10) hx hb hts hiX6 hown hK hP 0 gtX6_0 rfl 6 (by decide) hf19 (fun _ h9 => h9) rfl dX6_team_50 ?_
      refine lv_iconst (v := 3) hx hb dX6_team_53 (by decide) ?_
      refine lv_aload_n hx hb dX6_team_54 rfl (lv_at hl 0 rfl) ?_
      refine va_get (D := D) (C := RX6) (T := TX6) (N := 10) hx hb hts hiX6 hown hK hP 0 gtX6_0 rfl 2 (by decide) hf42 (fun _ h9 => h9) rfl dX6_team_55 ?_
      refine lv_imul hx hb dX6_team_58 ?_
      refine lv_iconst (v := 1) hx hb dX6_team_59 (by decide) ?_
      refine lv_iadd hx hb dX6_team_60 ?_
      refine lv_iconst (v := -1) hx hb dX6_team_61 (by decide) ?_
      replace hF := ckI_some hF
      obtain ⟨hi_5, hF⟩ := hF
      refine va_iast hx hb hK hP hD hS 4 0 gtX6_4 rfl hi_5 dX6_team_62 (fun H locs hP hD hS => ?_)
      rw [stX6_4] at hP hD
      refine lv_aload_n hx hb dX6_team_63 rfl (lv_at hl 0 rfl) ?_
      refine va_get (D := D) (C := RX6) (T := TX6) (N := 10) hx hb hts hiX6 hown hK hP 0 gtX6_0 rfl 6 (by decide) hf19 (fun _ h9 => h9) rfl dX6_team_64 ?_
      refine lv_iconst (v := 3) hx hb dX6_team_67 (by decide) ?_
      refine lv_aload_n hx hb dX6_team_68 rfl (lv_at hl 0 rfl) ?_
      refine va_get (D := D) (C := RX6) (T := TX6) (N := 10) hx hb hts hiX6 hown hK hP 0 gtX6_0 rfl 2 (by decide) hf42 (fun _ h9 => h9) rfl dX6_team_69 ?_
      refine lv_imul hx hb dX6_team_72 ?_
      refine lv_iconst (v := 2) hx hb dX6_team_73 (by decide) ?_
      refine lv_iadd hx hb dX6_team_74 ?_
      refine lv_iconst (v := -1) hx hb dX6_team_75 (by decide) ?_
      replace hF := ckI_some hF
      obtain ⟨hi_6, hF⟩ := hF
      refine va_iast hx hb hK hP hD hS 4 0 gtX6_4 rfl hi_6 dX6_team_76 (fun H locs hP hD hS => ?_)
      rw [stX6_4] at hP hD
      refine lv_aload_n hx hb dX6_team_77 rfl (lv_at hl 0 rfl) ?_
      refine lv_dup hx hb dX6_team_78 rfl ?_
      refine va_get (D := D) (C := RX6) (T := TX6) (N := 10) hx hb hts hiX6 hown hK hP 0 gtX6_0 rfl 2 (by decide) hf42 (fun _ h9 => h9) rfl dX6_team_79 ?_
      refine lv_iconst (v := 1) hx hb dX6_team_82 (by decide) ?_
      refine lv_iadd hx hb dX6_team_83 ?_
      refine va_put (D := D) (v := .int (teams + 1)) (ty := .int) (C := RX6) (T := TX6) (N := 10) hx hb hts hiX6 tyX6 tyX6_ok nmX6 hown hK hP hD hS 0 gtX6_0 rfl 2 (by decide) hf42 (fun _ h9 => h9) rfl (by decide +kernel) rfl rfl (Nat.le_of_ble_eq_true rfl) dX6_team_84 (fun H locs hP hD hS => ?_)
      rw [stX6_0_2] at hP hD
      refine lv_aload_n hx hb dX6_team_87 rfl (lv_at hl 0 rfl) ?_
      refine va_get (D := D) (C := RX6) (T := TX6) (N := 10) hx hb hts hiX6 hown hK hP 0 gtX6_0 rfl 2 (by decide) hf42 (fun _ h9 => h9) rfl dX6_team_88 ?_
      refine lv_iconst (v := 1) hx hb dX6_team_91 (by decide) ?_
      refine lv_isub hx hb dX6_team_92 ?_
      cases hF
      exact hQ _ _ _ _ _ _ (fun _ => 0) dX6_team_93 hP hD hS (Nat.le_of_ble_eq_true rfl) (Nat.le_of_ble_eq_true rfl)
    · replace hF := if_t hF c_3
      refine lv_aload_n hx hb dX6_team_29 rfl (lv_at hl 0 rfl) ?_
      refine lv_iconst (v := 2) hx hb dX6_team_30 (by decide) ?_
      replace hF := bnd_some hF
      obtain ⟨z7, hz_7, hF⟩ := hF
      refine kwIE (kV (As := [.int 2]) ⟨hx, hb, hml, hown, hts⟩ (kX6_fail l D cy sa h 0 pairs teams water vats moulds crews posts loft nums 2 z7 hz_7 _) (cwV 1 hts gX6_team_X6_fail rfl rfl rfl (by decide +kernel) ⟨Nat.le_of_ble_eq_true rfl, Nat.le_of_ble_eq_true rfl⟩) hK hP hD hS hA hG [0, 1, 2, 3, 4, 5, 6, 7] hcX6_X6_0 ndX6_0 gtX6_0 rfl rfl rfl hl.1 [] rfl (Nat.le_of_ble_eq_true rfl) dX6_team_31 ⟨(Nat.le_of_ble_eq_true rfl), (Nat.le_of_ble_eq_true rfl)⟩) hP hD hS hA [0, 1, 2, 3, 4, 5, 6, 7] hcX6_X6_0 hmX6 kpX6_X6_0 (fun H locs hP hD hS => ?_)
      cases hF
      exact hQ _ _ _ _ _ _ (fun _ => 0) dX6_team_34 hP hD hS (Nat.le_of_ble_eq_true rfl) (Nat.le_of_ble_eq_true rfl)
  · replace hF := if_t hF c_2
    refine lv_aload_n hx hb dX6_team_15 rfl (lv_at hl 0 rfl) ?_
    refine lv_iconst (v := 1) hx hb dX6_team_16 (by decide) ?_
    replace hF := bnd_some hF
    obtain ⟨z8, hz_8, hF⟩ := hF
    refine kwIE (kV (As := [.int 1]) ⟨hx, hb, hml, hown, hts⟩ (kX6_fail l D cy sa h 0 pairs teams water vats moulds crews posts loft nums 1 z8 hz_8 _) (cwV 1 hts gX6_team_X6_fail rfl rfl rfl (by decide +kernel) ⟨Nat.le_of_ble_eq_true rfl, Nat.le_of_ble_eq_true rfl⟩) hK hP hD hS hA hG [0, 1, 2, 3, 4, 5, 6, 7] hcX6_X6_0 ndX6_0 gtX6_0 rfl rfl rfl hl.1 [] rfl (Nat.le_of_ble_eq_true rfl) dX6_team_17 ⟨(Nat.le_of_ble_eq_true rfl), (Nat.le_of_ble_eq_true rfl)⟩) hP hD hS hA [0, 1, 2, 3, 4, 5, 6, 7] hcX6_X6_0 hmX6 kpX6_X6_0 (fun H locs hP hD hS => ?_)
    cases hF
    exact hQ _ _ _ _ _ _ (fun _ => 0) dX6_team_20 hP hD hS (Nat.le_of_ble_eq_true rfl) (Nat.le_of_ble_eq_true rfl)
