/-! what is done to both -/
def zl_INV (A D : Nat) (X : XT) (G : FN) (F : Nat → Nat) (p : zs_H) : Prop := ∃ N T F0 c l R, CI D N T F0 l X.1 ∧ SR X.1 N T l.length G F p R zr_e ∧ X.1.coins = nI c ∧ c ≤ 40 + 108 * A ∧ ∀ j, j < 3 → ∃ n, n ≤ 60 + 12 * A ∧ X.1.rags j = nI n
def zl_OK (A D : Nat) (o : Option (XT × FN × (Nat → Nat) × zs_H)) : Prop := ∃ X G F p, o = some (X, G, F, p) ∧ zl_INV A D X G F p
theorem zl_INV.mono {A A2 D : Nat} {X : XT} {G : FN} {F : Nat → Nat} {p : zs_H} (h : zl_INV A D X G F p) (ha : A ≤ A2) : zl_INV A2 D X G F p := by
  obtain ⟨N, T, F0, c, l, R, C, H, h1, h2, h3⟩ := h
  exact ⟨N, T, F0, c, l, R, C, H, h1, by omega, fun j hj => by obtain ⟨n, hn, e⟩ := h3 j hj; exact ⟨n, by omega, e⟩⟩
theorem zl_stay {A D : Nat} {X : XT} {G : FN} {F : Nat → Nat} {p : zs_H} (h : zl_INV A D X G F p) : zl_OK (A + 1) D (some (X, G, F, p)) := ⟨X, G, F, p, rfl, h.mono (Nat.le_succ A)⟩
theorem pu_from1 {k b : Nat} (h1 : 1 ≤ k) (h2 : k ≤ b) (hb : b < 2147483648) : fX5_isFrom1To (nI k) (nI b) = some 1 := by
  rw [pu_from, if_pos (by rw [pu_ti (by omega), pu_ti hb]; omega)]
theorem n10 : ¬ (1 : Int32) = 0 := by decide
theorem pu_ne {a b : Nat} (h : a ≠ b) (ha : a < 2147483648) (hb : b < 2147483648) : ¬ nI a = nI b := fun e => h ((pu_eq ha hb).mp e)
def zl_pr (w : Nat) : Nat := if w = 3 then 2 else 3 - w
theorem zx_buy3 {X : XT} {F0 c k : Nat} (hF : X.1.felts = nI F0) (hc : X.1.coins = nI c) (h1 : 1 ≤ k) (h2 : k ≤ 12) (h3 : 2 * k ≤ c) (hc2 : c < 1000000) (h4 : F0 + k ≤ 90) : zx_buy X (nI 3) (nI k) = some (nI (F0 + k), ((MS.of X.1.day (nI (c - 2 * k)) (nI (F0 + k)) X.1.made X.1.worth X.1.rags X.1.water X.1.pulp X.1.beat X.1.sort X.1.nM X.1.mark X.1.size X.1.worn X.1.nT X.1.skill X.1.vat X.1.pair X.1.nQ X.1.allS X.1.pmark X.1.pgrade X.1.psheets X.1.loft), X.2)) := by
  unfold zx_buy fX5_buy fX0_takeIn
  rw [hF, hc, show (4 : Int32) = nI 4 from rfl, pb_in (show 3 < 4 by omega) (by omega), pu_bs, if_neg n10, show (99 : Int32) = nI 99 from rfl, pu_from1 h1 (by omega) (by omega), pu_bs, if_neg n10, pu_ck (show 3 < 4 by omega) (by omega), show ([3, 2, 1, 2] : List Int32).getD (nI 3).toNatClampNeg 0 = nI 2 from by decide, pu_mul, if_pos (by rw [pu_le (by omega) (by omega)]; exact h3), if_pos (show nI 3 = 3 from rfl), pu_add, if_pos (show nI (F0 + k) ≤ 90 by rw [show (90 : Int32) = nI 90 from rfl, pu_le (by omega) (by omega)]; omega), show fX5_isBelow (nI 3) 3 = some 0 from by decide, pu_bs, if_pos rfl, pu_bs, pu_sub h3]
theorem zx_buyW {X : XT} {w n c k : Nat} (hw : w < 3) (hn : X.1.rags w = nI n) (hc : X.1.coins = nI c) (h1 : 1 ≤ k) (h2 : k ≤ 12) (h3 : (3 - w) * k ≤ c) (hc2 : c < 1000000) : zx_buy X (nI w) (nI k) = some (nI (n + k), ((MS.of X.1.day (nI (c - (3 - w) * k)) X.1.felts X.1.made X.1.worth (upd X.1.rags w (nI (n + k))) X.1.water X.1.pulp X.1.beat X.1.sort X.1.nM X.1.mark X.1.size X.1.worn X.1.nT X.1.skill X.1.vat X.1.pair X.1.nQ X.1.allS X.1.pmark X.1.pgrade X.1.psheets X.1.loft), X.2)) := by
  have hg : ([3, 2, 1, 2] : List Int32).getD (nI w).toNatClampNeg 0 = nI (3 - w) := by
    rcases (show w = 0 ∨ w = 1 ∨ w = 2 by omega) with rfl | rfl | rfl <;> decide
  unfold zx_buy fX5_buy fX0_takeIn
  rw [hc, show (4 : Int32) = nI 4 from rfl, pb_in (show w < 4 by omega) (by omega), pu_bs, if_neg n10, show (99 : Int32) = nI 99 from rfl, pu_from1 h1 (by omega) (by omega), pu_bs, if_neg n10, pu_ck (show w < 4 by omega) (by omega), hg, pu_mul, if_pos (by rw [pu_le (by omega) (by omega)]; exact h3), if_neg (show ¬ nI w = 3 from fun e => by have := (pu_eq (a := w) (b := 3) (by omega) (by omega)).mp e; omega), show (3 : Int32) = nI 3 from rfl, pb_in hw (by omega), pu_bs, if_neg n10, pu_ck hw (by omega), pu_ck hw (by omega), pu_ck hw (by omega), pu_tn (by omega), hn, pu_add, pu_bs, pu_sub h3, pu_up]
theorem zc_rags (m : MS) (w : Nat) (x : Int32) : ∀ k2 j2 c2, j2 < zl_z 0 0 0 k2 ∨ k2 ≠ 5 → zr_c (zl_C m) 5 0 w x k2 j2 c2 = zl_C (MS.of m.day m.coins m.felts m.made m.worth (upd m.rags w x) m.water m.pulp m.beat m.sort m.nM m.mark m.size m.worn m.nT m.skill m.vat m.pair m.nQ m.allS m.pmark m.pgrade m.psheets m.loft) k2 j2 c2 := by
  intro k2 j2 c2 hj
  by_cases h : k2 = 5 ∧ j2 = 0 ∧ c2 = w
  · obtain ⟨rfl, rfl, rfl⟩ := h
    rw [zc_eq]
    exact pu_up.symm
  · rw [zc_ne h]
    rcases k2 with _ | _ | _ | _ | _ | _ | k2
    · rfl
    · rfl
    · rfl
    · rfl
    · rfl
    · have h3 : j2 < 1 := hj.resolve_right (fun h => h rfl)
      exact (show upd m.rags w x c2 = m.rags c2 from pu_un (fun e => h ⟨rfl, by omega, e⟩)).symm
    all_goals rfl
theorem zl_stR {m : MS} {N T Q w : Nat} {F : Nat → Nat} {p : zs_H} {R : Nat → Nat → Nat} {K : Nat → Option zs_E} {x : Int32} (H : zr p F (zl_z N T Q) R (zl_C m) K) (hw : w < 3) : ∃ p2, zs_st p (F 6) (nI w) x = some p2 ∧ zr p2 F (zl_z N T Q) R (zl_C (MS.of m.day m.coins m.felts m.made m.worth (upd m.rags w x) m.water m.pulp m.beat m.sort m.nM m.mark m.size m.worn m.nT m.skill m.vat m.pair m.nQ m.allS m.pmark m.pgrade m.psheets m.loft)) K := by
  obtain ⟨p2, s1, -, H1⟩ := zr_st H (k := 5) (j := 0) (c := w) (v := x) (by omega) (show 0 < 1 by omega) hw
  rw [(zr_F6 H).2.2.1] at s1
  refine ⟨p2, s1, zr_cC H1 (fun k j c hk hj _ => (zc_rags m w x k j c ?_).symm)⟩
  by_cases c5 : k = 5
  · subst c5; exact Or.inl hj
  · exact Or.inr c5
theorem zl_ldR {m : MS} {N T Q w : Nat} {F : Nat → Nat} {p : zs_H} {R : Nat → Nat → Nat} {K : Nat → Option zs_E} (H : zr p F (zl_z N T Q) R (zl_C m) K) (hw : w < 3) : zs_ld p (F 6) (nI w) = some (m.rags w) := by
  have := zr_ld H (k := 5) (j := 0) (c := w) (by omega) (show 0 < 1 by omega) hw
  rw [(zr_F6 H).2.2.1] at this
  exact this
theorem zl_180 {A D N T F0 c w k : Nat} {l : List pz_PT} {X : XT} {G : FN} {F : Nat → Nat} {p : zs_H} {R : Nat → Nat → Nat} (C : CI D N T F0 l X.1) (H : SR X.1 N T l.length G F p R zr_e) (hc : X.1.coins = nI c) (hcb : c ≤ 40 + 108 * A) (hr : ∀ j, j < 3 → ∃ n, n ≤ 60 + 12 * A ∧ X.1.rags j = nI n) (hA : A ≤ 200) (hw : w < 4) (h1 : 1 ≤ k) (h2 : k ≤ 12) (hle : zl_pr w * k ≤ c) (h3 : w = 3 → F0 + k ≤ 90) : zl_OK (A + 1) D (fBL_act_180 X G F p (nI w) (nI k) (nI (zl_pr w * k))) := by
  have g1 : G 1 - nI (zl_pr w * k) = nI (c - zl_pr w * k) := by rw [H.g1, hc, pu_sub hle]
  by_cases c3 : w = 3
  · subst c3
    have hle' : 2 * k ≤ c := hle
    have g2 : G 2 + nI k = nI (F0 + k) := by rw [H.g2, C.fel, pu_add]
    have hF := h3 rfl
    have I2 : zl_INV (A + 1) D ((MS.of X.1.day (nI (c - 2 * k)) (nI (F0 + k)) X.1.made X.1.worth X.1.rags X.1.water X.1.pulp X.1.beat X.1.sort X.1.nM X.1.mark X.1.size X.1.worn X.1.nT X.1.skill X.1.vat X.1.pair X.1.nQ X.1.allS X.1.pmark X.1.pgrade X.1.psheets X.1.loft), X.2) (upd (upd G 1 (G 1 - nI (zl_pr 3 * k))) 2 (G 2 + nI k)) F p := ⟨N, T, F0 + k, c - 2 * k, l, R, ⟨C.day, rfl, by omega, C.nM, C.Nle, C.nT, C.Tle, C.pu, C.be, C.em, C.so, C.mk, C.sz, C.wn, C.sk, C.vt, C.pr, C.un, C.wa, C.nQ, C.al, Nat.le_trans C.sl (Nat.le_add_right _ _), C.ok, C.ec, C.lo⟩, ⟨(pu_un (by decide)).trans ((pu_un (by decide)).trans H.g0), (pu_un (by decide)).trans (pu_up.trans g1), pu_up.trans g2, (pu_un (by decide)).trans ((pu_un (by decide)).trans H.g3), (pu_un (by decide)).trans ((pu_un (by decide)).trans H.g4), H.r⟩, rfl, by omega, fun j hj => by obtain ⟨n, hn, e⟩ := hr j hj; exact ⟨n, by omega, e⟩⟩
    refine ⟨_, _, _, _, ?_, I2⟩
    unfold fBL_act_180
    rw [if_pos (show nI 3 = 3 from rfl), pu_bs, zx_buy3 C.fel hc h1 h2 hle' (by omega) hF, pu_bs, if_pos (show nI 3 = 3 from rfl)]
    dsimp only
    rw [if_pos (by rw [pu_up, g2])]
  · obtain ⟨n, hn, en⟩ := hr w (by omega)
    have hpr : zl_pr w = 3 - w := if_neg c3
    have hle' : (3 - w) * k ≤ c := by rw [← hpr]; exact hle
    obtain ⟨p2, s1, H1⟩ := zl_stR (w := w) (x := nI (n + k)) H.r (by omega)
    have I2 : zl_INV (A + 1) D ((MS.of X.1.day (nI (c - (3 - w) * k)) X.1.felts X.1.made X.1.worth (upd X.1.rags w (nI (n + k))) X.1.water X.1.pulp X.1.beat X.1.sort X.1.nM X.1.mark X.1.size X.1.worn X.1.nT X.1.skill X.1.vat X.1.pair X.1.nQ X.1.allS X.1.pmark X.1.pgrade X.1.psheets X.1.loft), X.2) (upd G 1 (G 1 - nI (zl_pr w * k))) F p2 := ⟨N, T, F0, c - (3 - w) * k, l, R, ⟨C.day, C.fel, C.Fle, C.nM, C.Nle, C.nT, C.Tle, C.pu, C.be, C.em, C.so, C.mk, C.sz, C.wn, C.sk, C.vt, C.pr, C.un, C.wa, C.nQ, C.al, C.sl, C.ok, C.ec, C.lo⟩, ⟨(pu_un (by decide)).trans H.g0, pu_up.trans (by rw [g1, hpr]), (pu_un (by decide)).trans H.g2, (pu_un (by decide)).trans H.g3, (pu_un (by decide)).trans H.g4, H1⟩, rfl, by omega, fun j hj => by
      show ∃ n2, n2 ≤ 60 + 12 * (A + 1) ∧ upd X.1.rags w (nI (n + k)) j = nI n2
      by_cases cj : j = w
      · subst cj; rw [pu_up]; exact ⟨_, by omega, rfl⟩
      · rw [pu_un cj]; obtain ⟨n, hn, e⟩ := hr j hj; exact ⟨n, by omega, e⟩⟩
    have ne3 : ¬ nI w = 3 := fun e => by have := (pu_eq (a := w) (b := 3) (by omega) (by omega)).mp e; omega
    refine ⟨_, _, _, _, ?_, I2⟩
    have l1 := zl_ldR (w := w) H.r (by omega)
    have l2 := (zl_ldR (w := w) H1 (by omega)).trans (congrArg some pu_up)
    unfold fBL_act_180
    rw [if_neg ne3, l1, pu_bs, en, pu_add, s1, pu_bs, pu_bs, zx_buyW (by omega) en hc h1 h2 hle' (by omega), pu_bs, if_neg ne3]
    dsimp only
    rw [l2, pu_bs, if_pos rfl]
theorem zl_108 {A D : Nat} {X : XT} {G : FN} {F : Nat → Nat} {p : zs_H} (x2 : Int32) (I : zl_INV A D X G F p) (hA : A ≤ 200) : zl_OK (A + 1) D (fBL_act_108 X G F p x2) := by
  have I0 := I
  obtain ⟨N, T, F0, c, l, R, C, H, hc, hcb, hr⟩ := I
  obtain ⟨w, hw, ew⟩ := zl_below (x := x2 >>> (1 &&& 31)) (n := 4) (by omega) (by omega)
  obtain ⟨r, hr2, er⟩ := zl_below (x := x2 >>> (4 &&& 31)) (n := 12) (by omega) (by omega)
  have ew' : fL_below (x2 >>> (1 &&& 31)) 4 = some (nI w) := ew
  have er' : fL_below (x2 >>> (4 &&& 31)) 12 = some (nI r) := er
  have hcost : (if nI w = 3 then (some (nI (1 + r) * 2) : Option Int32) else some (nI (1 + r) * (3 - nI w))) = some (nI (zl_pr w * (1 + r))) := by
    by_cases c3 : w = 3
    · subst c3
      rw [if_pos (show nI 3 = 3 from rfl), show (2 : Int32) = nI 2 from rfl, pu_mul, Nat.mul_comm]
      rfl
    · rw [if_neg (show ¬ nI w = 3 from pu_ne (a := w) (b := 3) c3 (by omega) (by omega)), show (3 : Int32) = nI 3 from rfl, pu_sub (by omega), pu_mul, Nat.mul_comm, show zl_pr w = 3 - w from if_neg c3]
  have hp12 : zl_pr w * (1 + r) ≤ 36 := Nat.mul_le_mul (show zl_pr w ≤ 3 by unfold zl_pr; split <;> omega) (show 1 + r ≤ 12 by omega)
  have F2 := C.Fle
  unfold fBL_act_108
  rw [ew', pu_bs, er', pu_bs, show (1 : Int32) = nI 1 from rfl, pu_add, hcost, pu_bs, H.g1, hc]
  by_cases hlt : c < zl_pr w * (1 + r)
  · rw [if_pos (by rw [pu_lt (by omega) (by omega)]; exact hlt)]
    exact zl_stay I0
  · rw [if_neg (by rw [pu_lt (by omega) (by omega)]; exact hlt)]
    by_cases c3 : w = 3
    · rw [if_pos (by rw [c3]; rfl), H.g2, C.fel, pu_add, show (90 : Int32) = nI 90 from rfl]
      by_cases c4 : F0 + (1 + r) ≤ 90
      · rw [if_pos (by rw [pu_le (by omega) (by omega)]; exact c4)]
        exact zl_180 C H hc hcb hr hA hw (by omega) (by omega) (by omega) (fun _ => c4)
      · rw [if_neg (by rw [pu_le (by omega) (by omega)]; exact c4)]
        exact zl_stay I0
    · rw [if_neg (show ¬ nI w = 3 from pu_ne (a := w) (b := 3) c3 (by omega) (by omega))]
      exact zl_180 C H hc hcb hr hA hw (by omega) (by omega) (by omega) (fun e => absurd e c3)
theorem zl_273 {N T Q : Nat} {m : MS} {F : Nat → Nat} {p : zs_H} {R : Nat → Nat → Nat} {K : Nat → Option zs_E} {g : Nat} (H : zr p F (zl_z N T Q) R (zl_C m) K) (hg : g < 3) : ∀ (d i j k : Nat), j < 10 → i + d = 10 → d < k → ∃ j2, j2 < 10 ∧ fLL_act_273 F p (nI g) k (nI j) (nI i) = some (nI j2)
  | 0, i, j, k + 1, hj, hi, _ => ⟨j, hj, by rw [fLL_act_273, if_pos (show (10 : Int32) ≤ nI i by rw [show (10 : Int32) = nI 10 from rfl, pu_le (by omega) (by omega)]; omega)]⟩
  | d + 1, i, j, k + 1, hj, hi, hk => by
    have e1 : zs_ldr p (F 11) (nI j) = some (R 4 j) := zr_ldr H (k := 4) (by omega) (show j < 10 by omega) (show (10 : Nat) < 2147483648 by decide)
    have e2 : zs_ld p (R 4 j) (nI g) = some (m.loft (3 * j + g)) := zr_ld H (k := 4) (c := g) (by omega) (show j < 10 by omega) hg
    rw [fLL_act_273, if_neg (show ¬ (10 : Int32) ≤ nI i by rw [show (10 : Int32) = nI 10 from rfl, pu_le (by omega) (by omega)]; omega), e1, pu_bs, e2, pu_bs]
    split
    · exact ⟨j, hj, rfl⟩
    · obtain ⟨j2, h2, e⟩ := zl_273 H hg d (i + 1) ((j + 1) - (j + 1) / 10 * 10) k (by omega) (by omega) (by omega)
      refine ⟨j2, h2, ?_⟩
      rw [show (1 : Int32) = nI 1 from rfl, show (10 : Int32) = nI 10 from rfl, pu_add, pu_add, pu_div (by omega) (by omega), pu_mul, pu_sub (by omega)]
      exact e
theorem pb_hanging {f : FN} {a b : Nat} (ha : a < 10) (hb : b < 3) : fX0_hanging f (nI a) (nI b) = some (f (3 * a + b)) := by
  unfold fX0_hanging
  rw [show (10 : Int32) = nI 10 from rfl, pb_in ha (by omega), pu_bs, if_neg n10, show (3 : Int32) = nI 3 from rfl, pb_in hb (by omega), pu_bs, if_neg n10, pu_mul, pu_add, Nat.mul_comm a 3, pu_ck (by omega) (by omega), pu_tn (by omega)]
theorem zx_sellV {X : XT} {j g k y c : Nat} (hj : j < 10) (hg : g < 3) (h1 : 1 ≤ k) (h9 : k ≤ 9) (hy : X.1.loft (3 * j + g) = nI y) (hyb : y < 1000000) (hk : 24 * k ≤ y) (hc : X.1.coins = nI c) : zx_sell X (nI j) (nI g) (nI k) = some (nI (k * wtF g), ((MS.of X.1.day (nI (c + k * wtF g)) X.1.felts X.1.made X.1.worth X.1.rags X.1.water X.1.pulp X.1.beat X.1.sort X.1.nM X.1.mark X.1.size X.1.worn X.1.nT X.1.skill X.1.vat X.1.pair X.1.nQ X.1.allS X.1.pmark X.1.pgrade X.1.psheets (upd X.1.loft (3 * j + g) (nI (y - 24 * k)))), X.2)) := by
  unfold zx_sell fX5_sell
  rw [show (10 : Int32) = nI 10 from rfl, pb_in hj (by omega), pu_bs, if_neg n10, show (3 : Int32) = nI 3 from rfl, pb_in hg (by omega), pu_bs, if_neg n10, show (9 : Int32) = nI 9 from rfl, pu_from1 h1 h9 (by omega), pu_bs, if_neg n10, pb_hanging hj hg, pu_bs, hy, show (24 : Int32) = nI 24 from rfl, pu_mul, if_pos (by rw [pu_le (by omega) (by omega)]; omega), (pb_worth (by omega)).1, pu_bs, pb_hang (by omega) (by omega), pu_bs, hy, hc, pu_mul, pu_add, ← Int32.sub_eq_add_neg, pu_sub (by omega), Nat.mul_comm k 24]
theorem zl_310 {A D : Nat} {X : XT} {G : FN} {F : Nat → Nat} {p : zs_H} {j g : Nat} (x2 : Int32) (I : zl_INV A D X G F p) (hA : A ≤ 200) (hD : D ≤ 200) (hj : j < 10) (hg : g < 3) : zl_OK (A + 1) D (fBL_act_310 X G F p x2 (nI g) (nI j)) := by
  have I0 := I
  obtain ⟨N, T, F0, c, l, R, C, H, hc, hcb, hr⟩ := I
  obtain ⟨y, hy, ey⟩ := C.lo (3 * j + g) (by omega)
  have e1 : zs_ldr p (F 11) (nI j) = some (R 4 j) := zr_ldr H.r (k := 4) (by omega) (show j < 10 by omega) (show (10 : Nat) < 2147483648 by decide)
  have e2 : zs_ld p (R 4 j) (nI g) = some (nI y) := (zr_ld H.r (k := 4) (c := g) (by omega) (show j < 10 by omega) hg).trans (congrArg some ey)
  unfold fBL_act_310
  rw [e1, pu_bs, e2, pu_bs]
  by_cases c24 : 24 ≤ y
  · have hy24 : 1 ≤ y / 24 := by omega
    have ht : (if nI y / 24 ≤ 9 then (some (R 4 j)).bind fun x59 => (zs_ld p x59 (nI g)).bind fun x60 => some (x60 / 24) else some 9) = some (nI (min (y / 24) 9)) := by
      rw [pu_bs, e2, pu_bs, show (24 : Int32) = nI 24 from rfl, show (9 : Int32) = nI 9 from rfl, pu_div (by omega) (by omega)]
      by_cases c9 : y / 24 ≤ 9
      · rw [if_pos (by rw [pu_le (by omega) (by omega)]; exact c9), Nat.min_eq_left c9]
      · rw [if_neg (by rw [pu_le (by omega) (by omega)]; exact c9), Nat.min_eq_right (by omega)]
    obtain ⟨r, hr2, er⟩ := zl_below (x := x2 >>> (4 &&& 31)) (n := min (y / 24) 9) (by omega) (by omega)
    have hw := wtF_le g
    have hkw : (1 + r) * wtF g ≤ 9 * 12 := Nat.mul_le_mul (by omega) hw
    obtain ⟨p2, s1, -, H1⟩ := zr_st H.r (k := 4) (j := j) (c := g) (v := nI (y - 24 * (1 + r))) (by omega) (show j < 10 by omega) hg
    have H2 := zr_cC H1 (fun k j2 c _ _ hc => (zc_loft _ j g (nI (y - 24 * (1 + r))) hg k j2 c hc).symm)
    have I2 : zl_INV (A + 1) D ((MS.of X.1.day (nI (c + (1 + r) * wtF g)) X.1.felts X.1.made X.1.worth X.1.rags X.1.water X.1.pulp X.1.beat X.1.sort X.1.nM X.1.mark X.1.size X.1.worn X.1.nT X.1.skill X.1.vat X.1.pair X.1.nQ X.1.allS X.1.pmark X.1.pgrade X.1.psheets (upd X.1.loft (3 * j + g) (nI (y - 24 * (1 + r))))), X.2) (upd G 1 (G 1 + nI ((1 + r) * wtF g))) F p2 := ⟨N, T, F0, c + (1 + r) * wtF g, l, R, ⟨C.day, C.fel, C.Fle, C.nM, C.Nle, C.nT, C.Tle, C.pu, C.be, C.em, C.so, C.mk, C.sz, C.wn, C.sk, C.vt, C.pr, C.un, C.wa, C.nQ, C.al, C.sl, C.ok, C.ec, fun i hi => by
      show ∃ n, n ≤ 24 * D ∧ upd X.1.loft (3 * j + g) (nI (y - 24 * (1 + r))) i = nI n
      by_cases ci : i = 3 * j + g
      · subst ci; rw [pu_up]; exact ⟨_, by omega, rfl⟩
      · rw [pu_un ci]; exact C.lo i hi⟩, ⟨(pu_un (by decide)).trans H.g0, pu_up.trans (by rw [H.g1, hc, pu_add]), (pu_un (by decide)).trans H.g2, (pu_un (by decide)).trans H.g3, (pu_un (by decide)).trans H.g4, H2⟩, rfl, by omega, fun j hj => by obtain ⟨n, hn, e⟩ := hr j hj; exact ⟨n, by omega, e⟩⟩
    refine ⟨_, _, _, _, ?_, I2⟩
    rw [if_pos (show (24 : Int32) ≤ nI y by rw [show (24 : Int32) = nI 24 from rfl, pu_le (by omega) (by omega)]; exact c24), pu_bs, e2, pu_bs, ht, pu_bs, er, pu_bs, pu_bs, e2, pu_bs, show (1 : Int32) = nI 1 from rfl, pu_add, show (24 : Int32) = nI 24 from rfl, pu_mul, pu_sub (by omega), s1, pu_bs, (pb_worth (g := g) (by omega)).2, pu_bs, zx_sellV hj hg (by omega) (by omega) ey (by omega) (by omega) hc, pu_bs, pu_bs, pu_mul, if_pos rfl]
  · rw [if_neg (show ¬ (24 : Int32) ≤ nI y by rw [show (24 : Int32) = nI 24 from rfl, pu_le (by omega) (by omega)]; exact c24)]
    exact zl_stay I0
theorem zl_260 {A D : Nat} {X : XT} {G : FN} {F : Nat → Nat} {p : zs_H} {g : Nat} (x2 : Int32) (I : zl_INV A D X G F p) (hA : A ≤ 200) (hD : D ≤ 200) (hg : g < 3) : zl_OK (A + 1) D (fBL_act_260 X G F p x2 (nI g)) := by
  have I0 := I
  obtain ⟨N, T, F0, c, l, R, C, H, hc, hcb, hr⟩ := I
  obtain ⟨j, hj, ej⟩ := zl_below (x := x2 >>> (1 &&& 31)) (n := 10) (by omega) (by omega)
  have ej' : fL_below (x2 >>> (1 &&& 31)) 10 = some (nI j) := ej
  obtain ⟨j2, hj2, e2⟩ := zl_273 H.r hg 10 0 j 300 hj rfl (by omega)
  have e2' : fLL_act_273 F p (nI g) 300 (nI j) 0 = some (nI j2) := e2
  unfold fBL_act_260
  rw [ej', pu_bs, e2', pu_bs]
  exact zl_310 x2 I0 hA hD hj2 hg
theorem zr_rp {C : Nat → Nat → Nat → Int32} {k j c : Nat} {f : FN} : zr_r C k j f k j c = f c := if_pos ⟨rfl, rfl⟩
theorem zr_rn {C : Nat → Nat → Nat → Int32} {k j k2 j2 c : Nat} {f : FN} (h : ¬ (k2 = k ∧ j2 = j)) : zr_r C k j f k2 j2 c = C k2 j2 c := if_neg h
theorem zc_vat (m : MS) (v : Nat) (f : FN) : ∀ k2 j2 c2, c2 < zr_w k2 → zr_r (zl_C m) 0 v f k2 j2 c2 = zl_C (MS.of m.day m.coins m.felts m.made m.worth m.rags m.water (upd m.pulp v (f 0)) (upd m.beat v (f 1)) (upd m.sort v (f 2)) m.nM m.mark m.size m.worn m.nT m.skill m.vat m.pair m.nQ m.allS m.pmark m.pgrade m.psheets m.loft) k2 j2 c2 := by
  intro k2 j2 c2 hc
  by_cases h : k2 = 0 ∧ j2 = v
  · obtain ⟨rfl, rfl⟩ := h
    rw [zr_rp]
    rcases c2 with _ | _ | _ | c2
    · exact pu_up.symm
    · exact pu_up.symm
    · exact pu_up.symm
    · exact absurd hc (by show ¬ (c2 + 1 + 1 + 1 < 3); omega)
  · rw [zr_rn h]
    rcases k2 with _ | k2
    · rcases c2 with _ | _ | c2
      · exact (pu_un (fun e => h ⟨rfl, e⟩)).symm
      · exact (pu_un (fun e => h ⟨rfl, e⟩)).symm
      · exact (pu_un (fun e => h ⟨rfl, e⟩)).symm
    · rcases k2 with _ | _ | _ | _ | _ | k2 <;> rfl
theorem zl_row3 {p : zs_H} {F : Nat → Nat} {sz : Nat → Nat} {R : Nat → Nat → Nat} {C : Nat → Nat → Nat → Int32} {K : Nat → Option zs_E} (H : zr p F sz R C K) (a b c : Int32) : ∃ p1 p2 p3 p4, zs_nwi p 3 3 = some p1 ∧ zs_st p1 p.1 0 a = some p2 ∧ zs_st p2 p.1 1 b = some p3 ∧ zs_st p3 p.1 2 c = some p4 ∧ p4.1 = p.1 + 1 ∧ zr p4 F sz R C (va_up K p.1 (some (.inl (3, upd (upd (upd (fun _ => 0) 0 a) 1 b) 2 c)))) := by
  obtain ⟨p1, n1, n2, H1⟩ := zr_nwi H (n := 3) (B := 3) (Nat.le_refl _) (by decide)
  obtain ⟨p2, s2, t2, H2⟩ := zr_kst H1 (q := p.1) (n := 3) (c := 0) (v := a) va_up_p (by omega) (by decide)
  obtain ⟨p3, s3, t3, H3⟩ := zr_kst H2 (q := p.1) (n := 3) (c := 1) (v := b) va_up_p (by omega) (by decide)
  obtain ⟨p4, s4, t4, H4⟩ := zr_kst H3 (q := p.1) (n := 3) (c := 2) (v := c) va_up_p (by omega) (by decide)
  refine ⟨p1, p2, p3, p4, n1, s2, s3, s4, by omega, zr_cK H4 (fun q e h => ?_)⟩
  by_cases cq : q = p.1
  · subst cq
    rw [va_up_p] at h ⊢
    exact h
  · rw [va_up_n cq] at h
    rw [va_up_n cq, va_up_n cq, va_up_n cq, va_up_n cq]
    exact h
theorem zr_eN {Q : Prop} {q : Nat} {e : zs_E} (h : zr_e q = some e) : Q := by cases h
theorem zx_fillV {X : XT} {v s n k : Nat} (hv : v < 4) (hs : s < 3) (h1 : 1 ≤ k) (h2 : k ≤ 40) (hp : X.1.pulp v = nI 0) (hn : X.1.rags s = nI n) (hnb : n < 1000000) (hk : k ≤ n) : zx_fill X (nI v) (nI s) (nI k) = some (nI (n - k), ((MS.of X.1.day X.1.coins X.1.felts X.1.made X.1.worth (upd X.1.rags s (nI (n - k))) X.1.water (upd X.1.pulp v (nI k)) (upd X.1.beat v (nI 0)) (upd X.1.sort v (nI s)) X.1.nM X.1.mark X.1.size X.1.worn X.1.nT X.1.skill X.1.vat X.1.pair X.1.nQ X.1.allS X.1.pmark X.1.pgrade X.1.psheets X.1.loft), X.2)) := by
  unfold zx_fill fX5_fill
  rw [show (4 : Int32) = nI 4 from rfl, pb_in hv (by omega), pu_bs, if_neg n10, show (3 : Int32) = nI 3 from rfl, pb_in hs (by omega), pu_bs, if_neg n10, show (40 : Int32) = nI 40 from rfl, pu_from1 h1 h2 (by omega), pu_bs, if_neg n10, pb_pulpOf hv, pu_bs, hp, if_pos (show nI 0 ≤ 0 by decide), pu_ck hs (by omega), pu_tn (by omega), hn, if_pos (by rw [pu_le (by omega) (by omega)]; exact hk), pu_ck hs (by omega), pu_ck hs (by omega), pb_charge hv, pu_bs, pu_ck hs (by omega), pu_sub hk, pu_up]
  rfl
theorem zl_435 {A D : Nat} {X : XT} {G : FN} {F : Nat → Nat} {p : zs_H} {v s : Nat} (x2 : Int32) (I : zl_INV A D X G F p) (hA : A ≤ 200) (hv : v < 4) (hs : s < 3) : zl_OK (A + 1) D (fBL_act_435 X G F p x2 (nI v) (nI s)) := by
  have I0 := I
  obtain ⟨N, T, F0, c, l, R, C, H, hc, hcb, hr⟩ := I
  obtain ⟨r, hr2, er⟩ := zl_below (x := x2 >>> (4 &&& 31)) (n := 40) (by omega) (by omega)
  have er' : fL_below (x2 >>> (4 &&& 31)) 40 = some (nI r) := er
  obtain ⟨n, hn, en⟩ := hr s hs
  obtain ⟨y, hy, ey⟩ := C.pu v hv
  have e1 : zs_ldr p (F 7) (nI v) = some (R 0 v) := zr_ldr H.r (k := 0) (by omega) hv (show (4 : Nat) < 2147483648 by decide)
  have e2 : zs_ld p (R 0 v) 0 = some (nI y) := (zr_ld H.r (k := 0) (c := 0) (by omega) hv (by decide)).trans (congrArg some ey)
  have e3 := zl_ldR (w := s) H.r hs
  unfold fBL_act_435
  rw [er', pu_bs, e1, pu_bs, e2, pu_bs]
  by_cases c0 : y = 0
  · rw [if_neg (show ¬ (0 : Int32) < nI y by rw [c0]; decide), e3, pu_bs, en, show (1 : Int32) = nI 1 from rfl, pu_add]
    by_cases c1 : 1 + r ≤ n
    · obtain ⟨p1, s1, H1⟩ := zl_stR (w := s) (x := nI (n - (1 + r))) H.r hs
      obtain ⟨q1, q2, q3, q4, t1, t2, t3, t4, t5, H2⟩ := zl_row3 H1 (nI (1 + r)) (nI 0) (nI s)
      obtain ⟨p5, u1, u2, H3⟩ := zr_put H2 (k := 0) (j := v) (by omega) hv (show (4 : Nat) < 2147483648 by decide) va_up_p
      have u1' : zs_str q4 (F 7) (nI v) p1.1 = some p5 := u1
      have H4 := zr_cK (K2 := zr_e) (zr_cC H3 (fun k j c _ _ hc => (zc_vat _ v _ k j c hc).symm)) (fun q e h => zr_eN h)
      have H5 := zr_cC (C2 := zl_C (MS.of X.1.day X.1.coins X.1.felts X.1.made X.1.worth (upd X.1.rags s (nI (n - (1 + r)))) X.1.water (upd X.1.pulp v (nI (1 + r))) (upd X.1.beat v (nI 0)) (upd X.1.sort v (nI s)) X.1.nM X.1.mark X.1.size X.1.worn X.1.nT X.1.skill X.1.vat X.1.pair X.1.nQ X.1.allS X.1.pmark X.1.pgrade X.1.psheets X.1.loft)) H4 (fun k j c _ _ _ => congrFun (congrFun (congrFun (zl_CE rfl rfl rfl rfl rfl rfl rfl rfl rfl rfl rfl rfl rfl rfl rfl) k) j) c)
      have t2' : zs_st q1 p1.1 0 (nI (1 + r)) = some q2 := t2
      have e6 : zs_ld p5 (F 6) (nI s) = some (nI (n - (1 + r))) := (zl_ldR (w := s) H5 hs).trans (congrArg some pu_up)
      have I2 : zl_INV (A + 1) D ((MS.of X.1.day X.1.coins X.1.felts X.1.made X.1.worth (upd X.1.rags s (nI (n - (1 + r)))) X.1.water (upd X.1.pulp v (nI (1 + r))) (upd X.1.beat v (nI 0)) (upd X.1.sort v (nI s)) X.1.nM X.1.mark X.1.size X.1.worn X.1.nT X.1.skill X.1.vat X.1.pair X.1.nQ X.1.allS X.1.pmark X.1.pgrade X.1.psheets X.1.loft), X.2) G F p5 := ⟨N, T, F0, c, l, _, ⟨C.day, C.fel, C.Fle, C.nM, C.Nle, C.nT, C.Tle, fun u hu => by
        show ∃ n, n ≤ 40 ∧ upd X.1.pulp v (nI (1 + r)) u = nI n
        by_cases cu : u = v
        · subst cu; rw [pu_up]; exact ⟨_, by omega, rfl⟩
        · rw [pu_un cu]; exact C.pu u hu, fun u hu => by
        show ∃ n, n ≤ 99 ∧ upd X.1.beat v (nI 0) u = nI n
        by_cases cu : u = v
        · subst cu; rw [pu_up]; exact ⟨0, by omega, rfl⟩
        · rw [pu_un cu]; exact C.be u hu, fun u hu hp => by
        have hp' : upd X.1.pulp v (nI (1 + r)) u = nI 0 := hp
        show upd X.1.beat v (nI 0) u = nI 0 ∧ upd X.1.sort v (nI s) u = -nI 1
        by_cases cu : u = v
        · subst cu
          rw [pu_up] at hp'
          exact absurd hp' (pu_ne (by omega) (by omega) (by omega))
        · rw [pu_un cu] at hp'
          rw [pu_un cu, pu_un cu]
          exact C.em u hu hp', fun u hu hp => by
        have hp' : upd X.1.pulp v (nI (1 + r)) u ≠ nI 0 := hp
        show ∃ n, n < 3 ∧ upd X.1.sort v (nI s) u = nI n
        by_cases cu : u = v
        · subst cu; rw [pu_up]; exact ⟨s, hs, rfl⟩
        · rw [pu_un cu] at hp'
          rw [pu_un cu]
          exact C.so u hu hp', C.mk, C.sz, C.wn, C.sk, C.vt, C.pr, C.un, C.wa, C.nQ, C.al, C.sl, C.ok, C.ec, C.lo⟩, ⟨H.g0, H.g1, H.g2, H.g3, H.g4, H5⟩, hc, by omega, fun j hj => by
        show ∃ n2, n2 ≤ 60 + 12 * (A + 1) ∧ upd X.1.rags s (nI (n - (1 + r))) j = nI n2
        by_cases cj : j = s
        · subst cj; rw [pu_up]; exact ⟨_, by omega, rfl⟩
        · rw [pu_un cj]; obtain ⟨n, hn, e⟩ := hr j hj; exact ⟨n, by omega, e⟩⟩
      refine ⟨_, _, _, _, ?_, I2⟩
      rw [if_pos (by rw [pu_le (by omega) (by omega)]; exact c1), pu_bs, pu_sub c1, s1, pu_bs, t1, pu_bs, show nI 1 = (1 : Int32) from rfl, t2', pu_bs, show (0 : Int32) = nI 0 from rfl, t3, pu_bs, t4, pu_bs, u1', pu_bs, zx_fillV hv hs (by omega) (by omega) (by rw [ey, c0]) en (by omega) c1, pu_bs, e6, pu_bs, if_pos rfl]
    · rw [if_neg (by rw [pu_le (by omega) (by omega)]; exact c1)]
      exact zl_stay I0
  · rw [if_pos (show (0 : Int32) < nI y by rw [show (0 : Int32) = nI 0 from rfl, pu_lt (by omega) (by omega)]; omega)]
    exact zl_stay I0
theorem zx_drainV {X : XT} {v n : Nat} (hv : v < 4) (hn : X.1.pulp v = nI n) (h0 : n ≠ 0) (hnb : n ≤ 40) : zx_drain X (nI v) = some (nI n, ((MS.of X.1.day X.1.coins X.1.felts X.1.made X.1.worth X.1.rags X.1.water (upd X.1.pulp v 0) (upd X.1.beat v 0) (upd X.1.sort v (-1)) X.1.nM X.1.mark X.1.size X.1.worn X.1.nT X.1.skill X.1.vat X.1.pair X.1.nQ X.1.allS X.1.pmark X.1.pgrade X.1.psheets X.1.loft), X.2)) := by
  unfold zx_drain fX5_drain
  rw [show (4 : Int32) = nI 4 from rfl, pb_in hv (by omega), pu_bs, if_neg n10, pb_pulpOf hv, pu_bs, hn, if_neg (show ¬ nI n = 0 from pu_ne (a := n) (b := 0) h0 (by omega) (by omega)), pb_takeOut hv hn (by omega) (Nat.le_refl n), pu_bs, if_pos rfl]
theorem zl_535 {A D : Nat} {X : XT} {G : FN} {F : Nat → Nat} {p : zs_H} {v : Nat} (x2 : Int32) (I : zl_INV A D X G F p) (hv : v < 4) : zl_OK (A + 1) D (fBL_act_535 X G F p x2 (nI v)) := by
  have I0 := I
  obtain ⟨N, T, F0, c, l, R, C, H, hc, hcb, hr⟩ := I
  obtain ⟨r, hr2, er⟩ := zl_below (x := x2 >>> (3 &&& 31)) (n := 4) (by omega) (by omega)
  have er' : fL_below (x2 >>> (3 &&& 31)) 4 = some (nI r) := er
  obtain ⟨y, hy, ey⟩ := C.pu v hv
  have e1 : zs_ldr p (F 7) (nI v) = some (R 0 v) := zr_ldr H.r (k := 0) (by omega) hv (show (4 : Nat) < 2147483648 by decide)
  have e2 : zs_ld p (R 0 v) 0 = some (nI y) := (zr_ld H.r (k := 0) (c := 0) (by omega) hv (by decide)).trans (congrArg some ey)
  unfold fBL_act_535
  rw [e1, pu_bs, e2, pu_bs]
  by_cases c0 : y = 0
  · rw [if_pos (show nI y = 0 by rw [c0]; rfl)]
    exact zl_stay I0
  · rw [if_neg (show ¬ nI y = 0 from pu_ne (a := y) (b := 0) c0 (by omega) (by omega)), er', pu_bs]
    by_cases c1 : nI r ≤ 0
    · obtain ⟨q1, q2, q3, q4, t1, t2, t3, t4, t5, H2⟩ := zl_row3 H.r 0 0 (-1)
      obtain ⟨p5, u1, u2, H3⟩ := zr_put H2 (k := 0) (j := v) (by omega) hv (show (4 : Nat) < 2147483648 by decide) va_up_p
      have u1' : zs_str q4 (F 7) (nI v) p.1 = some p5 := u1
      have H4 := zr_cK (K2 := zr_e) (zr_cC H3 (fun k j c _ _ hc => (zc_vat _ v _ k j c hc).symm)) (fun q e h => zr_eN h)
      have H5 := zr_cC (C2 := zl_C (MS.of X.1.day X.1.coins X.1.felts X.1.made X.1.worth X.1.rags X.1.water (upd X.1.pulp v 0) (upd X.1.beat v 0) (upd X.1.sort v (-1)) X.1.nM X.1.mark X.1.size X.1.worn X.1.nT X.1.skill X.1.vat X.1.pair X.1.nQ X.1.allS X.1.pmark X.1.pgrade X.1.psheets X.1.loft)) H4 (fun k j c _ _ _ => congrFun (congrFun (congrFun (zl_CE rfl rfl rfl rfl rfl rfl rfl rfl rfl rfl rfl rfl rfl rfl rfl) k) j) c)
      have I2 : zl_INV (A + 1) D ((MS.of X.1.day X.1.coins X.1.felts X.1.made X.1.worth X.1.rags X.1.water (upd X.1.pulp v 0) (upd X.1.beat v 0) (upd X.1.sort v (-1)) X.1.nM X.1.mark X.1.size X.1.worn X.1.nT X.1.skill X.1.vat X.1.pair X.1.nQ X.1.allS X.1.pmark X.1.pgrade X.1.psheets X.1.loft), X.2) G F p5 := ⟨N, T, F0, c, l, _, ⟨C.day, C.fel, C.Fle, C.nM, C.Nle, C.nT, C.Tle, fun u hu => by
        show ∃ n, n ≤ 40 ∧ upd X.1.pulp v 0 u = nI n
        by_cases cu : u = v
        · subst cu; rw [pu_up]; exact ⟨0, by omega, rfl⟩
        · rw [pu_un cu]; exact C.pu u hu, fun u hu => by
        show ∃ n, n ≤ 99 ∧ upd X.1.beat v 0 u = nI n
        by_cases cu : u = v
        · subst cu; rw [pu_up]; exact ⟨0, by omega, rfl⟩
        · rw [pu_un cu]; exact C.be u hu, fun u hu hp => by
        have hp' : upd X.1.pulp v 0 u = nI 0 := hp
        show upd X.1.beat v 0 u = nI 0 ∧ upd X.1.sort v (-1) u = -nI 1
        by_cases cu : u = v
        · subst cu
          rw [pu_up, pu_up]
          exact ⟨rfl, pu_m1e⟩
        · rw [pu_un cu] at hp'
          rw [pu_un cu, pu_un cu]
          exact C.em u hu hp', fun u hu hp => by
        have hp' : upd X.1.pulp v 0 u ≠ nI 0 := hp
        show ∃ n, n < 3 ∧ upd X.1.sort v (-1) u = nI n
        by_cases cu : u = v
        · subst cu; exact absurd pu_up hp'
        · rw [pu_un cu] at hp'
          rw [pu_un cu]
          exact C.so u hu hp', C.mk, C.sz, C.wn, C.sk, C.vt, C.pr, C.un, C.wa, C.nQ, C.al, C.sl, C.ok, C.ec, C.lo⟩, ⟨H.g0, H.g1, H.g2, H.g3, H.g4, H5⟩, hc, by omega, fun j hj => by obtain ⟨n, hn, e⟩ := hr j hj; exact ⟨n, by omega, e⟩⟩
      refine ⟨_, _, _, _, ?_, I2⟩
      rw [if_pos c1, pu_bs, e2, pu_bs, t1, pu_bs, t2, pu_bs, t3, pu_bs, t4, pu_bs, u1', pu_bs, zx_drainV hv ey c0 hy, pu_bs, if_pos rfl]
    · rw [if_neg c1]
      exact zl_stay I0
