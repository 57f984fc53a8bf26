/-! what is done to both -/
def zl_INV (A D : Nat) (X : XT) (G : FN) (F : Nat → Nat) (p : zs_H) : Prop := ∃ N T F0 c l R, CI D N T F0 l X.1 ∧ SR X.1 N T l.length G F p R zr_e ∧ X.1.coins = nI c ∧ c ≤ 40 + 108 * A ∧ ∀ j, j < 3 → ∃ n, n ≤ 60 + 12 * A ∧ X.1.rags j = nI n
def zl_OK (A D : Nat) (o : Option (XT × FN × (Nat → Nat) × zs_H)) : Prop := ∃ X G F p, o = some (X, G, F, p) ∧ zl_INV A D X G F p
theorem zl_INV.mono {A A2 D : Nat} {X : XT} {G : FN} {F : Nat → Nat} {p : zs_H} (h : zl_INV A D X G F p) (ha : A ≤ A2) : zl_INV A2 D X G F p := by
  obtain ⟨N, T, F0, c, l, R, C, H, h1, h2, h3⟩ := h
  exact ⟨N, T, F0, c, l, R, C, H, h1, by omega, fun j hj => by obtain ⟨n, hn, e⟩ := h3 j hj; exact ⟨n, by omega, e⟩⟩
theorem zl_stay {A D : Nat} {X : XT} {G : FN} {F : Nat → Nat} {p : zs_H} (h : zl_INV A D X G F p) : zl_OK (A + 1) D (some (X, G, F, p)) := ⟨X, G, F, p, rfl, h.mono (Nat.le_succ A)⟩
theorem pu_from1 {k b : Nat} (h1 : 1 ≤ k) (h2 : k ≤ b) (hb : b < 2147483648) : fX5_isFrom1To (nI k) (nI b) = some 1 := by
  rw [pu_from, if_pos (by rw [pu_ti (by omega), pu_ti hb]; omega)]
theorem n10 : ¬ (1 : Int32) = 0 := by decide
theorem pu_ne {a b : Nat} (h : a ≠ b) (ha : a < 2147483648) (hb : b < 2147483648) : ¬ nI a = nI b := fun e => h ((pu_eq ha hb).mp e)
def zl_pr (w : Nat) : Nat := if w = 3 then 2 else 3 - w
theorem zx_buy3 {X : XT} {F0 c k : Nat} (hF : X.1.felts = nI F0) (hc : X.1.coins = nI c) (h1 : 1 ≤ k) (h2 : k ≤ 12) (h3 : 2 * k ≤ c) (hc2 : c < 1000000) (h4 : F0 + k ≤ 90) : zx_buy X (nI 3) (nI k) = some (nI (F0 + k), ((MS.of X.1.day (nI (c - 2 * k)) (nI (F0 + k)) X.1.made X.1.worth X.1.rags X.1.water X.1.pulp X.1.beat X.1.sort X.1.nM X.1.mark X.1.size X.1.worn X.1.nT X.1.skill X.1.vat X.1.pair X.1.nQ X.1.allS X.1.pmark X.1.pgrade X.1.psheets X.1.loft), X.2)) := by
  unfold zx_buy fX5_buy fX0_takeIn
  rw [hF, hc, show (4 : Int32) = nI 4 from rfl, pb_in (show 3 < 4 by omega) (by omega), pu_bs, if_neg n10, show (99 : Int32) = nI 99 from rfl, pu_from1 h1 (by omega) (by omega), pu_bs, if_neg n10, pu_ck (show 3 < 4 by omega) (by omega), show ([3, 2, 1, 2] : List Int32).getD (nI 3).toNatClampNeg 0 = nI 2 from by decide, pu_mul, if_pos (by rw [pu_le (by omega) (by omega)]; exact h3), if_pos (show nI 3 = 3 from rfl), pu_add, if_pos (show nI (F0 + k) ≤ 90 by rw [show (90 : Int32) = nI 90 from rfl, pu_le (by omega) (by omega)]; omega), show fX5_isBelow (nI 3) 3 = some 0 from by decide, pu_bs, if_pos rfl, pu_bs, pu_sub h3]
theorem zx_buyW {X : XT} {w n c k : Nat} (hw : w < 3) (hn : X.1.rags w = nI n) (hc : X.1.coins = nI c) (h1 : 1 ≤ k) (h2 : k ≤ 12) (h3 : (3 - w) * k ≤ c) (hc2 : c < 1000000) : zx_buy X (nI w) (nI k) = some (nI (n + k), ((MS.of X.1.day (nI (c - (3 - w) * k)) X.1.felts X.1.made X.1.worth (upd X.1.rags w (nI (n + k))) X.1.water X.1.pulp X.1.beat X.1.sort X.1.nM X.1.mark X.1.size X.1.worn X.1.nT X.1.skill X.1.vat X.1.pair X.1.nQ X.1.allS X.1.pmark X.1.pgrade X.1.psheets X.1.loft), X.2)) := by
  have hg : ([3, 2, 1, 2] : List Int32).getD (nI w).toNatClampNeg 0 = nI (3 - w) := by
    rcases (show w = 0 ∨ w = 1 ∨ w = 2 by omega) with rfl | rfl | rfl <;> decide
  unfold zx_buy fX5_buy fX0_takeIn
  rw [hc, show (4 : Int32) = nI 4 from rfl, pb_in (show w < 4 by omega) (by omega), pu_bs, if_neg n10, show (99 : Int32) = nI 99 from rfl, pu_from1 h1 (by omega) (by omega), pu_bs, if_neg n10, pu_ck (show w < 4 by omega) (by omega), hg, pu_mul, if_pos (by rw [pu_le (by omega) (by omega)]; exact h3), if_neg (show ¬ nI w = 3 from fun e => by have := (pu_eq (a := w) (b := 3) (by omega) (by omega)).mp e; omega), show (3 : Int32) = nI 3 from rfl, pb_in hw (by omega), pu_bs, if_neg n10, pu_ck hw (by omega), pu_ck hw (by omega), pu_ck hw (by omega), pu_tn (by omega), hn, pu_add, pu_bs, pu_sub h3, pu_up]
theorem zc_rags (m : MS) (w : Nat) (x : Int32) : ∀ k2 j2 c2, j2 < zl_z 0 0 0 k2 ∨ k2 ≠ 5 → zr_c (zl_C m) 5 0 w x k2 j2 c2 = zl_C (MS.of m.day m.coins m.felts m.made m.worth (upd m.rags w x) m.water m.pulp m.beat m.sort m.nM m.mark m.size m.worn m.nT m.skill m.vat m.pair m.nQ m.allS m.pmark m.pgrade m.psheets m.loft) k2 j2 c2 := by
  intro k2 j2 c2 hj
  by_cases h : k2 = 5 ∧ j2 = 0 ∧ c2 = w
  · obtain ⟨rfl, rfl, rfl⟩ := h
    rw [zc_eq]
    exact pu_up.symm
  · rw [zc_ne h]
    rcases k2 with _ | _ | _ | _ | _ | _ | k2
    · rfl
    · rfl
    · rfl
    · rfl
    · rfl
    · have h3 : j2 < 1 := hj.resolve_right (fun h => h rfl)
      exact (show upd m.rags w x c2 = m.rags c2 from pu_un (fun e => h ⟨rfl, by omega, e⟩)).symm
    all_goals rfl
theorem zl_stR {m : MS} {N T Q w : Nat} {F : Nat → Nat} {p : zs_H} {R : Nat → Nat → Nat} {K : Nat → Option zs_E} {x : Int32} (H : zr p F (zl_z N T Q) R (zl_C m) K) (hw : w < 3) : ∃ p2, zs_st p (F 6) (nI w) x = some p2 ∧ zr p2 F (zl_z N T Q) R (zl_C (MS.of m.day m.coins m.felts m.made m.worth (upd m.rags w x) m.water m.pulp m.beat m.sort m.nM m.mark m.size m.worn m.nT m.skill m.vat m.pair m.nQ m.allS m.pmark m.pgrade m.psheets m.loft)) K := by
  obtain ⟨p2, s1, -, H1⟩ := zr_st H (k := 5) (j := 0) (c := w) (v := x) (by omega) (show 0 < 1 by omega) hw
  rw [(zr_F6 H).2.2.1] at s1
  refine ⟨p2, s1, zr_cC H1 (fun k j c hk hj _ => (zc_rags m w x k j c ?_).symm)⟩
  by_cases c5 : k = 5
  · subst c5; exact Or.inl hj
  · exact Or.inr c5
theorem zl_ldR {m : MS} {N T Q w : Nat} {F : Nat → Nat} {p : zs_H} {R : Nat → Nat → Nat} {K : Nat → Option zs_E} (H : zr p F (zl_z N T Q) R (zl_C m) K) (hw : w < 3) : zs_ld p (F 6) (nI w) = some (m.rags w) := by
  have := zr_ld H (k := 5) (j := 0) (c := w) (by omega) (show 0 < 1 by omega) hw
  rw [(zr_F6 H).2.2.1] at this
  exact this
theorem zl_180 {A D N T F0 c w k : Nat} {l : List pz_PT} {X : XT} {G : FN} {F : Nat → Nat} {p : zs_H} {R : Nat → Nat → Nat} (C : CI D N T F0 l X.1) (H : SR X.1 N T l.length G F p R zr_e) (hc : X.1.coins = nI c) (hcb : c ≤ 40 + 108 * A) (hr : ∀ j, j < 3 → ∃ n, n ≤ 60 + 12 * A ∧ X.1.rags j = nI n) (hA : A ≤ 200) (hw : w < 4) (h1 : 1 ≤ k) (h2 : k ≤ 12) (hle : zl_pr w * k ≤ c) (h3 : w = 3 → F0 + k ≤ 90) : zl_OK (A + 1) D (fBL_act_180 X G F p (nI w) (nI k) (nI (zl_pr w * k))) := by
  have g1 : G 1 - nI (zl_pr w * k) = nI (c - zl_pr w * k) := by rw [H.g1, hc, pu_sub hle]
  by_cases c3 : w = 3
  · subst c3
    have hle' : 2 * k ≤ c := hle
    have g2 : G 2 + nI k = nI (F0 + k) := by rw [H.g2, C.fel, pu_add]
    have hF := h3 rfl
    have I2 : zl_INV (A + 1) D ((MS.of X.1.day (nI (c - 2 * k)) (nI (F0 + k)) X.1.made X.1.worth X.1.rags X.1.water X.1.pulp X.1.beat X.1.sort X.1.nM X.1.mark X.1.size X.1.worn X.1.nT X.1.skill X.1.vat X.1.pair X.1.nQ X.1.allS X.1.pmark X.1.pgrade X.1.psheets X.1.loft), X.2) (upd (upd G 1 (G 1 - nI (zl_pr 3 * k))) 2 (G 2 + nI k)) F p := ⟨N, T, F0 + k, c - 2 * k, l, R, ⟨C.day, rfl, by omega, C.nM, C.Nle, C.nT, C.Tle, C.pu, C.be, C.em, C.so, C.mk, C.sz, C.wn, C.sk, C.vt, C.pr, C.un, C.wa, C.nQ, C.al, Nat.le_trans C.sl (Nat.le_add_right _ _), C.ok, C.ec, C.lo⟩, ⟨(pu_un (by decide)).trans ((pu_un (by decide)).trans H.g0), (pu_un (by decide)).trans (pu_up.trans g1), pu_up.trans g2, (pu_un (by decide)).trans ((pu_un (by decide)).trans H.g3), (pu_un (by decide)).trans ((pu_un (by decide)).trans H.g4), H.r⟩, rfl, by omega, fun j hj => by obtain ⟨n, hn, e⟩ := hr j hj; exact ⟨n, by omega, e⟩⟩
    refine ⟨_, _, _, _, ?_, I2⟩
    unfold fBL_act_180
    rw [if_pos (show nI 3 = 3 from rfl), pu_bs, zx_buy3 C.fel hc h1 h2 hle' (by omega) hF, pu_bs, if_pos (show nI 3 = 3 from rfl)]
    dsimp only
    rw [if_pos (by rw [pu_up, g2])]
  · obtain ⟨n, hn, en⟩ := hr w (by omega)
    have hpr : zl_pr w = 3 - w := if_neg c3
    have hle' : (3 - w) * k ≤ c := by rw [← hpr]; exact hle
    obtain ⟨p2, s1, H1⟩ := zl_stR (w := w) (x := nI (n + k)) H.r (by omega)
    have I2 : zl_INV (A + 1) D ((MS.of X.1.day (nI (c - (3 - w) * k)) X.1.felts X.1.made X.1.worth (upd X.1.rags w (nI (n + k))) X.1.water X.1.pulp X.1.beat X.1.sort X.1.nM X.1.mark X.1.size X.1.worn X.1.nT X.1.skill X.1.vat X.1.pair X.1.nQ X.1.allS X.1.pmark X.1.pgrade X.1.psheets X.1.loft), X.2) (upd G 1 (G 1 - nI (zl_pr w * k))) F p2 := ⟨N, T, F0, c - (3 - w) * k, l, R, ⟨C.day, C.fel, C.Fle, C.nM, C.Nle, C.nT, C.Tle, C.pu, C.be, C.em, C.so, C.mk, C.sz, C.wn, C.sk, C.vt, C.pr, C.un, C.wa, C.nQ, C.al, C.sl, C.ok, C.ec, C.lo⟩, ⟨(pu_un (by decide)).trans H.g0, pu_up.trans (by rw [g1, hpr]), (pu_un (by decide)).trans H.g2, (pu_un (by decide)).trans H.g3, (pu_un (by decide)).trans H.g4, H1⟩, rfl, by omega, fun j hj => by
      show ∃ n2, n2 ≤ 60 + 12 * (A + 1) ∧ upd X.1.rags w (nI (n + k)) j = nI n2
      by_cases cj : j = w
      · subst cj; rw [pu_up]; exact ⟨_, by omega, rfl⟩
      · rw [pu_un cj]; obtain ⟨n, hn, e⟩ := hr j hj; exact ⟨n, by omega, e⟩⟩
    have ne3 : ¬ nI w = 3 := fun e => by have := (pu_eq (a := w) (b := 3) (by omega) (by omega)).mp e; omega
    refine ⟨_, _, _, _, ?_, I2⟩
    have l1 := zl_ldR (w := w) H.r (by omega)
    have l2 := (zl_ldR (w := w) H1 (by omega)).trans (congrArg some pu_up)
    unfold fBL_act_180
    rw [if_neg ne3, l1, pu_bs, en, pu_add, s1, pu_bs, pu_bs, zx_buyW (by omega) en hc h1 h2 hle' (by omega), pu_bs, if_neg ne3]
    dsimp only
    rw [l2, pu_bs, if_pos rfl]
theorem zl_108 {A D : Nat} {X : XT} {G : FN} {F : Nat → Nat} {p : zs_H} (x2 : Int32) (I : zl_INV A D X G F p) (hA : A ≤ 200) : zl_OK (A + 1) D (fBL_act_108 X G F p x2) := by
  have I0 := I
  obtain ⟨N, T, F0, c, l, R, C, H, hc, hcb, hr⟩ := I
  obtain ⟨w, hw, ew⟩ := zl_below (x := x2 >>> (1 &&& 31)) (n := 4) (by omega) (by omega)
  obtain ⟨r, hr2, er⟩ := zl_below (x := x2 >>> (4 &&& 31)) (n := 12) (by omega) (by omega)
  have ew' : fL_below (x2 >>> (1 &&& 31)) 4 = some (nI w) := ew
  have er' : fL_below (x2 >>> (4 &&& 31)) 12 = some (nI r) := er
  have hcost : (if nI w = 3 then (some (nI (1 + r) * 2) : Option Int32) else some (nI (1 + r) * (3 - nI w))) = some (nI (zl_pr w * (1 + r))) := by
    by_cases c3 : w = 3
    · subst c3
      rw [if_pos (show nI 3 = 3 from rfl), show (2 : Int32) = nI 2 from rfl, pu_mul, Nat.mul_comm]
      rfl
    · rw [if_neg (show ¬ nI w = 3 from pu_ne (a := w) (b := 3) c3 (by omega) (by omega)), show (3 : Int32) = nI 3 from rfl, pu_sub (by omega), pu_mul, Nat.mul_comm, show zl_pr w = 3 - w from if_neg c3]
  have hp12 : zl_pr w * (1 + r) ≤ 36 := Nat.mul_le_mul (show zl_pr w ≤ 3 by unfold zl_pr; split <;> omega) (show 1 + r ≤ 12 by omega)
  have F2 := C.Fle
  unfold fBL_act_108
  rw [ew', pu_bs, er', pu_bs, show (1 : Int32) = nI 1 from rfl, pu_add, hcost, pu_bs, H.g1, hc]
  by_cases hlt : c < zl_pr w * (1 + r)
  · rw [if_pos (by rw [pu_lt (by omega) (by omega)]; exact hlt)]
    exact zl_stay I0
  · rw [if_neg (by rw [pu_lt (by omega) (by omega)]; exact hlt)]
    by_cases c3 : w = 3
    · rw [if_pos (by rw [c3]; rfl), H.g2, C.fel, pu_add, show (90 : Int32) = nI 90 from rfl]
      by_cases c4 : F0 + (1 + r) ≤ 90
      · rw [if_pos (by rw [pu_le (by omega) (by omega)]; exact c4)]
        exact zl_180 C H hc hcb hr hA hw (by omega) (by omega) (by omega) (fun _ => c4)
      · rw [if_neg (by rw [pu_le (by omega) (by omega)]; exact c4)]
        exact zl_stay I0
    · rw [if_neg (show ¬ nI w = 3 from pu_ne (a := w) (b := 3) c3 (by omega) (by omega))]
      exact zl_180 C H hc hcb hr hA hw (by omega) (by omega) (by omega) (fun e => absurd e c3)
theorem zl_273 {N T Q : Nat} {m : MS} {F : Nat → Nat} {p : zs_H} {R : Nat → Nat → Nat} {K : Nat → Option zs_E} {g : Nat} (H : zr p F (zl_z N T Q) R (zl_C m) K) (hg : g < 3) : ∀ (d i j k : Nat), j < 10 → i + d = 10 → d < k → ∃ j2, j2 < 10 ∧ fLL_act_273 F p (nI g) k (nI j) (nI i) = some (nI j2)
  | 0, i, j, k + 1, hj, hi, _ => ⟨j, hj, by rw [fLL_act_273, if_pos (show (10 : Int32) ≤ nI i by rw [show (10 : Int32) = nI 10 from rfl, pu_le (by omega) (by omega)]; omega)]⟩
  | d + 1, i, j, k + 1, hj, hi, hk => by
    have e1 : zs_ldr p (F 11) (nI j) = some (R 4 j) := zr_ldr H (k := 4) (by omega) (show j < 10 by omega) (show (10 : Nat) < 2147483648 by decide)
    have e2 : zs_ld p (R 4 j) (nI g) = some (m.loft (3 * j + g)) := zr_ld H (k := 4) (c := g) (by omega) (show j < 10 by omega) hg
    rw [fLL_act_273, if_neg (show ¬ (10 : Int32) ≤ nI i by rw [show (10 : Int32) = nI 10 from rfl, pu_le (by omega) (by omega)]; omega), e1, pu_bs, e2, pu_bs]
    split
    · exact ⟨j, hj, rfl⟩
    · obtain ⟨j2, h2, e⟩ := zl_273 H hg d (i + 1) ((j + 1) - (j + 1) / 10 * 10) k (by omega) (by omega) (by omega)
      refine ⟨j2, h2, ?_⟩
      rw [show (1 : Int32) = nI 1 from rfl, show (10 : Int32) = nI 10 from rfl, pu_add, pu_add, pu_div (by omega) (by omega), pu_mul, pu_sub (by omega)]
      exact e
theorem pb_hanging {f : FN} {a b : Nat} (ha : a < 10) (hb : b < 3) : fX0_hanging f (nI a) (nI b) = some (f (3 * a + b)) := by
  unfold fX0_hanging
  rw [show (10 : Int32) = nI 10 from rfl, pb_in ha (by omega), pu_bs, if_neg n10, show (3 : Int32) = nI 3 from rfl, pb_in hb (by omega), pu_bs, if_neg n10, pu_mul, pu_add, Nat.mul_comm a 3, pu_ck (by omega) (by omega), pu_tn (by omega)]
theorem zx_sellV {X : XT} {j g k y c : Nat} (hj : j < 10) (hg : g < 3) (h1 : 1 ≤ k) (h9 : k ≤ 9) (hy : X.1.loft (3 * j + g) = nI y) (hyb : y < 1000000) (hk : 24 * k ≤ y) (hc : X.1.coins = nI c) : zx_sell X (nI j) (nI g) (nI k) = some (nI (k * wtF g), ((MS.of X.1.day (nI (c + k * wtF g)) X.1.felts X.1.made X.1.worth X.1.rags X.1.water X.1.pulp X.1.beat X.1.sort X.1.nM X.1.mark X.1.size X.1.worn X.1.nT X.1.skill X.1.vat X.1.pair X.1.nQ X.1.allS X.1.pmark X.1.pgrade X.1.psheets (upd X.1.loft (3 * j + g) (nI (y - 24 * k)))), X.2)) := by
  unfold zx_sell fX5_sell
  rw [show (10 : Int32) = nI 10 from rfl, pb_in hj (by omega), pu_bs, if_neg n10, show (3 : Int32) = nI 3 from rfl, pb_in hg (by omega), pu_bs, if_neg n10, show (9 : Int32) = nI 9 from rfl, pu_from1 h1 h9 (by omega), pu_bs, if_neg n10, pb_hanging hj hg, pu_bs, hy, show (24 : Int32) = nI 24 from rfl, pu_mul, if_pos (by rw [pu_le (by omega) (by omega)]; omega), (pb_worth (by omega)).1, pu_bs, pb_hang (by omega) (by omega), pu_bs, hy, hc, pu_mul, pu_add, ← Int32.sub_eq_add_neg, pu_sub (by omega), Nat.mul_comm k 24]
theorem zl_310 {A D : Nat} {X : XT} {G : FN} {F : Nat → Nat} {p : zs_H} {j g : Nat} (x2 : Int32) (I : zl_INV A D X G F p) (hA : A ≤ 200) (hD : D ≤ 200) (hj : j < 10) (hg : g < 3) : zl_OK (A + 1) D (fBL_act_310 X G F p x2 (nI g) (nI j)) := by
  have I0 := I
  obtain ⟨N, T, F0, c, l, R, C, H, hc, hcb, hr⟩ := I
  obtain ⟨y, hy, ey⟩ := C.lo (3 * j + g) (by omega)
  have e1 : zs_ldr p (F 11) (nI j) = some (R 4 j) := zr_ldr H.r (k := 4) (by omega) (show j < 10 by omega) (show (10 : Nat) < 2147483648 by decide)
  have e2 : zs_ld p (R 4 j) (nI g) = some (nI y) := (zr_ld H.r (k := 4) (c := g) (by omega) (show j < 10 by omega) hg).trans (congrArg some ey)
  unfold fBL_act_310
  rw [e1, pu_bs, e2, pu_bs]
  by_cases c24 : 24 ≤ y
  · have hy24 : 1 ≤ y / 24 := by omega
    have ht : (if nI y / 24 ≤ 9 then (some (R 4 j)).bind fun x59 => (zs_ld p x59 (nI g)).bind fun x60 => some (x60 / 24) else some 9) = some (nI (min (y / 24) 9)) := by
      rw [pu_bs, e2, pu_bs, show (24 : Int32) = nI 24 from rfl, show (9 : Int32) = nI 9 from rfl, pu_div (by omega) (by omega)]
      by_cases c9 : y / 24 ≤ 9
      · rw [if_pos (by rw [pu_le (by omega) (by omega)]; exact c9), Nat.min_eq_left c9]
      · rw [if_neg (by rw [pu_le (by omega) (by omega)]; exact c9), Nat.min_eq_right (by omega)]
    obtain ⟨r, hr2, er⟩ := zl_below (x := x2 >>> (4 &&& 31)) (n := min (y / 24) 9) (by omega) (by omega)
    have hw := wtF_le g
    have hkw : (1 + r) * wtF g ≤ 9 * 12 := Nat.mul_le_mul (by omega) hw
    obtain ⟨p2, s1, -, H1⟩ := zr_st H.r (k := 4) (j := j) (c := g) (v := nI (y - 24 * (1 + r))) (by omega) (show j < 10 by omega) hg
    have H2 := zr_cC H1 (fun k j2 c _ _ hc => (zc_loft _ j g (nI (y - 24 * (1 + r))) hg k j2 c hc).symm)
    have I2 : zl_INV (A + 1) D ((MS.of X.1.day (nI (c + (1 + r) * wtF g)) X.1.felts X.1.made X.1.worth X.1.rags X.1.water X.1.pulp X.1.beat X.1.sort X.1.nM X.1.mark X.1.size X.1.worn X.1.nT X.1.skill X.1.vat X.1.pair X.1.nQ X.1.allS X.1.pmark X.1.pgrade X.1.psheets (upd X.1.loft (3 * j + g) (nI (y - 24 * (1 + r))))), X.2) (upd G 1 (G 1 + nI ((1 + r) * wtF g))) F p2 := ⟨N, T, F0, c + (1 + r) * wtF g, l, R, ⟨C.day, C.fel, C.Fle, C.nM, C.Nle, C.nT, C.Tle, C.pu, C.be, C.em, C.so, C.mk, C.sz, C.wn, C.sk, C.vt, C.pr, C.un, C.wa, C.nQ, C.al, C.sl, C.ok, C.ec, fun i hi => by
      show ∃ n, n ≤ 24 * D ∧ upd X.1.loft (3 * j + g) (nI (y - 24 * (1 + r))) i = nI n
      by_cases ci : i = 3 * j + g
      · subst ci; rw [pu_up]; exact ⟨_, by omega, rfl⟩
      · rw [pu_un ci]; exact C.lo i hi⟩, ⟨(pu_un (by decide)).trans H.g0, pu_up.trans (by rw [H.g1, hc, pu_add]), (pu_un (by decide)).trans H.g2, (pu_un (by decide)).trans H.g3, (pu_un (by decide)).trans H.g4, H2⟩, rfl, by omega, fun j hj => by obtain ⟨n, hn, e⟩ := hr j hj; exact ⟨n, by omega, e⟩⟩
    refine ⟨_, _, _, _, ?_, I2⟩
    rw [if_pos (show (24 : Int32) ≤ nI y by rw [show (24 : Int32) = nI 24 from rfl, pu_le (by omega) (by omega)]; exact c24), pu_bs, e2, pu_bs, ht, pu_bs, er, pu_bs, pu_bs, e2, pu_bs, show (1 : Int32) = nI 1 from rfl, pu_add, show (24 : Int32) = nI 24 from rfl, pu_mul, pu_sub (by omega), s1, pu_bs, (pb_worth (g := g) (by omega)).2, pu_bs, zx_sellV hj hg (by omega) (by omega) ey (by omega) (by omega) hc, pu_bs, pu_bs, pu_mul, if_pos rfl]
  · rw [if_neg (show ¬ (24 : Int32) ≤ nI y by rw [show (24 : Int32) = nI 24 from rfl, pu_le (by omega) (by omega)]; exact c24)]
    exact zl_stay I0
theorem zl_260 {A D : Nat} {X : XT} {G : FN} {F : Nat → Nat} {p : zs_H} {g : Nat} (x2 : Int32) (I : zl_INV A D X G F p) (hA : A ≤ 200) (hD : D ≤ 200) (hg : g < 3) : zl_OK (A + 1) D (fBL_act_260 X G F p x2 (nI g)) := by
  have I0 := I
  obtain ⟨N, T, F0, c, l, R, C, H, hc, hcb, hr⟩ := I
  obtain ⟨j, hj, ej⟩ := zl_below (x := x2 >>> (1 &&& 31)) (n := 10) (by omega) (by omega)
  have ej' : fL_below (x2 >>> (1 &&& 31)) 10 = some (nI j) := ej
  obtain ⟨j2, hj2, e2⟩ := zl_273 H.r hg 10 0 j 300 hj rfl (by omega)
  have e2' : fLL_act_273 F p (nI g) 300 (nI j) 0 = some (nI j2) := e2
  unfold fBL_act_260
  rw [ej', pu_bs, e2', pu_bs]
  exact zl_310 x2 I0 hA hD hj2 hg
theorem zr_rp {C : Nat → Nat → Nat → Int32} {k j c : Nat} {f : FN} : zr_r C k j f k j c = f c := if_pos ⟨rfl, rfl⟩
theorem zr_rn {C : Nat → Nat → Nat → Int32} {k j k2 j2 c : Nat} {f : FN} (h : ¬ (k2 = k ∧ j2 = j)) : zr_r C k j f k2 j2 c = C k2 j2 c := if_neg h
theorem zc_vat (m : MS) (v : Nat) (f : FN) : ∀ k2 j2 c2, c2 < zr_w k2 → zr_r (zl_C m) 0 v f k2 j2 c2 = zl_C (MS.of m.day m.coins m.felts m.made m.worth m.rags m.water (upd m.pulp v (f 0)) (upd m.beat v (f 1)) (upd m.sort v (f 2)) m.nM m.mark m.size m.worn m.nT m.skill m.vat m.pair m.nQ m.allS m.pmark m.pgrade m.psheets m.loft) k2 j2 c2 := by
  intro k2 j2 c2 hc
  by_cases h : k2 = 0 ∧ j2 = v
  · obtain ⟨rfl, rfl⟩ := h
    rw [zr_rp]
    rcases c2 with _ | _ | _ | c2
    · exact pu_up.symm
    · exact pu_up.symm
    · exact pu_up.symm
    · exact absurd hc (by show ¬ (c2 + 1 + 1 + 1 < 3); omega)
  · rw [zr_rn h]
    rcases k2 with _ | k2
    · rcases c2 with _ | _ | c2
      · exact (pu_un (fun e => h ⟨rfl, e⟩)).symm
      · exact (pu_un (fun e => h ⟨rfl, e⟩)).symm
      · exact (pu_un (fun e => h ⟨rfl, e⟩)).symm
    · rcases k2 with _ | _ | _ | _ | _ | k2 <;> rfl
theorem zl_row3 {p : zs_H} {F : Nat → Nat} {sz : Nat → Nat} {R : Nat → Nat → Nat} {C : Nat → Nat → Nat → Int32} {K : Nat → Option zs_E} (H : zr p F sz R C K) (a b c : Int32) : ∃ p1 p2 p3 p4, zs_nwi p 3 3 = some p1 ∧ zs_st p1 p.1 0 a = some p2 ∧ zs_st p2 p.1 1 b = some p3 ∧ zs_st p3 p.1 2 c = some p4 ∧ p4.1 = p.1 + 1 ∧ zr p4 F sz R C (va_up K p.1 (some (.inl (3, upd (upd (upd (fun _ => 0) 0 a) 1 b) 2 c)))) := by
  obtain ⟨p1, n1, n2, H1⟩ := zr_nwi H (n := 3) (B := 3) (Nat.le_refl _) (by decide)
  obtain ⟨p2, s2, t2, H2⟩ := zr_kst H1 (q := p.1) (n := 3) (c := 0) (v := a) va_up_p (by omega) (by decide)
  obtain ⟨p3, s3, t3, H3⟩ := zr_kst H2 (q := p.1) (n := 3) (c := 1) (v := b) va_up_p (by omega) (by decide)
  obtain ⟨p4, s4, t4, H4⟩ := zr_kst H3 (q := p.1) (n := 3) (c := 2) (v := c) va_up_p (by omega) (by decide)
  refine ⟨p1, p2, p3, p4, n1, s2, s3, s4, by omega, zr_cK H4 (fun q e h => ?_)⟩
  by_cases cq : q = p.1
  · subst cq
    rw [va_up_p] at h ⊢
    exact h
  · rw [va_up_n cq] at h
    rw [va_up_n cq, va_up_n cq, va_up_n cq, va_up_n cq]
    exact h
theorem zr_eN {Q : Prop} {q : Nat} {e : zs_E} (h : zr_e q = some e) : Q := by cases h
theorem zx_fillV {X : XT} {v s n k : Nat} (hv : v < 4) (hs : s < 3) (h1 : 1 ≤ k) (h2 : k ≤ 40) (hp : X.1.pulp v = nI 0) (hn : X.1.rags s = nI n) (hnb : n < 1000000) (hk : k ≤ n) : zx_fill X (nI v) (nI s) (nI k) = some (nI (n - k), ((MS.of X.1.day X.1.coins X.1.felts X.1.made X.1.worth (upd X.1.rags s (nI (n - k))) X.1.water (upd X.1.pulp v (nI k)) (upd X.1.beat v (nI 0)) (upd X.1.sort v (nI s)) X.1.nM X.1.mark X.1.size X.1.worn X.1.nT X.1.skill X.1.vat X.1.pair X.1.nQ X.1.allS X.1.pmark X.1.pgrade X.1.psheets X.1.loft), X.2)) := by
  unfold zx_fill fX5_fill
  rw [show (4 : Int32) = nI 4 from rfl, pb_in hv (by omega), pu_bs, if_neg n10, show (3 : Int32) = nI 3 from rfl, pb_in hs (by omega), pu_bs, if_neg n10, show (40 : Int32) = nI 40 from rfl, pu_from1 h1 h2 (by omega), pu_bs, if_neg n10, pb_pulpOf hv, pu_bs, hp, if_pos (show nI 0 ≤ 0 by decide), pu_ck hs (by omega), pu_tn (by omega), hn, if_pos (by rw [pu_le (by omega) (by omega)]; exact hk), pu_ck hs (by omega), pu_ck hs (by omega), pb_charge hv, pu_bs, pu_ck hs (by omega), pu_sub hk, pu_up]
  rfl
theorem zl_435 {A D : Nat} {X : XT} {G : FN} {F : Nat → Nat} {p : zs_H} {v s : Nat} (x2 : Int32) (I : zl_INV A D X G F p) (hA : A ≤ 200) (hv : v < 4) (hs : s < 3) : zl_OK (A + 1) D (fBL_act_435 X G F p x2 (nI v) (nI s)) := by
  have I0 := I
  obtain ⟨N, T, F0, c, l, R, C, H, hc, hcb, hr⟩ := I
  obtain ⟨r, hr2, er⟩ := zl_below (x := x2 >>> (4 &&& 31)) (n := 40) (by omega) (by omega)
  have er' : fL_below (x2 >>> (4 &&& 31)) 40 = some (nI r) := er
  obtain ⟨n, hn, en⟩ := hr s hs
  obtain ⟨y, hy, ey⟩ := C.pu v hv
  have e1 : zs_ldr p (F 7) (nI v) = some (R 0 v) := zr_ldr H.r (k := 0) (by omega) hv (show (4 : Nat) < 2147483648 by decide)
  have e2 : zs_ld p (R 0 v) 0 = some (nI y) := (zr_ld H.r (k := 0) (c := 0) (by omega) hv (by decide)).trans (congrArg some ey)
  have e3 := zl_ldR (w := s) H.r hs
  unfold fBL_act_435
  rw [er', pu_bs, e1, pu_bs, e2, pu_bs]
  by_cases c0 : y = 0
  · rw [if_neg (show ¬ (0 : Int32) < nI y by rw [c0]; decide), e3, pu_bs, en, show (1 : Int32) = nI 1 from rfl, pu_add]
    by_cases c1 : 1 + r ≤ n
    · obtain ⟨p1, s1, H1⟩ := zl_stR (w := s) (x := nI (n - (1 + r))) H.r hs
      obtain ⟨q1, q2, q3, q4, t1, t2, t3, t4, t5, H2⟩ := zl_row3 H1 (nI (1 + r)) (nI 0) (nI s)
      obtain ⟨p5, u1, u2, H3⟩ := zr_put H2 (k := 0) (j := v) (by omega) hv (show (4 : Nat) < 2147483648 by decide) va_up_p
      have u1' : zs_str q4 (F 7) (nI v) p1.1 = some p5 := u1
      have H4 := zr_cK (K2 := zr_e) (zr_cC H3 (fun k j c _ _ hc => (zc_vat _ v _ k j c hc).symm)) (fun q e h => zr_eN h)
      have H5 := zr_cC (C2 := zl_C (MS.of X.1.day X.1.coins X.1.felts X.1.made X.1.worth (upd X.1.rags s (nI (n - (1 + r)))) X.1.water (upd X.1.pulp v (nI (1 + r))) (upd X.1.beat v (nI 0)) (upd X.1.sort v (nI s)) X.1.nM X.1.mark X.1.size X.1.worn X.1.nT X.1.skill X.1.vat X.1.pair X.1.nQ X.1.allS X.1.pmark X.1.pgrade X.1.psheets X.1.loft)) H4 (fun k j c _ _ _ => congrFun (congrFun (congrFun (zl_CE rfl rfl rfl rfl rfl rfl rfl rfl rfl rfl rfl rfl rfl rfl rfl) k) j) c)
      have t2' : zs_st q1 p1.1 0 (nI (1 + r)) = some q2 := t2
      have e6 : zs_ld p5 (F 6) (nI s) = some (nI (n - (1 + r))) := (zl_ldR (w := s) H5 hs).trans (congrArg some pu_up)
      have I2 : zl_INV (A + 1) D ((MS.of X.1.day X.1.coins X.1.felts X.1.made X.1.worth (upd X.1.rags s (nI (n - (1 + r)))) X.1.water (upd X.1.pulp v (nI (1 + r))) (upd X.1.beat v (nI 0)) (upd X.1.sort v (nI s)) X.1.nM X.1.mark X.1.size X.1.worn X.1.nT X.1.skill X.1.vat X.1.pair X.1.nQ X.1.allS X.1.pmark X.1.pgrade X.1.psheets X.1.loft), X.2) G F p5 := ⟨N, T, F0, c, l, _, ⟨C.day, C.fel, C.Fle, C.nM, C.Nle, C.nT, C.Tle, fun u hu => by
        show ∃ n, n ≤ 40 ∧ upd X.1.pulp v (nI (1 + r)) u = nI n
        by_cases cu : u = v
        · subst cu; rw [pu_up]; exact ⟨_, by omega, rfl⟩
        · rw [pu_un cu]; exact C.pu u hu, fun u hu => by
        show ∃ n, n ≤ 99 ∧ upd X.1.beat v (nI 0) u = nI n
        by_cases cu : u = v
        · subst cu; rw [pu_up]; exact ⟨0, by omega, rfl⟩
        · rw [pu_un cu]; exact C.be u hu, fun u hu hp => by
        have hp' : upd X.1.pulp v (nI (1 + r)) u = nI 0 := hp
        show upd X.1.beat v (nI 0) u = nI 0 ∧ upd X.1.sort v (nI s) u = -nI 1
        by_cases cu : u = v
        · subst cu
          rw [pu_up] at hp'
          exact absurd hp' (pu_ne (by omega) (by omega) (by omega))
        · rw [pu_un cu] at hp'
          rw [pu_un cu, pu_un cu]
          exact C.em u hu hp', fun u hu hp => by
        have hp' : upd X.1.pulp v (nI (1 + r)) u ≠ nI 0 := hp
        show ∃ n, n < 3 ∧ upd X.1.sort v (nI s) u = nI n
        by_cases cu : u = v
        · subst cu; rw [pu_up]; exact ⟨s, hs, rfl⟩
        · rw [pu_un cu] at hp'
          rw [pu_un cu]
          exact C.so u hu hp', C.mk, C.sz, C.wn, C.sk, C.vt, C.pr, C.un, C.wa, C.nQ, C.al, C.sl, C.ok, C.ec, C.lo⟩, ⟨H.g0, H.g1, H.g2, H.g3, H.g4, H5⟩, hc, by omega, fun j hj => by
        show ∃ n2, n2 ≤ 60 + 12 * (A + 1) ∧ upd X.1.rags s (nI (n - (1 + r))) j = nI n2
        by_cases cj : j = s
        · subst cj; rw [pu_up]; exact ⟨_, by omega, rfl⟩
        · rw [pu_un cj]; obtain ⟨n, hn, e⟩ := hr j hj; exact ⟨n, by omega, e⟩⟩
      refine ⟨_, _, _, _, ?_, I2⟩
      rw [if_pos (by rw [pu_le (by omega) (by omega)]; exact c1), pu_bs, pu_sub c1, s1, pu_bs, t1, pu_bs, show nI 1 = (1 : Int32) from rfl, t2', pu_bs, show (0 : Int32) = nI 0 from rfl, t3, pu_bs, t4, pu_bs, u1', pu_bs, zx_fillV hv hs (by omega) (by omega) (by rw [ey, c0]) en (by omega) c1, pu_bs, e6, pu_bs, if_pos rfl]
    · rw [if_neg (by rw [pu_le (by omega) (by omega)]; exact c1)]
      exact zl_stay I0
  · rw [if_pos (show (0 : Int32) < nI y by rw [show (0 : Int32) = nI 0 from rfl, pu_lt (by omega) (by omega)]; omega)]
    exact zl_stay I0
theorem zx_drainV {X : XT} {v n : Nat} (hv : v < 4) (hn : X.1.pulp v = nI n) (h0 : n ≠ 0) (hnb : n ≤ 40) : zx_drain X (nI v) = some (nI n, ((MS.of X.1.day X.1.coins X.1.felts X.1.made X.1.worth X.1.rags X.1.water (upd X.1.pulp v 0) (upd X.1.beat v 0) (upd X.1.sort v (-1)) X.1.nM X.1.mark X.1.size X.1.worn X.1.nT X.1.skill X.1.vat X.1.pair X.1.nQ X.1.allS X.1.pmark X.1.pgrade X.1.psheets X.1.loft), X.2)) := by
  unfold zx_drain fX5_drain
  rw [show (4 : Int32) = nI 4 from rfl, pb_in hv (by omega), pu_bs, if_neg n10, pb_pulpOf hv, pu_bs, hn, if_neg (show ¬ nI n = 0 from pu_ne (a := n) (b := 0) h0 (by omega) (by omega)), pb_takeOut hv hn (by omega) (Nat.le_refl n), pu_bs, if_pos rfl]
theorem zl_535 {A D : Nat} {X : XT} {G : FN} {F : Nat → Nat} {p : zs_H} {v : Nat} (x2 : Int32) (I : zl_INV A D X G F p) (hv : v < 4) : zl_OK (A + 1) D (fBL_act_535 X G F p x2 (nI v)) := by
  have I0 := I
  obtain ⟨N, T, F0, c, l, R, C, H, hc, hcb, hr⟩ := I
  obtain ⟨r, hr2, er⟩ := zl_below (x := x2 >>> (3 &&& 31)) (n := 4) (by omega) (by omega)
  have er' : fL_below (x2 >>> (3 &&& 31)) 4 = some (nI r) := er
  obtain ⟨y, hy, ey⟩ := C.pu v hv
  have e1 : zs_ldr p (F 7) (nI v) = some (R 0 v) := zr_ldr H.r (k := 0) (by omega) hv (show (4 : Nat) < 2147483648 by decide)
  have e2 : zs_ld p (R 0 v) 0 = some (nI y) := (zr_ld H.r (k := 0) (c := 0) (by omega) hv (by decide)).trans (congrArg some ey)
  unfold fBL_act_535
  rw [e1, pu_bs, e2, pu_bs]
  by_cases c0 : y = 0
  · rw [if_pos (show nI y = 0 by rw [c0]; rfl)]
    exact zl_stay I0
  · rw [if_neg (show ¬ nI y = 0 from pu_ne (a := y) (b := 0) c0 (by omega) (by omega)), er', pu_bs]
    by_cases c1 : nI r ≤ 0
    · obtain ⟨q1, q2, q3, q4, t1, t2, t3, t4, t5, H2⟩ := zl_row3 H.r 0 0 (-1)
      obtain ⟨p5, u1, u2, H3⟩ := zr_put H2 (k := 0) (j := v) (by omega) hv (show (4 : Nat) < 2147483648 by decide) va_up_p
      have u1' : zs_str q4 (F 7) (nI v) p.1 = some p5 := u1
      have H4 := zr_cK (K2 := zr_e) (zr_cC H3 (fun k j c _ _ hc => (zc_vat _ v _ k j c hc).symm)) (fun q e h => zr_eN h)
      have H5 := zr_cC (C2 := zl_C (MS.of X.1.day X.1.coins X.1.felts X.1.made X.1.worth X.1.rags X.1.water (upd X.1.pulp v 0) (upd X.1.beat v 0) (upd X.1.sort v (-1)) X.1.nM X.1.mark X.1.size X.1.worn X.1.nT X.1.skill X.1.vat X.1.pair X.1.nQ X.1.allS X.1.pmark X.1.pgrade X.1.psheets X.1.loft)) H4 (fun k j c _ _ _ => congrFun (congrFun (congrFun (zl_CE rfl rfl rfl rfl rfl rfl rfl rfl rfl rfl rfl rfl rfl rfl rfl) k) j) c)
      have I2 : zl_INV (A + 1) D ((MS.of X.1.day X.1.coins X.1.felts X.1.made X.1.worth X.1.rags X.1.water (upd X.1.pulp v 0) (upd X.1.beat v 0) (upd X.1.sort v (-1)) X.1.nM X.1.mark X.1.size X.1.worn X.1.nT X.1.skill X.1.vat X.1.pair X.1.nQ X.1.allS X.1.pmark X.1.pgrade X.1.psheets X.1.loft), X.2) G F p5 := ⟨N, T, F0, c, l, _, ⟨C.day, C.fel, C.Fle, C.nM, C.Nle, C.nT, C.Tle, fun u hu => by
        show ∃ n, n ≤ 40 ∧ upd X.1.pulp v 0 u = nI n
        by_cases cu : u = v
        · subst cu; rw [pu_up]; exact ⟨0, by omega, rfl⟩
        · rw [pu_un cu]; exact C.pu u hu, fun u hu => by
        show ∃ n, n ≤ 99 ∧ upd X.1.beat v 0 u = nI n
        by_cases cu : u = v
        · subst cu; rw [pu_up]; exact ⟨0, by omega, rfl⟩
        · rw [pu_un cu]; exact C.be u hu, fun u hu hp => by
        have hp' : upd X.1.pulp v 0 u = nI 0 := hp
        show upd X.1.beat v 0 u = nI 0 ∧ upd X.1.sort v (-1) u = -nI 1
        by_cases cu : u = v
        · subst cu
          rw [pu_up, pu_up]
          exact ⟨rfl, pu_m1e⟩
        · rw [pu_un cu] at hp'
          rw [pu_un cu, pu_un cu]
          exact C.em u hu hp', fun u hu hp => by
        have hp' : upd X.1.pulp v 0 u ≠ nI 0 := hp
        show ∃ n, n < 3 ∧ upd X.1.sort v (-1) u = nI n
        by_cases cu : u = v
        · subst cu; exact absurd pu_up hp'
        · rw [pu_un cu] at hp'
          rw [pu_un cu]
          exact C.so u hu hp', C.mk, C.sz, C.wn, C.sk, C.vt, C.pr, C.un, C.wa, C.nQ, C.al, C.sl, C.ok, C.ec, C.lo⟩, ⟨H.g0, H.g1, H.g2, H.g3, H.g4, H5⟩, hc, by omega, fun j hj => by obtain ⟨n, hn, e⟩ := hr j hj; exact ⟨n, by omega, e⟩⟩
      refine ⟨_, _, _, _, ?_, I2⟩
      rw [if_pos c1, pu_bs, e2, pu_bs, t1, pu_bs, t2, pu_bs, t3, pu_bs, t4, pu_bs, u1', pu_bs, zx_drainV hv ey c0 hy, pu_bs, if_pos rfl]
    · rw [if_neg c1]
      exact zl_stay I0
theorem zc_pair {m : MS} {N T Q : Nat} {a b c : Int32} : ∀ k j d, k < 7 → j < zl_z (N + 1) T Q k → d < zr_w k → zl_C (MS.of m.day m.coins m.felts m.made m.worth m.rags m.water m.pulp m.beat m.sort m.nM (upd m.mark N a) (upd m.size N b) (upd m.worn N c) m.nT m.skill m.vat m.pair m.nQ m.allS m.pmark m.pgrade m.psheets m.loft) k j d = (if k = 1 then (if j = zl_z N T Q 1 then upd (upd (upd (fun _ => 0) 0 a) 1 b) 2 c else zl_C m 1 j) else zl_C m k j) d := by
  intro k j d hk hj hd
  by_cases ck : k = 1
  · subst ck
    rw [if_pos rfl]
    by_cases cj : j = N
    · subst cj
      rw [if_pos (show j = zl_z j T Q 1 from rfl)]
      rcases d with _ | _ | _ | d
      · rw [pu_un (show (0 : Nat) ≠ 2 by decide), pu_un (show (0 : Nat) ≠ 1 by decide), pu_up]; exact pu_up
      · rw [pu_un (show (0 + 1 : Nat) ≠ 2 by decide)]
        exact Eq.trans pu_up pu_up.symm
      · exact Eq.trans pu_up pu_up.symm
      · exact absurd hd (by show ¬ (d + 1 + 1 + 1 < 3); omega)
    · rw [if_neg (show ¬ j = zl_z N T Q 1 from cj)]
      rcases d with _ | _ | d
      · exact pu_un cj
      · exact pu_un cj
      · exact pu_un cj
  · rw [if_neg ck]
    rcases k with _ | _ | k
    · rfl
    · exact absurd rfl ck
    · rcases k with _ | _ | _ | _ | k <;> rfl
theorem zc_team {m : MS} {N T Q : Nat} {a b c : Int32} : ∀ k j d, k < 7 → j < zl_z N (T + 1) Q k → d < zr_w k → zl_C (MS.of m.day m.coins m.felts m.made m.worth m.rags m.water m.pulp m.beat m.sort m.nM m.mark m.size m.worn m.nT (upd m.skill T a) (upd m.vat T b) (upd m.pair T c) m.nQ m.allS m.pmark m.pgrade m.psheets m.loft) k j d = (if k = 2 then (if j = zl_z N T Q 2 then upd (upd (upd (fun _ => 0) 0 a) 1 b) 2 c else zl_C m 2 j) else zl_C m k j) d := by
  intro k j d hk hj hd
  by_cases ck : k = 2
  · subst ck
    rw [if_pos rfl]
    by_cases cj : j = T
    · subst cj
      rw [if_pos (show j = zl_z N j Q 2 from rfl)]
      rcases d with _ | _ | _ | d
      · rw [pu_un (show (0 : Nat) ≠ 2 by decide), pu_un (show (0 : Nat) ≠ 1 by decide), pu_up]; exact pu_up
      · rw [pu_un (show (0 + 1 : Nat) ≠ 2 by decide)]
        exact Eq.trans pu_up pu_up.symm
      · exact Eq.trans pu_up pu_up.symm
      · exact absurd hd (by show ¬ (d + 1 + 1 + 1 < 3); omega)
    · rw [if_neg (show ¬ j = zl_z N T Q 2 from cj)]
      rcases d with _ | _ | d
      · exact pu_un cj
      · exact pu_un cj
      · exact pu_un cj
  · rw [if_neg ck]
    rcases k with _ | _ | _ | k
    · rfl
    · rfl
    · exact absurd rfl ck
    · rcases k with _ | _ | _ | k <;> rfl
theorem zl_zP {N T Q : Nat} : ∀ k, k < 7 → zl_z (N + 1) T Q k = va_up (zl_z N T Q) 1 (N + 1) k := by
  intro k hk
  by_cases c : k = 1
  · subst c; exact va_up_p.symm
  · rw [va_up_n c]
    rcases k with _ | _ | k
    · rfl
    · exact absurd rfl c
    · rcases k with _ | _ | _ | k <;> rfl
theorem zl_zT {N T Q : Nat} : ∀ k, k < 7 → zl_z N (T + 1) Q k = va_up (zl_z N T Q) 2 (T + 1) k := by
  intro k hk
  by_cases c : k = 2
  · subst c; exact va_up_p.symm
  · rw [va_up_n c]
    rcases k with _ | _ | _ | k
    · rfl
    · rfl
    · exact absurd rfl c
    · rcases k with _ | _ | k <;> rfl
theorem zx_pairV {X : XT} {N a b : Nat} (hN : X.1.nM = nI N) (h5 : N < 5) (ha : a < 10) (h1 : 1 ≤ b) (h3 : b ≤ 3) : zx_pair X (nI a) (nI b) = some (nI N, ((MS.of X.1.day X.1.coins X.1.felts X.1.made X.1.worth X.1.rags X.1.water X.1.pulp X.1.beat X.1.sort (nI (N + 1)) (upd X.1.mark N (nI a)) (upd X.1.size N (nI b)) (upd X.1.worn N 0) X.1.nT X.1.skill X.1.vat X.1.pair X.1.nQ X.1.allS X.1.pmark X.1.pgrade X.1.psheets X.1.loft), X.2)) := by
  unfold zx_pair fX5_pair fX1_add
  rw [hN, show (10 : Int32) = nI 10 from rfl, pb_in ha (by omega), pu_bs, if_neg n10, show (3 : Int32) = nI 3 from rfl, pu_from1 h1 h3 (by omega), pu_bs, if_neg n10, if_pos (show nI N < 5 by rw [show (5 : Int32) = nI 5 from rfl, pu_lt (by omega) (by omega)]; exact h5), if_pos (show nI N < 5 by rw [show (5 : Int32) = nI 5 from rfl, pu_lt (by omega) (by omega)]; exact h5), pu_ck h5 (by omega), pu_ck h5 (by omega), pu_ck h5 (by omega), pu_bs, pu_tn (by omega), show (1 : Int32) = nI 1 from rfl, pu_add, pu_sub (by omega), Nat.add_sub_cancel]
theorem zl_609 {A D N : Nat} {X : XT} {G : FN} {F : Nat → Nat} {p : zs_H} (x2 : Int32) (I : zl_INV A D X G F p) (hN : zs_len p (F 8) = some (nI N)) : zl_OK (A + 1) D (fBL_act_609 X G F p x2 (nI N)) := by
  have I0 := I
  obtain ⟨N2, T, F0, c, l, R, C, H, hc, hcb, hr⟩ := I
  have hl : zs_len p (F 8) = some (nI N2) := zr_len H.r (k := 1) (by omega)
  have hNN : nI N = nI N2 := Option.some.inj (hN.symm.trans hl)
  rw [hNN]
  clear hNN hN
  have hN5 := C.Nle
  unfold fBL_act_609
  by_cases c5 : N2 = 5
  · rw [if_pos (show nI N2 = 5 by rw [c5]; rfl)]
    exact zl_stay I0
  · obtain ⟨a, ha, ea⟩ := zl_below (x := x2 >>> (1 &&& 31)) (n := 10) (by omega) (by omega)
    have ea' : fL_below (x2 >>> (1 &&& 31)) 10 = some (nI a) := ea
    obtain ⟨b, hb, eb⟩ := zl_below (x := x2 >>> (5 &&& 31)) (n := 3) (by omega) (by omega)
    have eb' : fL_below (x2 >>> (5 &&& 31)) 3 = some (nI b) := eb
    obtain ⟨q1, q2, q3, q4, t1, t2, t3, t4, t5, H2⟩ := zl_row3 H.r (nI a) (nI (1 + b)) 0
    obtain ⟨p5, m1, m2, H5⟩ := zr_grow H2 (k := 1) (r := p.1) (by omega) va_up_p (show N2 + 1 ≤ 92 by omega)
    have m1' : fX6_more q4 (F 8) p.1 = some (q4.1, p5) := m1
    have H6 := zr_cK (K2 := zr_e) (zr_cC (zr_cS H5 (s2 := zl_z (N2 + 1) T l.length) zl_zP) (C2 := zl_C (MS.of X.1.day X.1.coins X.1.felts X.1.made X.1.worth X.1.rags X.1.water X.1.pulp X.1.beat X.1.sort X.1.nM (upd X.1.mark N2 (nI a)) (upd X.1.size N2 (nI (1 + b))) (upd X.1.worn N2 0) X.1.nT X.1.skill X.1.vat X.1.pair X.1.nQ X.1.allS X.1.pmark X.1.pgrade X.1.psheets X.1.loft)) zc_pair) (fun q e h => zr_eN h)
    have e1 := zr_ldr H6 (k := 1) (j := N2) (by omega) (show N2 < N2 + 1 by omega) (show N2 + 1 < 2147483648 by omega)
    rw [va_up_p] at e1
    have e2 := zr_ld H6 (k := 1) (j := N2) (c := 0) (by omega) (show N2 < N2 + 1 by omega) (by decide)
    have e3 := zr_ld H6 (k := 1) (j := N2) (c := 1) (by omega) (show N2 < N2 + 1 by omega) (by decide)
    have e2' := e2.trans (congrArg some (show _ = nI a from pu_up))
    have e3' := e3.trans (congrArg some (show _ = nI (1 + b) from pu_up))
    have H7 := zr_cC (C2 := zl_C (MS.of X.1.day X.1.coins X.1.felts X.1.made X.1.worth X.1.rags X.1.water X.1.pulp X.1.beat X.1.sort (nI (N2 + 1)) (upd X.1.mark N2 (nI a)) (upd X.1.size N2 (nI (1 + b))) (upd X.1.worn N2 0) X.1.nT X.1.skill X.1.vat X.1.pair X.1.nQ X.1.allS X.1.pmark X.1.pgrade X.1.psheets X.1.loft)) H6 (fun k j c _ _ _ => congrFun (congrFun (congrFun (zl_CE rfl rfl rfl rfl rfl rfl rfl rfl rfl rfl rfl rfl rfl rfl rfl) k) j) c)
    have I2 : zl_INV (A + 1) D ((MS.of X.1.day X.1.coins X.1.felts X.1.made X.1.worth X.1.rags X.1.water X.1.pulp X.1.beat X.1.sort (nI (N2 + 1)) (upd X.1.mark N2 (nI a)) (upd X.1.size N2 (nI (1 + b))) (upd X.1.worn N2 0) X.1.nT X.1.skill X.1.vat X.1.pair X.1.nQ X.1.allS X.1.pmark X.1.pgrade X.1.psheets X.1.loft), X.2) G (va_up F 8 q4.1) p5 := ⟨N2 + 1, T, F0, c, l, _, ⟨C.day, C.fel, C.Fle, rfl, by omega, C.nT, C.Tle, C.pu, C.be, C.em, C.so, fun u hu => by
      show ∃ n, n ≤ 9 ∧ upd X.1.mark N2 (nI a) u = nI n
      by_cases cu : u = N2
      · subst cu; rw [pu_up]; exact ⟨a, by omega, rfl⟩
      · rw [pu_un cu]; exact C.mk u (by omega), fun u hu => by
      show ∃ n, 1 ≤ n ∧ n ≤ 3 ∧ upd X.1.size N2 (nI (1 + b)) u = nI n
      by_cases cu : u = N2
      · subst cu; rw [pu_up]; exact ⟨1 + b, by omega, by omega, rfl⟩
      · rw [pu_un cu]; exact C.sz u (by omega), fun u hu => by
      show ∃ n, n ≤ 50 ∧ upd X.1.worn N2 0 u = nI n
      by_cases cu : u = N2
      · subst cu; rw [pu_up]; exact ⟨0, by omega, rfl⟩
      · rw [pu_un cu]; exact C.wn u (by omega), C.sk, C.vt, fun t ht => (C.pr t ht).imp id (fun ⟨q, h1, h2⟩ => ⟨q, by omega, h2⟩), C.un, C.wa, C.nQ, C.al, C.sl, C.ok, C.ec, C.lo⟩, ⟨H.g0, H.g1, H.g2, H.g3, H.g4, H7⟩, hc, by omega, fun j hj => by obtain ⟨n, hn, e⟩ := hr j hj; exact ⟨n, by omega, e⟩⟩
    refine ⟨_, _, _, _, ?_, I2⟩
    rw [if_neg (show ¬ nI N2 = 5 from pu_ne (a := N2) (b := 5) c5 (by omega) (by omega)), t1, pu_bs, ea', pu_bs, t2, pu_bs, eb', pu_bs, show 1 + nI b = nI (1 + b) from pu_add 1 b, t3, pu_bs, t4, pu_bs, m1', pu_bs]
    dsimp only
    rw [e1, pu_bs, show (0 : Int32) = nI 0 from rfl, e2', pu_bs, pu_bs, show (1 : Int32) = nI 1 from rfl, e3', pu_bs, zx_pairV C.nM (by omega) ha (by omega) (by omega), pu_bs, if_pos rfl]
    rfl
theorem zx_teamV {X : XT} {T a : Nat} (hT : X.1.nT = nI T) (h3 : T < 3) (h1 : 1 ≤ a) (h2 : a ≤ 12) : zx_team X (nI a) = some (nI T, ((MS.of X.1.day X.1.coins X.1.felts X.1.made X.1.worth X.1.rags X.1.water X.1.pulp X.1.beat X.1.sort X.1.nM X.1.mark X.1.size X.1.worn (nI (T + 1)) (upd X.1.skill T (nI a)) (upd X.1.vat T (-1)) (upd X.1.pair T (-1)) X.1.nQ X.1.allS X.1.pmark X.1.pgrade X.1.psheets X.1.loft), X.2)) := by
  unfold zx_team fX5_team fX3_add
  rw [hT, show (12 : Int32) = nI 12 from rfl, pu_from1 h1 h2 (by omega), pu_bs, if_neg n10, if_pos (show nI T < 3 by rw [show (3 : Int32) = nI 3 from rfl, pu_lt (by omega) (by omega)]; exact h3), if_pos (show nI T < 3 by rw [show (3 : Int32) = nI 3 from rfl, pu_lt (by omega) (by omega)]; exact h3), pu_ck h3 (by omega), pu_ck h3 (by omega), pu_ck h3 (by omega), pu_bs, pu_tn (by omega), show nI T + 1 = nI (T + 1) from pu_add T 1, show nI (T + 1) - 1 = nI T from by rw [show (1 : Int32) = nI 1 from rfl, pu_sub (by omega), Nat.add_sub_cancel]]
theorem zl_767 {A D T : Nat} {X : XT} {G : FN} {F : Nat → Nat} {p : zs_H} (x2 : Int32) (I : zl_INV A D X G F p) (hT : zs_len p (F 9) = some (nI T)) : zl_OK (A + 1) D (fBL_act_767 X G F p x2 (nI T)) := by
  have I0 := I
  obtain ⟨N, T2, F0, c, l, R, C, H, hc, hcb, hr⟩ := I
  have hl : zs_len p (F 9) = some (nI T2) := zr_len H.r (k := 2) (by omega)
  have hTT : nI T = nI T2 := Option.some.inj (hT.symm.trans hl)
  rw [hTT]
  clear hTT hT
  have hT3 := C.Tle
  unfold fBL_act_767
  by_cases c5 : T2 = 3
  · rw [if_pos (show nI T2 = 3 by rw [c5]; rfl)]
    exact zl_stay I0
  · obtain ⟨a, ha, ea⟩ := zl_below (x := x2 >>> (1 &&& 31)) (n := 12) (by omega) (by omega)
    have ea' : fL_below (x2 >>> (1 &&& 31)) 12 = some (nI a) := ea
    obtain ⟨q1, q2, q3, q4, t1, t2, t3, t4, t5, H2⟩ := zl_row3 H.r (nI (1 + a)) (-1) (-1)
    obtain ⟨p5, m1, m2, H5⟩ := zr_grow H2 (k := 2) (r := p.1) (by omega) va_up_p (show T2 + 1 ≤ 92 by omega)
    have m1' : fX6_more q4 (F 9) p.1 = some (q4.1, p5) := m1
    have H6 := zr_cK (K2 := zr_e) (zr_cC (zr_cS H5 (s2 := zl_z N (T2 + 1) l.length) zl_zT) (C2 := zl_C (MS.of X.1.day X.1.coins X.1.felts X.1.made X.1.worth X.1.rags X.1.water X.1.pulp X.1.beat X.1.sort X.1.nM X.1.mark X.1.size X.1.worn X.1.nT (upd X.1.skill T2 (nI (1 + a))) (upd X.1.vat T2 (-1)) (upd X.1.pair T2 (-1)) X.1.nQ X.1.allS X.1.pmark X.1.pgrade X.1.psheets X.1.loft)) zc_team) (fun q e h => zr_eN h)
    have e1 := zr_ldr H6 (k := 2) (j := T2) (by omega) (show T2 < T2 + 1 by omega) (show T2 + 1 < 2147483648 by omega)
    rw [va_up_p] at e1
    have e2 := zr_ld H6 (k := 2) (j := T2) (c := 0) (by omega) (show T2 < T2 + 1 by omega) (by decide)
    have e2' := e2.trans (congrArg some (show _ = nI (1 + a) from pu_up))
    have H7 := zr_cC (C2 := zl_C (MS.of X.1.day X.1.coins X.1.felts X.1.made X.1.worth X.1.rags X.1.water X.1.pulp X.1.beat X.1.sort X.1.nM X.1.mark X.1.size X.1.worn (nI (T2 + 1)) (upd X.1.skill T2 (nI (1 + a))) (upd X.1.vat T2 (-1)) (upd X.1.pair T2 (-1)) X.1.nQ X.1.allS X.1.pmark X.1.pgrade X.1.psheets X.1.loft)) H6 (fun k j c _ _ _ => congrFun (congrFun (congrFun (zl_CE rfl rfl rfl rfl rfl rfl rfl rfl rfl rfl rfl rfl rfl rfl rfl) k) j) c)
    have I2 : zl_INV (A + 1) D ((MS.of X.1.day X.1.coins X.1.felts X.1.made X.1.worth X.1.rags X.1.water X.1.pulp X.1.beat X.1.sort X.1.nM X.1.mark X.1.size X.1.worn (nI (T2 + 1)) (upd X.1.skill T2 (nI (1 + a))) (upd X.1.vat T2 (-1)) (upd X.1.pair T2 (-1)) X.1.nQ X.1.allS X.1.pmark X.1.pgrade X.1.psheets X.1.loft), X.2) G (va_up F 9 q4.1) p5 := ⟨N, T2 + 1, F0, c, l, _, ⟨C.day, C.fel, C.Fle, C.nM, C.Nle, rfl, by omega, C.pu, C.be, C.em, C.so, C.mk, C.sz, C.wn, fun u hu => by
      show ∃ n, 1 ≤ n ∧ n ≤ 12 ∧ upd X.1.skill T2 (nI (1 + a)) u = nI n
      by_cases cu : u = T2
      · subst cu; rw [pu_up]; exact ⟨1 + a, by omega, by omega, rfl⟩
      · rw [pu_un cu]; exact C.sk u (by omega), fun u hu => by
      show upd X.1.vat T2 (-1) u = -nI 1 ∨ ∃ v, v < 4 ∧ upd X.1.vat T2 (-1) u = nI v
      by_cases cu : u = T2
      · subst cu; rw [pu_up]; exact Or.inl pu_m1e
      · rw [pu_un cu]; exact C.vt u (by omega), fun u hu => by
      show upd X.1.pair T2 (-1) u = -nI 1 ∨ ∃ v, v < N ∧ upd X.1.pair T2 (-1) u = nI v
      by_cases cu : u = T2
      · subst cu; rw [pu_up]; exact Or.inl pu_m1e
      · rw [pu_un cu]; exact C.pr u (by omega), fun t u ht hu e => by
      have e' : upd X.1.pair T2 (-1) t = upd X.1.pair T2 (-1) u := e
      show upd X.1.pair T2 (-1) t = -nI 1 ∨ t = u
      by_cases ct : t = T2
      · subst ct; rw [pu_up]; exact Or.inl pu_m1e
      · by_cases cu : u = T2
        · subst cu; rw [e', pu_up]; exact Or.inl pu_m1e
        · rw [pu_un ct, pu_un cu] at e'
          rw [pu_un ct]
          exact C.un t u (by omega) (by omega) e', C.wa, C.nQ, C.al, C.sl, C.ok, C.ec, C.lo⟩, ⟨H.g0, H.g1, H.g2, H.g3, H.g4, H7⟩, hc, by omega, fun j hj => by obtain ⟨n, hn, e⟩ := hr j hj; exact ⟨n, by omega, e⟩⟩
    refine ⟨_, _, _, _, ?_, I2⟩
    rw [if_neg (show ¬ nI T2 = 3 from pu_ne (a := T2) (b := 3) c5 (by omega) (by omega)), t1, pu_bs, ea', pu_bs, show 1 + nI a = nI (1 + a) from pu_add 1 a, t2, pu_bs, t3, pu_bs, t4, pu_bs, m1', pu_bs]
    dsimp only
    rw [e1, pu_bs, show (0 : Int32) = nI 0 from rfl, e2', pu_bs, zx_teamV C.nT (by omega) (by omega) (by omega), pu_bs, if_pos rfl]
theorem zx_wireV {X : XT} {N q w c : Nat} (hN : X.1.nM = nI N) (h5 : N ≤ 5) (hq : q < N) (hw : X.1.worn q = nI w) (hw0 : w ≠ 0) (hwb : w ≤ 50) (hc : X.1.coins = nI c) (h : 5 ≤ c) (hcb : c < 1000000) : zx_wire X (nI q) = some (nI w, ((MS.of X.1.day (nI (c - 5)) X.1.felts X.1.made X.1.worth X.1.rags X.1.water X.1.pulp X.1.beat X.1.sort X.1.nM X.1.mark X.1.size (upd X.1.worn q 0) X.1.nT X.1.skill X.1.vat X.1.pair X.1.nQ X.1.allS X.1.pmark X.1.pgrade X.1.psheets X.1.loft), X.2)) := by
  unfold zx_wire fX5_wire fX1_makeNew
  rw [hN, pb_has1 hq h5, pu_bs, if_neg n10, pb_wornOf hq h5, pu_bs, hw, if_neg (show ¬ nI w = 0 from pu_ne (a := w) (b := 0) hw0 (by omega) (by omega)), hc, show (5 : Int32) = nI 5 from rfl, if_pos (by rw [pu_le (by omega) (by omega)]; exact h), pu_bs, if_neg n10, pu_ck (show q < 5 by omega) (by omega), pu_bs, pu_tn (by omega), pu_sub h]
theorem zl_687 {A D N : Nat} {X : XT} {G : FN} {F : Nat → Nat} {p : zs_H} (x2 : Int32) (I : zl_INV A D X G F p) (hA : A ≤ 200) (hN : zs_len p (F 8) = some (nI N)) : zl_OK (A + 1) D (fBL_act_687 X G F p x2 (nI N)) := by
  have I0 := I
  obtain ⟨N2, T, F0, c, l, R, C, H, hc, hcb, hr⟩ := I
  have hl : zs_len p (F 8) = some (nI N2) := zr_len H.r (k := 1) (by omega)
  have hNN : nI N = nI N2 := Option.some.inj (hN.symm.trans hl)
  rw [hNN]
  clear hNN hN
  have hN5 := C.Nle
  unfold fBL_act_687
  by_cases c0 : N2 = 0
  · rw [if_pos (show nI N2 = 0 by rw [c0]; rfl)]
    exact zl_stay I0
  · obtain ⟨q, hq, eq⟩ := zl_below (x := x2 >>> (1 &&& 31)) (n := N2) (by omega) (by omega)
    obtain ⟨w, hw, ew⟩ := C.wn q hq
    have e1 : zs_ldr p (F 8) (nI q) = some (R 1 q) := zr_ldr H.r (k := 1) (by omega) hq (show N2 < 2147483648 by omega)
    have e2 : zs_ld p (R 1 q) 2 = some (nI w) := (zr_ld H.r (k := 1) (c := 2) (by omega) hq (by decide)).trans (congrArg some ew)
    rw [if_neg (show ¬ nI N2 = 0 from pu_ne (a := N2) (b := 0) c0 (by omega) (by omega)), eq, pu_bs, e1, pu_bs, e2, pu_bs]
    by_cases c1 : w = 0
    · rw [if_pos (show nI w = 0 by rw [c1]; rfl)]
      exact zl_stay I0
    · rw [if_neg (show ¬ nI w = 0 from pu_ne (a := w) (b := 0) c1 (by omega) (by omega)), H.g1, hc, show (5 : Int32) = nI 5 from rfl]
      by_cases c2 : 5 ≤ c
      · obtain ⟨p2, s1, -, H1⟩ := zr_st H.r (k := 1) (j := q) (c := 2) (v := 0) (by omega) hq (by decide)
        have s1' : zs_st p (R 1 q) 2 0 = some p2 := s1
        have H2 := zr_cC H1 (fun k j c _ _ hc => (zc_worn _ q 0 k j c hc).symm)
        have I2 : zl_INV (A + 1) D ((MS.of X.1.day (nI (c - 5)) X.1.felts X.1.made X.1.worth X.1.rags X.1.water X.1.pulp X.1.beat X.1.sort X.1.nM X.1.mark X.1.size (upd X.1.worn q 0) X.1.nT X.1.skill X.1.vat X.1.pair X.1.nQ X.1.allS X.1.pmark X.1.pgrade X.1.psheets X.1.loft), X.2) (upd G 1 (nI c - nI 5)) F p2 := ⟨N2, T, F0, c - 5, l, R, ⟨C.day, C.fel, C.Fle, C.nM, C.Nle, C.nT, C.Tle, C.pu, C.be, C.em, C.so, C.mk, C.sz, fun u hu => by
          show ∃ n, n ≤ 50 ∧ upd X.1.worn q 0 u = nI n
          by_cases cu : u = q
          · subst cu; rw [pu_up]; exact ⟨0, by omega, rfl⟩
          · rw [pu_un cu]; exact C.wn u hu, C.sk, C.vt, C.pr, C.un, C.wa, C.nQ, C.al, C.sl, C.ok, C.ec, C.lo⟩, ⟨(pu_un (by decide)).trans H.g0, pu_up.trans (pu_sub c2), (pu_un (by decide)).trans H.g2, (pu_un (by decide)).trans H.g3, (pu_un (by decide)).trans H.g4, H2⟩, rfl, by omega, fun j hj => by obtain ⟨n, hn, e⟩ := hr j hj; exact ⟨n, by omega, e⟩⟩
        refine ⟨_, _, _, _, ?_, I2⟩
        rw [if_pos (by rw [pu_le (by omega) (by omega)]; exact c2), pu_bs, s1', pu_bs, pu_bs, zx_wireV C.nM hN5 hq ew c1 hw hc c2 (by omega), pu_bs, if_pos rfl]
      · rw [if_neg (by rw [pu_le (by omega) (by omega)]; exact c2)]
        exact zl_stay I0
theorem zc_water (m : MS) (d : Nat) (x : Int32) {f : FN} (hf : ∀ c, c < 7 → f c = m.water c) : ∀ k2 j2 c2, k2 < 7 → j2 < zl_z 0 0 0 k2 ∨ k2 ≠ 6 → c2 < zr_w k2 → zl_C (MS.of m.day m.coins m.felts m.made m.worth m.rags (upd m.water d x) m.pulp m.beat m.sort m.nM m.mark m.size m.worn m.nT m.skill m.vat m.pair m.nQ m.allS m.pmark m.pgrade m.psheets m.loft) k2 j2 c2 = zr_r (zl_C m) 6 0 (upd f d x) k2 j2 c2 := by
  intro k2 j2 c2 hk hj hc
  by_cases h : k2 = 6
  · subst h
    have h3 : j2 < 1 := hj.resolve_right (fun h => h rfl)
    have h0 : j2 = 0 := by omega
    subst h0
    rw [zr_rp]
    show upd m.water d x c2 = upd f d x c2
    by_cases c : c2 = d
    · subst c; rw [pu_up, pu_up]
    · rw [pu_un c, pu_un c]; exact (hf c2 hc).symm
  · rw [zr_rn (fun e => h e.1)]
    rcases k2 with _ | _ | _ | _ | _ | _ | _ | k2
    · rfl
    · rfl
    · rfl
    · rfl
    · rfl
    · rfl
    · exact absurd rfl h
    · exact absurd hk (by omega)
theorem zx_waterV {X : XT} {d r : Nat} (hd : d < 7) (hr : r < 10) : zx_setWater X (nI d) (nI r) = some (X.1.water d, ((MS.of X.1.day X.1.coins X.1.felts X.1.made X.1.worth X.1.rags (upd X.1.water d (nI r)) X.1.pulp X.1.beat X.1.sort X.1.nM X.1.mark X.1.size X.1.worn X.1.nT X.1.skill X.1.vat X.1.pair X.1.nQ X.1.allS X.1.pmark X.1.pgrade X.1.psheets X.1.loft), X.2)) := by
  unfold zx_setWater fX5_setWater
  rw [show (7 : Int32) = nI 7 from rfl, pb_in hd (by omega), pu_bs, if_neg n10, if_neg (show ¬ nI r < 0 by rw [show (0 : Int32) = nI 0 from rfl, pu_lt (by omega) (by omega)]; omega), if_pos (show nI r ≤ 9 by rw [show (9 : Int32) = nI 9 from rfl, pu_le (by omega) (by omega)]; omega), pu_ck hd (by omega), pu_ck hd (by omega), pu_tn (by omega)]
theorem zl_834 {A D : Nat} {X : XT} {G : FN} {F : Nat → Nat} {p : zs_H} (x2 : Int32) (I : zl_INV A D X G F p) : zl_OK (A + 1) D (fBL_act_834 X G F p x2) := by
  obtain ⟨N, T, F0, c, l, R, C, H, hc, hcb, hr⟩ := I
  obtain ⟨d, hd, ed⟩ := zl_below (x := x2 >>> (1 &&& 31)) (n := 7) (by omega) (by omega)
  have ed' : fL_below (x2 >>> (1 &&& 31)) 7 = some (nI d) := ed
  obtain ⟨r, hr2, er⟩ := zl_below (x := x2 >>> (4 &&& 31)) (n := 10) (by omega) (by omega)
  have er' : fL_below (x2 >>> (4 &&& 31)) 10 = some (nI r) := er
  obtain ⟨w1, f, w2, w3⟩ := zr_row H.r (k := 6) (j := 0) (by omega) (show 0 < 1 by omega)
  have e1 := zr_ld H.r (k := 6) (j := 0) (c := d) (by omega) (show 0 < 1 by omega) (show d < 7 from hd)
  rw [(zr_F6 H.r).2.2.2] at w1 w2 e1
  have e1' : zs_ld p (F 5) (nI d) = some (X.1.water d) := e1
  have cl : zs_cl p (F 5) 7 = some (p.1 + 1, va_up p.2 p.1 (.inl (7, f))) := by
    unfold zs_cl
    rw [if_pos w1, w2]
    exact if_pos (show zr_w 6 ≤ 7 by decide)
  obtain ⟨p2, s1, t1, H2⟩ := zr_kst (zr_push H.r (.inl (7, f))) (q := p.1) (n := 7) (c := d) (v := nI r) va_up_p hd (by decide)
  have e2 := (zr_kld H2 (q := p.1) (n := 7) (c := d) va_up_p hd (by decide)).trans (congrArg some pu_up)
  have H3 := zr_cK (K2 := zr_e) (zr_cC (zr_wat H2 (q := p.1) va_up_p) (C2 := zl_C (MS.of X.1.day X.1.coins X.1.felts X.1.made X.1.worth X.1.rags (upd X.1.water d (nI r)) X.1.pulp X.1.beat X.1.sort X.1.nM X.1.mark X.1.size X.1.worn X.1.nT X.1.skill X.1.vat X.1.pair X.1.nQ X.1.allS X.1.pmark X.1.pgrade X.1.psheets X.1.loft)) (fun k j c hk hj hc => zc_water X.1 d (nI r) (fun c hc => w3 c hc) k j c hk (by
    by_cases c5 : k = 6
    · subst c5; exact Or.inl hj
    · exact Or.inr c5) hc)) (fun q e h => zr_eN h)
  have I2 : zl_INV (A + 1) D ((MS.of X.1.day X.1.coins X.1.felts X.1.made X.1.worth X.1.rags (upd X.1.water d (nI r)) X.1.pulp X.1.beat X.1.sort X.1.nM X.1.mark X.1.size X.1.worn X.1.nT X.1.skill X.1.vat X.1.pair X.1.nQ X.1.allS X.1.pmark X.1.pgrade X.1.psheets X.1.loft), X.2) G (va_up F 5 p.1) p2 := ⟨N, T, F0, c, l, _, ⟨C.day, C.fel, C.Fle, C.nM, C.Nle, C.nT, C.Tle, C.pu, C.be, C.em, C.so, C.mk, C.sz, C.wn, C.sk, C.vt, C.pr, C.un, fun u hu => by
    show ∃ n, n ≤ 9 ∧ upd X.1.water d (nI r) u = nI n
    by_cases cu : u = d
    · subst cu; rw [pu_up]; exact ⟨r, by omega, rfl⟩
    · rw [pu_un cu]; exact C.wa u hu, C.nQ, C.al, C.sl, C.ok, C.ec, C.lo⟩, ⟨H.g0, H.g1, H.g2, H.g3, H.g4, H3⟩, hc, by omega, fun j hj => by obtain ⟨n, hn, e⟩ := hr j hj; exact ⟨n, by omega, e⟩⟩
  refine ⟨_, _, _, _, ?_, I2⟩
  unfold fBL_act_834
  rw [ed', pu_bs, e1', pu_bs, cl, pu_bs, er', pu_bs, s1, pu_bs, e2, pu_bs, zx_waterV hd hr2, pu_bs, if_pos rfl]
theorem zc_vt (m : MS) (j : Nat) (x : Int32) : zr_c (zl_C m) 2 j 1 x = zl_C (MS.of m.day m.coins m.felts m.made m.worth m.rags m.water m.pulp m.beat m.sort m.nM m.mark m.size m.worn m.nT m.skill (upd m.vat j x) m.pair m.nQ m.allS m.pmark m.pgrade m.psheets m.loft) := by
  funext k2 j2 c2
  by_cases h : k2 = 2 ∧ j2 = j ∧ c2 = 1
  · obtain ⟨rfl, rfl, rfl⟩ := h
    rw [zc_eq]
    exact pu_up.symm
  · rw [zc_ne h]
    rcases k2 with _ | _ | _ | _ | _ | _ | k2
    · rfl
    · rfl
    · rcases c2 with _ | _ | c2
      · rfl
      · exact (pu_un (fun e => h ⟨rfl, e, rfl⟩)).symm
      · rfl
    all_goals rfl
theorem zc_prr (m : MS) (j : Nat) (x : Int32) : ∀ k2 j2 c2, c2 < zr_w k2 → zr_c (zl_C m) 2 j 2 x k2 j2 c2 = zl_C (MS.of m.day m.coins m.felts m.made m.worth m.rags m.water m.pulp m.beat m.sort m.nM m.mark m.size m.worn m.nT m.skill m.vat (upd m.pair j x) m.nQ m.allS m.pmark m.pgrade m.psheets m.loft) k2 j2 c2 := by
  intro k2 j2 c2 hc
  by_cases h : k2 = 2 ∧ j2 = j ∧ c2 = 2
  · obtain ⟨rfl, rfl, rfl⟩ := h
    rw [zc_eq]
    exact pu_up.symm
  · rw [zc_ne h]
    rcases k2 with _ | _ | _ | _ | _ | _ | k2
    · rfl
    · rfl
    · rcases c2 with _ | _ | _ | c2
      · rfl
      · rfl
      · exact (pu_un (fun e => h ⟨rfl, e, rfl⟩)).symm
      · exact absurd hc (by show ¬ (c2 + 1 + 1 + 1 < 3); omega)
    all_goals rfl
theorem zl_hold {T t : Nat} {pair : FN} {b : Int32} (h3 : T ≤ 3) (hb : ∀ u, u < T → u ≠ t → pair u ≠ b) : ∀ (d j k : Nat), j + d = T → d < k → ∃ h, fX3_holderOf_L9 (nI T) pair b k (nI j) = some h ∧ (h = -nI 1 ∨ h = nI t)
  | 0, j, k + 1, hj, _ => ⟨-nI 1, by rw [fX3_holderOf_L9, if_pos (by rw [pu_le (by omega) (by omega)]; omega), pu_m1e], Or.inl rfl⟩
  | d + 1, j, k + 1, hj, hk => by
    rw [fX3_holderOf_L9, if_neg (by rw [pu_le (by omega) (by omega)]; omega), pb_pairOf (show j < T by omega) h3, pu_bs]
    by_cases c : pair j = b
    · rw [if_pos c]
      refine ⟨_, rfl, Or.inr ?_⟩
      by_cases ct : j = t
      · rw [ct]
      · exact absurd c (hb j (by omega) ct)
    · rw [if_neg c, show (1 : Int32) = nI 1 from rfl, pu_add]
      exact zl_hold h3 hb d (j + 1) k (by omega) (by omega)
theorem zl_973 {N T Q t : Nat} {m : MS} {F : Nat → Nat} {p : zs_H} {R : Nat → Nat → Nat} {K : Nat → Option zs_E} {b : Int32} (H : zr p F (zl_z N T Q) R (zl_C m) K) (h3 : T ≤ 3) (ht : t < T) : ∀ (d j k : Nat), j + d = T → d < k → fLL_act_973 F p (nI T) (nI t) b k (nI j) = some (.inl ()) ∨ (fLL_act_973 F p (nI T) (nI t) b k (nI j) = some (.inr ()) ∧ (¬ b < 0 → ∀ u, j ≤ u → u < T → u ≠ t → m.pair u ≠ b))
  | 0, j, k + 1, hj, _ => Or.inr ⟨by rw [fLL_act_973, if_pos (by rw [pu_le (by omega) (by omega)]; omega)], fun _ u h1 h2 => absurd h2 (by omega)⟩
  | d + 1, j, k + 1, hj, hk => by
    have hj2 : j < T := by omega
    have e1 : zs_ldr p (F 9) (nI j) = some (R 2 j) := zr_ldr H (k := 2) (by omega) hj2 (show T < 2147483648 by omega)
    have e2 : zs_ld p (R 2 j) 2 = some (m.pair j) := zr_ld H (k := 2) (c := 2) (by omega) hj2 (by decide)
    have ih := zl_973 (b := b) H h3 ht d (j + 1) k (by omega) (by omega)
    rw [fLL_act_973, if_neg (by rw [pu_le (by omega) (by omega)]; omega), e1, pu_bs, e2, pu_bs, show nI j + 1 = nI (j + 1) from pu_add j 1]
    by_cases c1 : j = t
    · rw [if_pos (by rw [c1])]
      exact ih.imp id (fun ⟨a1, a2⟩ => ⟨a1, fun h u h1 h2 h4 => a2 h u (by omega) h2 h4⟩)
    · rw [if_neg (pu_ne c1 (by omega) (by omega))]
      by_cases c2 : b < 0
      · rw [if_pos c2]
        exact ih.imp id (fun ⟨a1, a2⟩ => ⟨a1, fun h => absurd c2 h⟩)
      · rw [if_neg c2]
        by_cases c3 : m.pair j = b
        · rw [if_pos c3]
          exact Or.inl rfl
        · rw [if_neg c3]
          exact ih.imp id (fun ⟨a1, a2⟩ => ⟨a1, fun h u h1 h2 h4 => by
            by_cases cu : u = j
            · rw [cu]; exact c3
            · exact a2 h u (by omega) h2 h4⟩)
theorem zx_placeV {X : XT} {N T t : Nat} {a b z : Int32} (hT : X.1.nT = nI T) (h3 : T ≤ 3) (hN : X.1.nM = nI N) (h5 : N ≤ 5) (ht : t < T) (ha : a = -nI 1 ∨ ∃ v, v < 4 ∧ a = nI v) (hb : b = -nI 1 ∨ ∃ q, q < N ∧ b = nI q) {h : Int32} (hh : fX3_holderOf (nI T) X.1.pair b = some h) (hh2 : h = -nI 1 ∨ h = nI t) (hz : fX0_sheetsOf X.1.felts X.1.pulp X.1.beat X.1.nM X.1.size X.1.nT X.1.skill (upd X.1.vat t a) (upd X.1.pair t b) X.1.allS (nI t) = some z) : zx_place X (nI t) a b = some (z, ((MS.of X.1.day X.1.coins X.1.felts X.1.made X.1.worth X.1.rags X.1.water X.1.pulp X.1.beat X.1.sort X.1.nM X.1.mark X.1.size X.1.worn X.1.nT X.1.skill (upd X.1.vat t a) (upd X.1.pair t b) X.1.nQ X.1.allS X.1.pmark X.1.pgrade X.1.psheets X.1.loft), X.2)) := by
  have L76 : fX5_place_L76 X.1.felts X.1.pulp X.1.beat X.1.nM X.1.size X.1.nT X.1.skill X.1.vat X.1.pair X.1.allS (nI t) a b = some (.inl (z, upd X.1.vat t a, upd X.1.pair t b)) := by
    rw [hT] at hz
    unfold fX5_place_L76
    rw [hT, hh, pu_bs, pb_send ht h3, pu_bs, pu_m1e]
    dsimp only
    rw [hz, pu_bs]
    rcases hh2 with e | e
    · rw [if_pos e]
    · by_cases c : h = -nI 1
      · rw [if_pos c]
      · rw [if_neg c, if_pos e]
  have L47 : fX5_place_L47 X.1.felts X.1.pulp X.1.beat X.1.nM X.1.size X.1.nT X.1.skill X.1.vat X.1.pair X.1.allS (nI t) a b = some (.inl (z, upd X.1.vat t a, upd X.1.pair t b)) := by
    unfold fX5_place_L47
    rw [L76, pu_m1e]
    by_cases c : b = -nI 1
    · rw [if_pos c]
    · rw [if_neg c]
      rcases hb with e | ⟨q, hq, e⟩
      · exact absurd e c
      · rw [e, hN, pb_has1 hq h5, pu_bs, if_neg n10]
  unfold zx_place fX5_place
  rw [L47, pu_m1e]
  have e0 : (fX3_has X.1.nT (nI t)) = some 1 := by rw [hT]; exact pb_has3 ht h3
  rw [e0, pu_bs, if_neg n10]
  by_cases c : a = -nI 1
  · rw [if_pos c]
  · rw [if_neg c]
    rcases ha with e | ⟨v, hv, e⟩
    · exact absurd e c
    · rw [show fX5_isBelow a 4 = some 1 by rw [e]; exact pb_in (b := 4) hv (by omega), pu_bs, if_neg n10]
theorem zl_906 {A D N T v : Nat} {X : XT} {G : FN} {F : Nat → Nat} {p : zs_H} (x2 : Int32) (I : zl_INV A D X G F p) (hN : zs_len p (F 8) = some (nI N)) (hT : zs_len p (F 9) = some (nI T)) (hv : v < 4) : zl_OK (A + 1) D (fBL_act_906 X G F p x2 (nI N) (nI T) (nI v)) := by
  have I0 := I
  obtain ⟨N2, T2, F0, c, l, R, C, H, hc, hcb, hr⟩ := I
  have hl : zs_len p (F 8) = some (nI N2) := zr_len H.r (k := 1) (by omega)
  have hNN : nI N = nI N2 := Option.some.inj (hN.symm.trans hl)
  have hl2 : zs_len p (F 9) = some (nI T2) := zr_len H.r (k := 2) (by omega)
  have hTT : nI T = nI T2 := Option.some.inj (hT.symm.trans hl2)
  rw [hNN, hTT]
  clear hNN hN hTT hT
  have hN5 := C.Nle
  have hT3 := C.Tle
  unfold fBL_act_906
  by_cases c0 : T2 = 0
  · rw [if_pos (show nI T2 = 0 by rw [c0]; rfl)]
    exact zl_stay I0
  · obtain ⟨t, ht, et⟩ := zl_below (x := x2 >>> (1 &&& 31)) (n := T2) (by omega) (by omega)
    obtain ⟨y, hy, ey⟩ := zl_below (x := x2 >>> (3 &&& 31)) (n := 9) (by omega) (by omega)
    have ey' : fL_below (x2 >>> (3 &&& 31)) 9 = some (nI y) := ey
    obtain ⟨a, ea, ha⟩ : ∃ a, (if nI y = 0 then (some (-1) : Option Int32) else some (nI v)) = some a ∧ (a = -nI 1 ∨ ∃ v, v < 4 ∧ a = nI v) := by
      by_cases c : nI y = 0
      · exact ⟨-1, if_pos c, Or.inl pu_m1e⟩
      · exact ⟨nI v, if_neg c, Or.inr ⟨v, hv, rfl⟩⟩
    obtain ⟨b, eb, hb⟩ : ∃ b, (if nI N2 = 0 then (some (-1) : Option Int32) else (fL_below (x2 >>> (4 &&& 31)) 9).bind fun z12 => if z12 = 0 then some (-1) else (fL_below (x2 >>> (5 &&& 31)) (nI N2)).bind fun z14 => some z14) = some b ∧ (b = -nI 1 ∨ ∃ q, q < N2 ∧ b = nI q) := by
      by_cases c : N2 = 0
      · exact ⟨-1, if_pos (by rw [c]; rfl), Or.inl pu_m1e⟩
      · obtain ⟨u, hu, eu⟩ := zl_below (x := x2 >>> (4 &&& 31)) (n := 9) (by omega) (by omega)
        have eu' : fL_below (x2 >>> (4 &&& 31)) 9 = some (nI u) := eu
        obtain ⟨q, hq, eq⟩ := zl_below (x := x2 >>> (5 &&& 31)) (n := N2) (by omega) (by omega)
        rw [if_neg (show ¬ nI N2 = 0 from pu_ne (a := N2) (b := 0) c (by omega) (by omega)), eu', pu_bs, eq, pu_bs]
        by_cases c2 : nI u = 0
        · exact ⟨-1, if_pos c2, Or.inl pu_m1e⟩
        · exact ⟨nI q, if_neg c2, Or.inr ⟨q, hq, rfl⟩⟩
    rw [if_neg (show ¬ nI T2 = 0 from pu_ne (a := T2) (b := 0) c0 (by omega) (by omega)), et, pu_bs, ey', pu_bs, ea, pu_bs, eb, pu_bs, show (0 : Int32) = nI 0 from rfl]
    rcases zl_973 (b := b) H.r hT3 ht T2 0 300 (Nat.zero_add _) (by omega) with e | ⟨e, hno⟩
    · rw [e, pu_bs]
      exact zl_stay I0
    · rw [e, pu_bs]
      show zl_OK (A + 1) D ((zs_ldr p (F 9) (nI t)).bind fun x22 => (zs_st p x22 1 a).bind fun p23 => (zs_ldr p23 (F 9) (nI t)).bind fun x24 => (zs_st p23 x24 2 b).bind fun p25 => (zx_place X (nI t) a b).bind fun z26 => (zs_ldr p25 (F 9) (nI t)).bind fun x27 => (fX6_makes G F p25 x27).bind fun z28 => if z26.1 = z28 then some (z26.2, G, F, p25) else none)
      have e1 : zs_ldr p (F 9) (nI t) = some (R 2 t) := zr_ldr H.r (k := 2) (by omega) ht (show T2 < 2147483648 by omega)
      obtain ⟨p2, s1, -, H1⟩ := zr_st H.r (k := 2) (j := t) (c := 1) (v := a) (by omega) ht (by decide)
      have s1' : zs_st p (R 2 t) 1 a = some p2 := s1
      rw [zc_vt] at H1
      have e2 : zs_ldr p2 (F 9) (nI t) = some (R 2 t) := zr_ldr H1 (k := 2) (by omega) ht (show T2 < 2147483648 by omega)
      obtain ⟨p3, s2, -, H2⟩ := zr_st H1 (k := 2) (j := t) (c := 2) (v := b) (by omega) ht (by decide)
      have s2' : zs_st p2 (R 2 t) 2 b = some p3 := s2
      have H3 := zr_cC (C2 := zl_C (MS.of X.1.day X.1.coins X.1.felts X.1.made X.1.worth X.1.rags X.1.water X.1.pulp X.1.beat X.1.sort X.1.nM X.1.mark X.1.size X.1.worn X.1.nT X.1.skill (upd X.1.vat t a) (upd X.1.pair t b) X.1.nQ X.1.allS X.1.pmark X.1.pgrade X.1.psheets X.1.loft)) (zr_cC H2 (fun k j c _ _ hc => (zc_prr _ t b k j c hc).symm)) (fun k j c _ _ _ => congrFun (congrFun (congrFun (zl_CE rfl rfl rfl rfl rfl rfl rfl rfl rfl rfl rfl rfl rfl rfl rfl) k) j) c)
      have e3 : zs_ldr p3 (F 9) (nI t) = some (R 2 t) := zr_ldr H3 (k := 2) (by omega) ht (show T2 < 2147483648 by omega)
      have hno2 : b ≠ -nI 1 → ∀ u, u < T2 → u ≠ t → X.1.pair u ≠ b := fun hb1 u hu hut => by
        rcases hb with e | ⟨q, hq, e⟩
        · exact absurd e hb1
        · exact hno (by rw [e, show (0 : Int32) = nI 0 from rfl, pu_lt (by omega) (by omega)]; omega) u (by omega) hu hut
      have C2 : CI D N2 T2 F0 l (MS.of X.1.day X.1.coins X.1.felts X.1.made X.1.worth X.1.rags X.1.water X.1.pulp X.1.beat X.1.sort X.1.nM X.1.mark X.1.size X.1.worn X.1.nT X.1.skill (upd X.1.vat t a) (upd X.1.pair t b) X.1.nQ X.1.allS X.1.pmark X.1.pgrade X.1.psheets X.1.loft) := ⟨C.day, C.fel, C.Fle, C.nM, C.Nle, C.nT, C.Tle, C.pu, C.be, C.em, C.so, C.mk, C.sz, C.wn, C.sk, fun u hu => by
        show upd X.1.vat t a u = -nI 1 ∨ ∃ v, v < 4 ∧ upd X.1.vat t a u = nI v
        by_cases cu : u = t
        · subst cu; rw [pu_up]; exact ha
        · rw [pu_un cu]; exact C.vt u hu, fun u hu => by
        show upd X.1.pair t b u = -nI 1 ∨ ∃ v, v < N2 ∧ upd X.1.pair t b u = nI v
        by_cases cu : u = t
        · subst cu; rw [pu_up]; exact hb
        · rw [pu_un cu]; exact C.pr u hu, fun u1 u2 h1 h2 e => by
        have e' : upd X.1.pair t b u1 = upd X.1.pair t b u2 := e
        show upd X.1.pair t b u1 = -nI 1 ∨ u1 = u2
        by_cases d1 : u1 = t
        · by_cases d2 : u2 = t
          · exact Or.inr (d1.trans d2.symm)
          · subst d1
            rw [pu_up, pu_un d2] at e'
            rw [pu_up]
            exact Classical.byContradiction fun hn => hno2 (fun h => hn (Or.inl h)) u2 h2 d2 e'.symm
        · by_cases d2 : u2 = t
          · subst d2
            rw [pu_up, pu_un d1] at e'
            rw [pu_un d1, e']
            exact Classical.byContradiction fun hn => hno2 (fun h => hn (Or.inl h)) u1 h1 d1 e'
          · rw [pu_un d1, pu_un d2] at e'
            rw [pu_un d1]
            exact C.un u1 u2 h1 h2 e', C.wa, C.nQ, C.al, C.sl, C.ok, C.ec, C.lo⟩
      have S2 : SR (MS.of X.1.day X.1.coins X.1.felts X.1.made X.1.worth X.1.rags X.1.water X.1.pulp X.1.beat X.1.sort X.1.nM X.1.mark X.1.size X.1.worn X.1.nT X.1.skill (upd X.1.vat t a) (upd X.1.pair t b) X.1.nQ X.1.allS X.1.pmark X.1.pgrade X.1.psheets X.1.loft) N2 T2 l.length G F p3 R zr_e := ⟨H.g0, H.g1, H.g2, H.g3, H.g4, H3⟩
      have I2 : zl_INV (A + 1) D ((MS.of X.1.day X.1.coins X.1.felts X.1.made X.1.worth X.1.rags X.1.water X.1.pulp X.1.beat X.1.sort X.1.nM X.1.mark X.1.size X.1.worn X.1.nT X.1.skill (upd X.1.vat t a) (upd X.1.pair t b) X.1.nQ X.1.allS X.1.pmark X.1.pgrade X.1.psheets X.1.loft), X.2) G F p3 := ⟨N2, T2, F0, c, l, R, C2, S2, hc, by omega, fun j hj => by obtain ⟨n, hn, e⟩ := hr j hj; exact ⟨n, by omega, e⟩⟩
      obtain ⟨z, z1, z2⟩ : ∃ z, fX0_sheetsOf X.1.felts X.1.pulp X.1.beat X.1.nM X.1.size X.1.nT X.1.skill (upd X.1.vat t a) (upd X.1.pair t b) X.1.allS (nI t) = some z ∧ fX6_makes G F p3 (R 2 t) = some z := by
        rcases C2.teamT ht with h | ⟨v, q, n, b', s, w, sk, mk, M⟩
        · exact ⟨nI 0, C2.idleV ht h, SR.idle C2 S2 ht h⟩
        · exact ⟨_, C2.sheets M.ht M.hv M.hq M.ev M.ep M.en M.hn M.eb M.hb M.es M.s1 M.s3 M.ek M.k12, SR.makes C2 S2 M.ht M.hv M.hq M.ev M.ep M.en M.hn M.eb M.hb M.es M.s1 M.s3 M.ek M.k12⟩
      obtain ⟨h, hh, hh2⟩ : ∃ h, fX3_holderOf (nI T2) X.1.pair b = some h ∧ (h = -nI 1 ∨ h = nI t) := by
        unfold fX3_holderOf
        rw [pu_m1e]
        by_cases cb : b = -nI 1
        · exact ⟨_, if_pos cb, Or.inl rfl⟩
        · rw [if_neg cb]
          exact zl_hold hT3 (hno2 cb) T2 0 300 (Nat.zero_add _) (by omega)
      refine ⟨_, _, _, _, ?_, I2⟩
      rw [e1, pu_bs, s1', pu_bs, e2, pu_bs, s2', pu_bs, zx_placeV C.nT hT3 C.nM hN5 ht ha hb hh hh2 z1, pu_bs, e3, pu_bs, z2, pu_bs, if_pos rfl]
theorem zl_act {A D : Nat} {X : XT} {G : FN} {F : Nat → Nat} {p : zs_H} (x : Int32) (I : zl_INV A D X G F p) (hA : A ≤ 200) (hD : D ≤ 200) : zl_OK (A + 1) D (fL_act X G F p x) := by
  have I0 := I
  obtain ⟨N, T, F0, c, l, R, C, H, hc, hcb, hr⟩ := I
  have hl : zs_len p (F 8) = some (nI N) := zr_len H.r (k := 1) (by omega)
  have hl2 : zs_len p (F 9) = some (nI T) := zr_len H.r (k := 2) (by omega)
  obtain ⟨v, hv, ev⟩ := zl_below (x := x) (n := 4) (by omega) (by omega)
  have ev' : fL_below x 4 = some (nI v) := ev
  obtain ⟨g, hg, eg⟩ := zl_below (x := x >>> (2 &&& 31)) (n := 3) (by omega) (by omega)
  have eg' : fL_below (x >>> (2 &&& 31)) 3 = some (nI g) := eg
  obtain ⟨s, hs, es⟩ := zl_below (x := x >>> (9 &&& 31)) (n := 18) (by omega) (by omega)
  have es' : fL_below (x >>> (9 &&& 31)) 18 = some (nI s) := es
  unfold fL_act
  rw [hl, pu_bs, hl2, pu_bs, ev', pu_bs, eg', pu_bs, es', pu_bs]
  by_cases h0 : ((nI s).toInt < 0 ∨ 13 < (nI s).toInt)
  · rw [if_pos h0]
    exact zl_906 x I0 hl hl2 hv
  rw [if_neg h0]
  by_cases c0 : (nI s).toInt = 0
  · rw [if_pos c0]
    exact zl_108 x I0 hA
  rw [if_neg c0]
  by_cases c1 : (nI s).toInt = 1
  · rw [if_pos c1]
    exact zl_108 x I0 hA
  rw [if_neg c1]
  by_cases c2 : (nI s).toInt = 2
  · rw [if_pos c2]
    exact zl_260 x I0 hA hD hg
  rw [if_neg c2]
  by_cases c3 : (nI s).toInt = 3
  · rw [if_pos c3]
    exact zl_260 x I0 hA hD hg
  rw [if_neg c3]
  by_cases c4 : (nI s).toInt = 4
  · rw [if_pos c4]
    exact zl_435 x I0 hA hv hg
  rw [if_neg c4]
  by_cases c5 : (nI s).toInt = 5
  · rw [if_pos c5]
    exact zl_435 x I0 hA hv hg
  rw [if_neg c5]
  by_cases c6 : (nI s).toInt = 6
  · rw [if_pos c6]
    exact zl_435 x I0 hA hv hg
  rw [if_neg c6]
  by_cases c7 : (nI s).toInt = 7
  · rw [if_pos c7]
    exact zl_435 x I0 hA hv hg
  rw [if_neg c7]
  by_cases c8 : (nI s).toInt = 8
  · rw [if_pos c8]
    exact zl_535 x I0 hv
  rw [if_neg c8]
  by_cases c9 : (nI s).toInt = 9
  · rw [if_pos c9]
    exact zl_609 x I0 hl
  rw [if_neg c9]
  by_cases c10 : (nI s).toInt = 10
  · rw [if_pos c10]
    exact zl_609 x I0 hl
  rw [if_neg c10]
  by_cases c11 : (nI s).toInt = 11
  · rw [if_pos c11]
    exact zl_687 x I0 hA hl
  rw [if_neg c11]
  by_cases c12 : (nI s).toInt = 12
  · rw [if_pos c12]
    exact zl_767 x I0 hl2
  rw [if_neg c12]
  exact zl_834 x I0
