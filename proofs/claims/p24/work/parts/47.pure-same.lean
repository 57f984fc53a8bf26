/-! what is told of the counts -/
theorem zl_sumL {m : MS} {N T Q : Nat} {F : Nat → Nat} {p : zs_H} {R : Nat → Nat → Nat} {K : Nat → Option zs_E} (H : zr p F (zl_z N T Q) R (zl_C m) K) : ∀ (d j k k2 : Nat) (x : Int32), j + d = 10 → 3 * d < k → d < k2 → ∃ v, fX0_allHanging_L4 m.loft k x (nI (3 * j)) = some v ∧ fLX6_told_14 p (F 11) (nI 10) k2 x (nI j) = some v
  | 0, j, k + 1, k2 + 1, x, hj, _, _ => by
    refine ⟨x, ?_, ?_⟩
    · rw [fX0_allHanging_L4, if_pos (show (30 : Int32) ≤ nI (3 * j) by rw [show (30 : Int32) = nI 30 from rfl, pu_le (by omega) (by omega)]; omega)]
    · rw [fLX6_told_14, if_pos (by rw [pu_le (by omega) (by omega)]; omega)]
  | d + 1, j, k + 4, k2 + 1, x, hj, hk, hk2 => by
    have e1 : zs_ldr p (F 11) (nI j) = some (R 4 j) := zr_ldr H (k := 4) (by omega) (show j < 10 by omega) (show (10 : Nat) < 2147483648 by decide)
    have e2 : zs_ld p (R 4 j) 0 = some (m.loft (3 * j + 0)) := zr_ld H (k := 4) (c := 0) (by omega) (show j < 10 by omega) (by decide)
    have e3 : zs_ld p (R 4 j) 1 = some (m.loft (3 * j + 1)) := zr_ld H (k := 4) (c := 1) (by omega) (show j < 10 by omega) (by decide)
    have e4 : zs_ld p (R 4 j) 2 = some (m.loft (3 * j + 2)) := zr_ld H (k := 4) (c := 2) (by omega) (show j < 10 by omega) (by decide)
    have step : ∀ k x i, i < 30 → fX0_allHanging_L4 m.loft (k + 1) x (nI i) = fX0_allHanging_L4 m.loft k (x + m.loft i) (nI (i + 1)) := fun k x i hi => by
      rw [fX0_allHanging_L4, if_neg (show ¬ (30 : Int32) ≤ nI i by rw [show (30 : Int32) = nI 30 from rfl, pu_le (by omega) (by omega)]; omega), pu_ck hi (by omega), pu_tn (by omega), show (1 : Int32) = nI 1 from rfl, pu_add]
    obtain ⟨v, a1, a2⟩ := zl_sumL H d (j + 1) (k + 1) k2 (x + ((m.loft (3 * j + 0) + m.loft (3 * j + 1)) + m.loft (3 * j + 2))) (by omega) (by omega) (by omega)
    refine ⟨v, ?_, ?_⟩
    · rw [step _ _ _ (by omega), step _ _ _ (by omega), step _ _ _ (by omega), ← a1, Nat.add_zero, Int32.add_assoc, Int32.add_assoc, Int32.add_assoc, show 3 * (j + 1) = 3 * j + 1 + 1 + 1 by omega]
      rfl
    · rw [fLX6_told_14, if_neg (by rw [pu_le (by omega) (by omega)]; omega), e1, pu_bs, e2, pu_bs, e3, pu_bs, e4, pu_bs, show (1 : Int32) = nI 1 from rfl, pu_add]
      exact a2
theorem zl_sumP {m : MS} {N T Q : Nat} {F : Nat → Nat} {p : zs_H} {R : Nat → Nat → Nat} {K : Nat → Option zs_E} (H : zr p F (zl_z N T Q) R (zl_C m) K) : ∀ (d j k k2 : Nat) (x : Int32), j + d = 4 → d < k → d < k2 → ∃ v, fX4_allPulp_L4 m.pulp k x (nI j) = some v ∧ fLX6_told_66 p (F 7) (nI 4) k2 x (nI j) = some v
  | 0, j, k + 1, k2 + 1, x, hj, _, _ => by
    refine ⟨x, ?_, ?_⟩
    · rw [fX4_allPulp_L4, if_pos (show (4 : Int32) ≤ nI j by rw [show (4 : Int32) = nI 4 from rfl, pu_le (by omega) (by omega)]; omega)]
    · rw [fLX6_told_66, if_pos (by rw [pu_le (by omega) (by omega)]; omega)]
  | d + 1, j, k + 1, k2 + 1, x, hj, hk, hk2 => by
    have e1 : zs_ldr p (F 7) (nI j) = some (R 0 j) := zr_ldr H (k := 0) (by omega) (show j < 4 by omega) (show (4 : Nat) < 2147483648 by decide)
    have e2 : zs_ld p (R 0 j) 0 = some (m.pulp j) := zr_ld H (k := 0) (c := 0) (by omega) (show j < 4 by omega) (by decide)
    obtain ⟨v, a1, a2⟩ := zl_sumP H d (j + 1) k k2 (x + m.pulp j) (by omega) (by omega) (by omega)
    refine ⟨v, ?_, ?_⟩
    · rw [fX4_allPulp_L4, if_neg (show ¬ (4 : Int32) ≤ nI j by rw [show (4 : Int32) = nI 4 from rfl, pu_le (by omega) (by omega)]; omega), pu_ck (by omega) (by omega), pu_tn (by omega), show (1 : Int32) = nI 1 from rfl, pu_add]
      exact a1
    · rw [fLX6_told_66, if_neg (by rw [pu_le (by omega) (by omega)]; omega), e1, pu_bs, e2, pu_bs, show (1 : Int32) = nI 1 from rfl, pu_add]
      exact a2
def zl_cv (m : MS) (s u : Int32) : FN := fun c => if c = 0 then m.day else if c = 1 then m.coins else if c = 2 then m.felts else if c = 3 then m.felts - m.allS else if c = 4 then m.made else if c = 5 then m.worth else if c = 6 then m.nQ else if c = 7 then s else if c = 8 then u else m.rags (c - 9)
theorem pb_pounds {f : FN} {j : Nat} (h : j < 3) : fX0_poundsOf f (nI j) = some (f j) := by
  unfold fX0_poundsOf
  rw [show (3 : Int32) = nI 3 from rfl, pb_in h (by omega), pu_bs, if_neg (show ¬ (1 : Int32) = 0 by decide), pu_ck h (by omega), pu_tn (by omega)]
theorem zl_tellV {m : MS} {s u : Int32} (h1 : fX0_allHanging m.loft = some s) (h2 : fX4_allPulp m.pulp = some u) {c : Nat} (hc : c < 12) : fX0_tell m.day m.coins m.felts m.made m.worth m.rags m.pulp m.nQ m.allS m.loft (nI c) = some (zl_cv m s u c) := by
  unfold fX0_tell
  have ht := pu_ti (a := c) (by omega)
  by_cases c9 : 9 ≤ c
  · rw [if_pos (by rw [ht]; omega), show (9 : Int32) = nI 9 from rfl, pu_sub c9, pb_pounds (by omega), pu_bs]
    unfold zl_cv
    rw [if_neg (by omega), if_neg (by omega), if_neg (by omega), if_neg (by omega), if_neg (by omega), if_neg (by omega), if_neg (by omega), if_neg (by omega), if_neg (by omega)]
  · rw [if_neg (by rw [ht]; omega), h1, h2]
    rcases (show c = 0 ∨ c = 1 ∨ c = 2 ∨ c = 3 ∨ c = 4 ∨ c = 5 ∨ c = 6 ∨ c = 7 ∨ c = 8 by omega) with rfl | rfl | rfl | rfl | rfl | rfl | rfl | rfl | rfl <;> rfl
theorem zx_countV {X : XT} {s u : Int32} (h1 : fX0_allHanging X.1.loft = some s) (h2 : fX4_allPulp X.1.pulp = some u) {c : Nat} (hc : c < 12) : zx_count X (nI c) = some (zl_cv X.1 s u c) := by
  unfold zx_count fX5_count
  rw [show (12 : Int32) = nI 12 from rfl, pb_in hc (by omega), pu_bs, if_neg (show ¬ (1 : Int32) = 0 by decide), zl_tellV h1 h2 hc]
  rfl
theorem zl_told {D N T F0 : Nat} {l : List pz_PT} {m : MS} {G : FN} {F : Nat → Nat} {p : zs_H} {R : Nat → Nat → Nat} {K : Nat → Option zs_E} (C : CI D N T F0 l m) (H : SR m N T l.length G F p R K) : ∃ s u, fX0_allHanging m.loft = some s ∧ fX4_allPulp m.pulp = some u ∧ ∀ c, c < 12 → ∃ p2, fX6_told G F p (nI c) = some (zl_cv m s u c, p2) ∧ SR m N T l.length G F p2 R K := by
  obtain ⟨s, s1, s2⟩ := zl_sumL H.r 10 0 300 300 0 rfl (by omega) (by omega)
  obtain ⟨u, u1, u2⟩ := zl_sumP H.r 4 0 300 300 0 rfl (by omega) (by omega)
  refine ⟨s, u, s1, u1, fun c hc => ?_⟩
  have s2' : fLX6_told_14 p (F 11) (nI 10) 300 0 0 = some s := s2
  have u2' : fLX6_told_66 p (F 7) (nI 4) 300 0 0 = some u := u2
  have l11 : zs_len p (F 11) = some (nI 10) := zr_len H.r (k := 4) (by omega)
  have l7 : zs_len p (F 7) = some (nI 4) := zr_len H.r (k := 0) (by omega)
  have h1 := C.Fle
  have h2 := C.len
  obtain ⟨p0, n1, n2, H0⟩ := zr_nwi H.r (n := 12) (B := 12) (Nat.le_refl _) (by decide)
  have n1' : zs_nwi p 12 12 = some p0 := n1
  obtain ⟨q1, t0, _, H1⟩ := zr_kst H0 (q := p.1) (n := 12) (c := 0) (v := m.day) va_up_p (by omega) (by decide)
  replace t0 : zs_st p0 p.1 0 (m.day) = some q1 := t0
  obtain ⟨q2, t1, _, H2⟩ := zr_kst H1 (q := p.1) (n := 12) (c := 1) (v := m.coins) va_up_p (by omega) (by decide)
  replace t1 : zs_st q1 p.1 1 (m.coins) = some q2 := t1
  obtain ⟨q3, t2, _, H3⟩ := zr_kst H2 (q := p.1) (n := 12) (c := 2) (v := m.felts) va_up_p (by omega) (by decide)
  replace t2 : zs_st q2 p.1 2 (m.felts) = some q3 := t2
  obtain ⟨q4, t3, _, H4⟩ := zr_kst H3 (q := p.1) (n := 12) (c := 3) (v := m.felts - m.allS) va_up_p (by omega) (by decide)
  replace t3 : zs_st q3 p.1 3 (m.felts - m.allS) = some q4 := t3
  obtain ⟨q5, t4, _, H5⟩ := zr_kst H4 (q := p.1) (n := 12) (c := 4) (v := m.made) va_up_p (by omega) (by decide)
  replace t4 : zs_st q4 p.1 4 (m.made) = some q5 := t4
  obtain ⟨q6, t5, _, H6⟩ := zr_kst H5 (q := p.1) (n := 12) (c := 5) (v := m.worth) va_up_p (by omega) (by decide)
  replace t5 : zs_st q5 p.1 5 (m.worth) = some q6 := t5
  obtain ⟨q7, t6, _, H7⟩ := zr_kst H6 (q := p.1) (n := 12) (c := 6) (v := m.nQ) va_up_p (by omega) (by decide)
  replace t6 : zs_st q6 p.1 6 (m.nQ) = some q7 := t6
  obtain ⟨q8, t7, _, H8⟩ := zr_kst H7 (q := p.1) (n := 12) (c := 7) (v := s) va_up_p (by omega) (by decide)
  replace t7 : zs_st q7 p.1 7 (s) = some q8 := t7
  obtain ⟨q9, t8, _, H9⟩ := zr_kst H8 (q := p.1) (n := 12) (c := 8) (v := u) va_up_p (by omega) (by decide)
  replace t8 : zs_st q8 p.1 8 (u) = some q9 := t8
  obtain ⟨q10, t9, _, H10⟩ := zr_kst H9 (q := p.1) (n := 12) (c := 9) (v := m.rags 0) va_up_p (by omega) (by decide)
  replace t9 : zs_st q9 p.1 9 (m.rags 0) = some q10 := t9
  obtain ⟨q11, t10, _, H11⟩ := zr_kst H10 (q := p.1) (n := 12) (c := 10) (v := m.rags 1) va_up_p (by omega) (by decide)
  replace t10 : zs_st q10 p.1 10 (m.rags 1) = some q11 := t10
  obtain ⟨q12, t11, _, H12⟩ := zr_kst H11 (q := p.1) (n := 12) (c := 11) (v := m.rags 2) va_up_p (by omega) (by decide)
  replace t11 : zs_st q11 p.1 11 (m.rags 2) = some q12 := t11
  have l10 : zs_len q6 (F 10) = some (nI l.length) := zr_len H6 (k := 3) (by omega)
  have fr : fX6_free G F q3 = some (m.felts - m.allS) := by
    have S3 : SR m N T l.length G F q3 R _ := ⟨H.g0, H.g1, H.g2, H.g3, H.g4, H3⟩
    rw [S3.free C, C.fel, C.al, pu_sub C.sl]
  have r9 : zs_ld q9 (F 6) 0 = some (m.rags 0) := by
    have := zr_ld H9 (k := 5) (j := 0) (c := 0) (by omega) (show 0 < 1 by omega) (by decide)
    rw [(zr_F6 H9).2.2.1] at this
    exact this
  have r10 : zs_ld q10 (F 6) 1 = some (m.rags 1) := by
    have := zr_ld H10 (k := 5) (j := 0) (c := 1) (by omega) (show 0 < 1 by omega) (by decide)
    rw [(zr_F6 H10).2.2.1] at this
    exact this
  have r11 : zs_ld q11 (F 6) 2 = some (m.rags 2) := by
    have := zr_ld H11 (k := 5) (j := 0) (c := 2) (by omega) (show 0 < 1 by omega) (by decide)
    rw [(zr_F6 H11).2.2.1] at this
    exact this
  have fin := zr_kld H12 (q := p.1) (n := 12) (c := c) va_up_p hc (by decide)
  refine ⟨q12, ?_, ⟨H.g0, H.g1, H.g2, H.g3, H.g4, zr_cK H12 (fun r e hr => ?_)⟩⟩
  · unfold fX6_told
    rw [l11, pu_bs, s2', pu_bs, l7, pu_bs, u2', pu_bs, n1', pu_bs, H.g0, H.g1, H.g2, H.g3, H.g4, t0, pu_bs, t1, pu_bs, t2, pu_bs, fr, pu_bs, t3, pu_bs, t4, pu_bs, t5, pu_bs, l10, pu_bs, ← C.nQ, t6, pu_bs, t7, pu_bs, t8, pu_bs, r9, pu_bs, t9, pu_bs, r10, pu_bs, t10, pu_bs, r11, pu_bs, t11, pu_bs, fin, pu_bs]
    congr 2
    rcases (show c = 0 ∨ c = 1 ∨ c = 2 ∨ c = 3 ∨ c = 4 ∨ c = 5 ∨ c = 6 ∨ c = 7 ∨ c = 8 ∨ c = 9 ∨ c = 10 ∨ c = 11 by omega) with rfl | rfl | rfl | rfl | rfl | rfl | rfl | rfl | rfl | rfl | rfl | rfl <;> rfl
  · have h1 := (zr_oth H.r hr).1
    rw [va_up_n (by omega), va_up_n (by omega), va_up_n (by omega), va_up_n (by omega), va_up_n (by omega), va_up_n (by omega), va_up_n (by omega), va_up_n (by omega), va_up_n (by omega), va_up_n (by omega), va_up_n (by omega), va_up_n (by omega), va_up_n (by omega)]
    exact hr
/-! days that the class tells ahead -/
def zl_D (m : MS) : Option (Int32 × Int32 × Int32 × FN × FN × FN × FN × Int32 × Int32 × FN × FN × FN × FN) := fX0_liveDay m.day m.felts m.made m.worth m.water m.pulp m.beat m.sort m.nM m.mark m.size m.worn m.nT m.skill m.vat m.pair m.nQ m.allS m.pmark m.pgrade m.psheets m.loft
theorem zl_X {m m2 : MS} (S : zl_S m m2) : MS.of m2.day m.coins m.felts m2.made m2.worth m.rags m.water m2.pulp m2.beat m2.sort m.nM m.mark m.size m2.worn m.nT m.skill m.vat m.pair m2.nQ m2.allS m2.pmark m2.pgrade m2.psheets m2.loft = m2 := by
  have e : MS.of m2.day m.coins m.felts m2.made m2.worth m.rags m.water m2.pulp m2.beat m2.sort m.nM m.mark m.size m2.worn m.nT m.skill m.vat m.pair m2.nQ m2.allS m2.pmark m2.pgrade m2.psheets m2.loft = MS.of m2.day m2.coins m2.felts m2.made m2.worth m2.rags m2.water m2.pulp m2.beat m2.sort m2.nM m2.mark m2.size m2.worn m2.nT m2.skill m2.vat m2.pair m2.nQ m2.allS m2.pmark m2.pgrade m2.psheets m2.loft := by rw [S.coins, S.felts, S.rags, S.water, S.nM, S.mark, S.size, S.nT, S.skill, S.vat, S.pair]
  exact e.trans rfl
theorem zx_days1 {m m2 : MS} (h : zl_D m = some (m2.day, m2.made, m2.worth, m2.pulp, m2.beat, m2.sort, m2.worn, m2.nQ, m2.allS, m2.pmark, m2.pgrade, m2.psheets, m2.loft)) : fX0_liveDays m.day m.felts m.made m.worth m.water m.pulp m.beat m.sort m.nM m.mark m.size m.worn m.nT m.skill m.vat m.pair m.nQ m.allS m.pmark m.pgrade m.psheets m.loft 1 = some (m2.day, m2.made, m2.worth, m2.pulp, m2.beat, m2.sort, m2.worn, m2.nQ, m2.allS, m2.pmark, m2.pgrade, m2.psheets, m2.loft) := by
  have h' : fX0_liveDay m.day m.felts m.made m.worth m.water m.pulp m.beat m.sort m.nM m.mark m.size m.worn m.nT m.skill m.vat m.pair m.nQ m.allS m.pmark m.pgrade m.psheets m.loft = some (m2.day, m2.made, m2.worth, m2.pulp, m2.beat, m2.sort, m2.worn, m2.nQ, m2.allS, m2.pmark, m2.pgrade, m2.psheets, m2.loft) := h
  unfold fX0_liveDays
  rw [fX0_liveDays_L2, if_neg (by decide), h', pu_bs, fX0_liveDays_L2, if_pos (by decide)]
theorem zx_passV {X : XT} {m2 : MS} {a : Int32} (h : zl_D X.1 = some (m2.day, m2.made, m2.worth, m2.pulp, m2.beat, m2.sort, m2.worn, m2.nQ, m2.allS, m2.pmark, m2.pgrade, m2.psheets, m2.loft)) (S : zl_S X.1 m2) (hm : m2.made = X.1.made + a) : zx_pass X 1 = some (a, (m2, X.2)) := by
  unfold zx_pass fX5_pass
  rw [show fX5_isFrom1To (1 : Int32) 40 = some 1 by rw [pu_from, if_pos (by decide)], pu_bs, if_neg (show ¬ (1 : Int32) = 0 by decide), zx_days1 h, pu_bs]
  refine congrArg some (Prod.ext ?_ (Prod.ext (zl_X S) rfl))
  show m2.made - X.1.made = a
  rw [hm, Int32.add_comm, Int32.add_sub_cancel]
theorem zx_foreseeV {X : XT} {m2 : MS} {s u : Int32} (h : zl_D X.1 = some (m2.day, m2.made, m2.worth, m2.pulp, m2.beat, m2.sort, m2.worn, m2.nQ, m2.allS, m2.pmark, m2.pgrade, m2.psheets, m2.loft)) (S : zl_S X.1 m2) (h1 : fX0_allHanging m2.loft = some s) (h2 : fX4_allPulp m2.pulp = some u) {c : Nat} (hc : c < 12) : ∃ Y, zx_foresee X 1 (nI c) = some (zl_cv m2 s u c, (X.1, Y)) := by
  have ht := zl_tellV h1 h2 hc
  rw [S.coins, S.felts, S.rags] at ht
  have hd := zx_days1 h
  unfold zx_foresee fX5_foresee fX0_becomeLike fX4_becomeLike fX1_becomeLike fX3_becomeLike fX2_becomeLike
  rw [show fX5_isFrom1To (1 : Int32) 40 = some 1 by rw [pu_from, if_pos (by decide)], pu_bs, if_neg (show ¬ (1 : Int32) = 0 by decide), show (12 : Int32) = nI 12 from rfl, pb_in hc (by omega), pu_bs, if_neg (show ¬ (1 : Int32) = 0 by decide), pu_bs, pu_bs, pu_bs, pu_bs, pu_bs]
  dsimp only
  rw [hd, pu_bs]
  dsimp only
  rw [ht, pu_bs]
  exact ⟨_, rfl⟩
def zl_R (v g : Int32) (k : Nat) (m : MS) (x : Int32) := fX5_ripe_L50 v g k m.day m.coins m.felts m.made m.worth m.rags m.water m.pulp m.beat m.sort m.nM m.mark m.size m.worn m.nT m.skill m.vat m.pair m.nQ m.allS m.pmark m.pgrade m.psheets m.loft x
theorem zl_R1 {v k x : Nat} {g : Int32} {m m2 : MS} (hv : v < 4) (hx : x ≤ 60) (hb : m.beat v < g) (h : zl_D m = some (m2.day, m2.made, m2.worth, m2.pulp, m2.beat, m2.sort, m2.worn, m2.nQ, m2.allS, m2.pmark, m2.pgrade, m2.psheets, m2.loft)) (S : zl_S m m2) : zl_R (nI v) g (k + 1) m (nI x) = zl_R (nI v) g k m2 (nI (x + 1)) := by
  have h' : fX0_liveDay m.day m.felts m.made m.worth m.water m.pulp m.beat m.sort m.nM m.mark m.size m.worn m.nT m.skill m.vat m.pair m.nQ m.allS m.pmark m.pgrade m.psheets m.loft = some (m2.day, m2.made, m2.worth, m2.pulp, m2.beat, m2.sort, m2.worn, m2.nQ, m2.allS, m2.pmark, m2.pgrade, m2.psheets, m2.loft) := h
  unfold zl_R
  rw [fX5_ripe_L50, show (60 : Int32) = nI 60 from rfl, if_neg (show ¬ nI 60 < nI x by rw [pu_lt (by omega) (by omega)]; omega), pb_beatOf hv, pu_bs, if_pos hb, h', pu_bs, show (1 : Int32) = nI 1 from rfl, pu_add, S.coins, S.felts, S.rags, S.water, S.nM, S.mark, S.size, S.nT, S.skill, S.vat, S.pair]
theorem zl_R0 {v k x : Nat} {g : Int32} {m : MS} (hv : v < 4) (hx : x ≤ 60) (hb : ¬ m.beat v < g) : ∃ Y, zl_R (nI v) g (k + 1) m (nI x) = some (.inl (nI x, Y)) := by
  unfold zl_R
  rw [fX5_ripe_L50, show (60 : Int32) = nI 60 from rfl, if_neg (show ¬ nI 60 < nI x by rw [pu_lt (by omega) (by omega)]; omega), pb_beatOf hv, pu_bs, if_neg hb]
  exact ⟨_, rfl⟩
theorem zl_ripeL {v : Nat} {g : Int32} (hv : v < 4) : ∀ (d x k k2 D N T F0 : Nat) (l : List pz_PT) (m : MS), CI D N T F0 l m → D + d < 1000000 → 1 ≤ x → x + d = 61 → d < k → d < k2 → ∃ z Y, zl_R (nI v) g k m (nI x) = some (.inl (z, Y)) ∧ (z = -nI 1 ∨ ∃ r, x ≤ r ∧ r ≤ 60 ∧ z = nI r ∧ (∃ Y2, zl_R (nI v) g k2 m (nI (x - 1)) = some (.inl (nI (r - 1), Y2))) ∧ (r = x → ¬ m.beat v < g))
  | 0, x, k + 1, k2 + 1, D, N, T, F0, l, m, C, hD, h1, hx, hk, hk2 => by
    have e : ∃ Y, zl_R (nI v) g (k + 1) m (nI x) = some (.inl (-1, Y)) := by
      unfold zl_R
      rw [fX5_ripe_L50, show (60 : Int32) = nI 60 from rfl, if_pos (by rw [pu_lt (by omega) (by omega)]; omega)]
      exact ⟨_, rfl⟩
    obtain ⟨Y, e⟩ := e
    exact ⟨_, Y, e, Or.inl pu_m1e⟩
  | d + 1, x, k + 1, k2 + 1, D, N, T, F0, l, m, C, hD, h1, hx, hk, hk2 => by
    by_cases hb : m.beat v < g
    · obtain ⟨q, hq, hw⟩ := C.wa (D % 7) (Nat.mod_lt _ (by omega))
      obtain ⟨l2, m2, a, S1, z1, z2, z3, -⟩ := zl_day C (by omega) hq hw
      obtain ⟨z, Y, y1, y2⟩ := zl_ripeL (g := g) hv d (x + 1) k k2 (D + 1) N T F0 l2 m2 z2 (by omega) (by omega) (by omega) (by omega) (by omega)
      refine ⟨z, Y, (zl_R1 hv (by omega) hb z1 z3).trans y1, y2.imp id (fun ⟨r, r1, r2, r3, ⟨Y2, r4⟩, r5⟩ => ⟨r, by omega, r2, r3, ⟨Y2, ?_⟩, fun e => absurd e (by omega)⟩)⟩
      rw [zl_R1 hv (by omega) hb z1 z3, show x - 1 + 1 = x + 1 - 1 by omega]
      exact r4
    · obtain ⟨Y, y1⟩ := zl_R0 (k := k) (x := x) hv (by omega) hb
      obtain ⟨Y2, y2⟩ := zl_R0 (k := k2) (x := x - 1) hv (by omega) hb
      exact ⟨nI x, Y, y1, Or.inr ⟨x, Nat.le_refl _, by omega, rfl, ⟨Y2, y2⟩, fun _ => hb⟩⟩
theorem zx_ripeR {X : XT} {v g : Nat} {z : Int32} {Y} (hv : v < 4) (hg : 1 ≤ g) (hg2 : g ≤ 99) (h : zl_R (nI v) (nI g) 300 X.1 (nI 0) = some (.inl (z, Y))) : ∃ Y2, zx_ripe X (nI v) (nI g) = some (z, (X.1, Y2)) := by
  have h' : zl_R (nI v) (nI g) 300 X.1 0 = some (.inl (z, Y)) := h
  unfold zl_R at h'
  unfold zx_ripe fX5_ripe fX0_becomeLike fX4_becomeLike fX1_becomeLike fX3_becomeLike fX2_becomeLike
  rw [show (4 : Int32) = nI 4 from rfl, pb_in hv (by omega), pu_bs, if_neg (show ¬ (1 : Int32) = 0 by decide), show fX5_isFrom1To (nI g) 99 = some 1 by rw [pu_from, if_pos (by rw [pu_ti (by omega)]; exact ⟨by omega, by show (g : Int) ≤ 99; omega⟩)], pu_bs, if_neg (show ¬ (1 : Int32) = 0 by decide), pu_bs, pu_bs, pu_bs, pu_bs, pu_bs]
  dsimp only
  rw [h']
  exact ⟨_, rfl⟩
theorem zl_ripe {D N T F0 v g : Nat} {l : List pz_PT} {X : XT} {m2 : MS} {l2 : List pz_PT} (hv : v < 4) (hg : 1 ≤ g) (hg2 : g ≤ 99) (C : CI D N T F0 l X.1) (h : zl_D X.1 = some (m2.day, m2.made, m2.worth, m2.pulp, m2.beat, m2.sort, m2.worn, m2.nQ, m2.allS, m2.pmark, m2.pgrade, m2.psheets, m2.loft)) (S : zl_S X.1 m2) (C2 : CI (D + 1) N T F0 l2 m2) (hD : D < 100000) : ∃ z Y, zx_ripe X (nI v) (nI g) = some (z, (X.1, Y)) ∧ (z = -nI 1 ∨ (z = nI 0 ∧ ¬ X.1.beat v < nI g) ∨ ∃ r, 1 ≤ r ∧ r ≤ 60 ∧ z = nI r ∧ (∀ Z, ∃ Y2, zx_ripe (m2, Z) (nI v) (nI g) = some (nI (r - 1), (m2, Y2))) ∧ (r = 1 → ¬ m2.beat v < nI g)) := by
  by_cases hb : X.1.beat v < nI g
  · obtain ⟨z, Y, y1, y2⟩ := zl_ripeL (g := nI g) hv 60 1 299 300 (D + 1) N T F0 l2 m2 C2 (by omega) (by omega) (by omega) (by omega) (by omega)
    obtain ⟨Y2, e⟩ := zx_ripeR hv hg hg2 ((zl_R1 (k := 299) (x := 0) hv (by omega) hb h S).trans y1)
    refine ⟨z, Y2, e, y2.imp id (fun ⟨r, r1, r2, r3, ⟨Y3, r4⟩, r5⟩ => Or.inr ⟨r, r1, r2, r3, fun Z => ?_, r5⟩)⟩
    exact zx_ripeR (X := (m2, Z)) hv hg hg2 r4
  · obtain ⟨Y, y1⟩ := zl_R0 (k := 299) (x := 0) hv (by omega) hb
    obtain ⟨Y2, e⟩ := zx_ripeR hv hg hg2 y1
    exact ⟨_, Y2, e, Or.inr (Or.inl ⟨rfl, hb⟩)⟩
