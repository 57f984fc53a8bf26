theorem zl_round {sa : SAT} (h : sa.2.1 ≤ 260) {A D j : Nat} {X : XT} {G : FN} {F : Nat → Nat} {p : zs_H} (I : zl_INV A D X G F p) (hA : A + 2 ≤ 200) (hD : D ≤ 100) (hj : j < 34) (k : Nat) : ∃ X2 G2 F2 p2, fLL_law_22 sa (k + 1) X G F p (nI j) = fLL_law_22 sa k X2 G2 F2 p2 (nI (j + 1)) ∧ zl_INV (A + 2) (D + 1) X2 G2 F2 p2 := by
  obtain ⟨c, ec⟩ := zl_cell h (i := j - j / 16 * 16) (by omega)
  have ec' : fL_cell sa (nI j - nI j / 16 * 16) = some c := by
    rw [show (16 : Int32) = nI 16 from rfl, pu_div (by omega) (by omega), pu_mul, pu_sub (by omega)]
    exact ec
  obtain ⟨X1, G1, F1, p1, e54, I1⟩ := zl_54 ((c >>> (((nI j / 16) * 3) &&& 31)) + (311 * nI j)) I (by omega) (by omega)
  obtain ⟨v, hv, ev⟩ := zl_below (x := (c >>> (((nI j / 16) * 3) &&& 31)) + (311 * nI j)) (n := 4) (by omega) (by omega)
  have ev' : fL_below ((c >>> (((nI j / 16) * 3) &&& 31)) + (311 * nI j)) 4 = some (nI v) := ev
  obtain ⟨g, hg, eg⟩ := zl_below (x := ((c >>> (((nI j / 16) * 3) &&& 31)) + (311 * nI j)) >>> (2 &&& 31)) (n := 99) (by omega) (by omega)
  have eg' : fL_below (((c >>> (((nI j / 16) * 3) &&& 31)) + (311 * nI j)) >>> (2 &&& 31)) 99 = some (nI g) := eg
  obtain ⟨N, T, F0, cc, l, R, C, H, hc, hcb, hr⟩ := I1
  have hN5 := C.Nle
  have hT3 := C.Tle
  have hF90 := C.Fle
  obtain ⟨q, hq, hw⟩ := C.wa (D % 7) (Nat.mod_lt _ (by omega))
  obtain ⟨l2, m2, a, S1, z1, z2, z3, z4, z5, z6, z7, z8, z9⟩ := zl_day C (by omega) hq hw
  obtain ⟨rz, Y, r1, r2⟩ := zl_ripe (g := 1 + g) hv (by omega) (by omega) C z1 z3 z2 (by omega)
  obtain ⟨Ga, Fa, pa, Ra, ga1, ga2, ga3⟩ := z8 G1 F1 p1 R zr_e H
  obtain ⟨s, u, s1, u1, -⟩ := zl_told z2 ga2
  obtain ⟨s0, u0, s01, u01, -⟩ := zl_told C H
  have hcn := zl_cn_le X1.1.pulp 4 0
  obtain ⟨p12, K12, b1, b2, b3, b4⟩ := zl_135 (X := (X1.1, Y)) (B := p1.1) C.pu 4 0 0 300 _ _ (zr_nwm H.r) zl_W0 rfl (by omega)
  have b1' : fLL_law_135 (X1.1, Y) p1.1 300 (zs_nwm p1 4 3) 0 0 = some (p12, nI (zl_cn X1.1.pulp 4 0)) := b1.trans (by rw [Nat.zero_add])
  have hp12 : p1.1 + 5 ≤ p12.1 := by
    obtain ⟨f, f1, -⟩ := b3.2 3 (by omega)
    have := (zr_oth b2 f1).1
    omega
  obtain ⟨gn, egn, hgn, hgn2⟩ : ∃ gn, (if nI (zl_cn X1.1.pulp 4 0) = 0 then (some 0 : Option Int32) else (zx_count (X1.1, Y) 0).bind fun z23 => (zs_ld p12 (F1 5) (z23 - z23 / 7 * 7)).bind fun x24 => ckZ (nI (zl_cn X1.1.pulp 4 0)) (some ((3 * x24) / nI (zl_cn X1.1.pulp 4 0)))) = some (nI gn) ∧ (zl_cn X1.1.pulp 4 0 ≠ 0 → gn = 3 * q / zl_cn X1.1.pulp 4 0) ∧ gn ≤ 1000 := by
    by_cases c0 : zl_cn X1.1.pulp 4 0 = 0
    · exact ⟨0, if_pos (by rw [c0]; rfl), fun h => absurd c0 h, by omega⟩
    · refine ⟨3 * q / zl_cn X1.1.pulp 4 0, ?_, fun _ => rfl, Nat.le_trans (Nat.div_le_self _ _) (by omega)⟩
      have e1 : zx_count (X1.1, Y) 0 = some (nI D) := (zx_countV (X := (X1.1, Y)) (c := 0) s01 u01 (by omega)).trans (congrArg some C.day)
      have e2 := zr_ld b2 (k := 6) (j := 0) (c := D % 7) (by omega) (show 0 < 1 by omega) (show D % 7 < 7 by omega)
      rw [(zr_F6 b2).2.2.2] at e2
      have e2' : zs_ld p12 (F1 5) (nI (D % 7)) = some (nI q) := e2.trans (congrArg some hw)
      rw [if_neg (show ¬ nI (zl_cn X1.1.pulp 4 0) = 0 from pu_ne (a := zl_cn X1.1.pulp 4 0) (b := 0) c0 (by omega) (by omega)), e1, pu_bs, show (7 : Int32) = nI 7 from rfl, pu_div (by omega) (by omega), pu_mul, pu_sub (by omega), show D - D / 7 * 7 = D % 7 by omega, e2', pu_bs, pu_ckz (by omega) (by omega), show (3 : Int32) = nI 3 from rfl, pu_mul, pu_div (by omega) (by omega)]
  obtain ⟨p26, n1, n2, H26⟩ := zr_nwi b2 (n := 12) (B := 12) (Nat.le_refl _) (by decide)
  have n1' : zs_nwi p12 12 12 = some p26 := n1
  obtain ⟨X27, p27, K27, f27, c1, c2, c3, c4, c5, c6, c7⟩ := zl_236 (q := p12.1) z1 z3 s1 u1 12 0 300 (X1.1, Y) p26 _ (fun _ => 0) rfl H26 va_up_p (fun i h => absurd h (Nat.not_lt_zero i)) rfl (by omega)
  have c1' : fLL_law_236 p12.1 300 (X1.1, Y) p26 0 = some (X27, p27) := c1
  have e31 : zx_count X27 3 = some (nI (F0 - sumS l)) := by
    have := zx_countV (X := X27) (s := s0) (u := u0) (c := 3) (by rw [c2]; exact s01) (by rw [c2]; exact u01) (by omega)
    refine this.trans (congrArg some ?_)
    show X27.1.felts - X27.1.allS = _
    rw [c2, C.fel, C.al, pu_sub C.sl]
  obtain ⟨p32, n3, n4, H32⟩ := zr_nwi c3 (n := 4) (B := 4) (Nat.le_refl _) (by decide)
  have n3' : zs_nwi p27 4 4 = some p32 := n3
  obtain ⟨p33, n5, n6, H33⟩ := zr_nwi H32 (n := 4) (B := 4) (Nat.le_refl _) (by decide)
  have n5' : zs_nwi p32 4 4 = some p33 := n5
  have W27 : ∀ r, r < p12.1 → K27 r = K12 r := fun r hr => by rw [c7 r (by omega), va_up_n (by omega)]
  obtain ⟨p34, K34, g13, g14, d1, d2, d3, d4, d5, d6, d7⟩ := zl_281 (m := X1.1) (q := q) (B := p1.1) (q13 := p27.1) (q14 := p32.1) C.pu C.be hgn hgn2 (by omega) (by omega) (by omega) 4 0 300 p33 _ (fun _ => 0) (fun _ => 0) H33 (b3.cong (fun r h1 h2 => by rw [va_up_n (by omega), va_up_n (by omega)]; exact W27 r (by omega))) (by rw [va_up_n (by omega), va_up_p]) va_up_p (fun i h => absurd h (Nat.not_lt_zero i)) rfl (by omega)
  have d1' : fLL_law_281 p1.1 (nI gn) p27.1 p32.1 300 p33 0 = some p34 := d1
  have l8 : zs_len p34 (F1 8) = some (nI N) := zr_len d2 (k := 1) (by omega)
  obtain ⟨p45, n7, n8, H45⟩ := zr_nwi d2 (n := N) (B := 8) (by omega) (by decide)
  obtain ⟨p46, K46, f46, e1, e2, e3, e4, e5⟩ := zl_352 (X := X27) (q16 := p34.1) (by rw [c2]; exact C.nM) hN5 N 0 300 p45 _ (fun _ => 0) H45 va_up_p (fun i h => absurd h (Nat.not_lt_zero i)) (Nat.zero_add _) (by omega)
  have e1' : fLL_law_352 X27 p34.1 300 p45 0 = some p46 := e1
  have k46 : ∀ r, r ≠ p34.1 → K46 r = K34 r := fun r hr => by rw [e5 r hr, va_up_n hr]
  obtain ⟨p51, K51, x1, x2, x3, x4⟩ := z9 X27 F1 p46 (zl_z N T l.length) R (zl_C X1.1) K46 p27.1 p32.1 p34.1 g14 ⟨by rw [c2]; exact C.nT, by rw [c2]; exact C.nM, by rw [c2], by rw [c2], by rw [c2], by rw [c2]⟩ (fun bt hbt => ⟨⟨g13, (k46 _ (by omega)).trans d3, fun i hi => (d5 i hi).1⟩, (k46 _ (by omega)).trans d4, fun i hi hp => ((d5 i hi).2 hp).trans (hbt i).symm, ⟨f46, e3, fun i hi => by rw [e4 i hi, c2]⟩, by omega, by omega, by omega⟩) e2 rfl
  have x1' : fLL_law_381 X27 F1 p27.1 p32.1 p34.1 300 p46 (nI (F0 - sumS l)) 0 0 = some (p51, nI (F0 - S1), nI a) := x1
  have ps : zx_pass X27 1 = some (nI a, (m2, X27.2)) := zx_passV (by rw [c2]; exact z1) (by rw [c2]; exact z3) (by rw [c2]; exact z4)
  obtain ⟨G2, F2, p2, R2, y1, y2, y3⟩ := z8 G1 F1 p51 R K51 ⟨H.g0, H.g1, H.g2, H.g3, H.g4, x2⟩
  have k51 : ∀ r, r < p27.1 → K51 r = K27 r := fun r hr => by rw [x4 r (by omega) (by omega), k46 r (by omega), d7 r (by omega) (by omega), va_up_n (by omega), va_up_n (by omega)]
  have W51 : zl_W K51 p1.1 X1.1 4 := b3.cong (fun r h1 h2 => by rw [k51 r (by omega)]; exact W27 r (by omega))
  have t554 : fLL_law_554 (m2, X27.2) p2 p12.1 300 0 = some () := zl_554 (X := (m2, X27.2)) s1 u1 y2.r ((k51 _ (by omega)).trans c4) c5 12 0 300 rfl (by omega)
  have t586 : fLL_law_586 (m2, X27.2) p2 p1.1 p27.1 p32.1 300 0 = some () := zl_586 (X := (m2, X27.2)) (m := X1.1) z2 y2.r W51 x3 (fun v hv hp => (z7 v hv hp).2.2) 4 0 300 rfl (by omega)
  obtain ⟨f16, h16, h16b⟩ := x3.h16
  have t674 : fLL_law_674 (m2, X27.2) p2 p34.1 300 0 = some () := zl_674 (X := (m2, X27.2)) z2.nM hN5 y2.r h16 h16b N 0 300 (Nat.zero_add _) (by omega)
  have q3 : zx_count (m2, X27.2) 3 = some (nI (F0 - sumS l2)) := by
    refine (zx_countV (X := (m2, X27.2)) (c := 3) s1 u1 (by omega)).trans (congrArg some ?_)
    show m2.felts - m2.allS = _
    rw [z2.fel, z2.al, pu_sub z2.sl]
  have q2 : zx_count (m2, X27.2) 2 = some (nI F0) := (zx_countV (X := (m2, X27.2)) (c := 2) s1 u1 (by omega)).trans (congrArg some z2.fel)
  have qq : nI (F0 - sumS l2) = nI (F0 - S1) + (if (nI F0 - nI (F0 - S1)) < 24 then (nI F0 - nI (F0 - S1)) else 24) := by
    rw [pu_sub (Nat.sub_le _ _), show (24 : Int32) = nI 24 from rfl, pu_min (by omega) (by omega), pu_add]
    congr 1
    omega
  obtain ⟨⟨gw, w1, w2⟩, w3⟩ := W51
  obtain ⟨fw, w4, w5⟩ := w3 v hv
  have wl1 : zs_ldr p2 p1.1 (nI v) = some (p1.1 + 1 + v) := zr_kldr y2.r w1 hv (by decide) (w2 v hv)
  have wl2 : zs_ld p2 (p1.1 + 1 + v) 1 = some (X1.1.beat v) := (zr_kld y2.r (c := 1) w4 (by omega) (by decide)).trans (congrArg some (w5 hv 1 (by omega)))
  obtain ⟨Z, t1, t2, t3⟩ : ∃ Z, (if rz ≤ 0 then some (m2, X27.2) else (zx_ripe (m2, X27.2) (nI v) (nI (1 + g))).bind fun z106 => if z106.1 = (rz - 1) then some z106.2 else none) = some (m2, Z) ∧ (if rz = 0 then (zs_ldr p2 p1.1 (nI v)).bind fun x109 => (zs_ld p2 x109 1).bind fun x110 => if nI (1 + g) ≤ x110 then some () else none else some ()) = some () ∧ (if rz = 1 then (zx_about (m2, Z) (nI v) 1).bind fun z113 => if nI (1 + g) ≤ z113 then some () else none else some ()) = some () := by
    rcases r2 with e | ⟨e, hb⟩ | ⟨r, h1, h2, e, h3, h4⟩
    · subst e
      exact ⟨X27.2, if_pos (by decide), if_neg (by decide), if_neg (by decide)⟩
    · subst e
      refine ⟨X27.2, if_pos (by decide), ?_, if_neg (by decide)⟩
      rw [if_pos (show nI 0 = 0 from rfl), wl1, pu_bs, wl2, pu_bs, if_pos (Int32.not_lt.mp hb)]
    · subst e
      obtain ⟨Y2, e2⟩ := h3 X27.2
      refine ⟨Y2, ?_, ?_, ?_⟩
      · rw [if_neg (show ¬ nI r ≤ 0 by rw [show (0 : Int32) = nI 0 from rfl, pu_le (by omega) (by omega)]; omega), e2, pu_bs]
        dsimp only
        rw [if_pos (show nI (r - 1) = nI r - 1 by rw [show (1 : Int32) = nI 1 from rfl, pu_sub h1])]
      · rw [if_neg (show ¬ nI r = 0 from pu_ne (a := r) (b := 0) (by omega) (by omega) (by omega))]
      · by_cases cr : r = 1
        · have a1 : zx_about (m2, Y2) (nI v) 1 = some (m2.beat v) := zx_aboutV (X := (m2, Y2)) (c := 1) hv (by omega)
          rw [if_pos (show nI r = 1 by rw [cr]; rfl), a1, pu_bs, if_pos (Int32.not_lt.mp (h4 cr))]
        · rw [if_neg (show ¬ nI r = 1 from pu_ne (a := r) (b := 1) cr (by omega) (by omega))]
  have I2 : zl_INV (A + 2) (D + 1) (m2, Z) G2 F2 p2 := ⟨N, T, F0, cc, l2, R2, z2, ⟨y2.g0, y2.g1, y2.g2, y2.g3, y2.g4, zr_cK y2.r (fun q e h => zr_eN h)⟩, z3.coins.trans hc, hcb, fun i hi => by
    show ∃ n, n ≤ 60 + 12 * (A + 2) ∧ m2.rags i = nI n
    rw [z3.rags]
    exact hr i hi⟩
  refine ⟨(m2, Z), G2, F2, p2, ?_, I2⟩
  rw [fLL_law_22, if_neg (show ¬ (34 : Int32) ≤ nI j by rw [show (34 : Int32) = nI 34 from rfl, pu_le (by omega) (by omega)]; omega), ec', pu_bs, e54, pu_bs, ev', pu_bs, eg', pu_bs, show 1 + nI g = nI (1 + g) from pu_add 1 g]
  dsimp only
  rw [r1, pu_bs, pu_bs]
  dsimp only
  rw [b1', pu_bs]
  dsimp only
  rw [egn, pu_bs, n1', pu_bs, c1', pu_bs]
  dsimp only
  rw [e31, pu_bs, n3', pu_bs, n5', pu_bs, d1', pu_bs, l8, pu_bs, n7, pu_bs, e1', pu_bs, x1', pu_bs]
  dsimp only
  rw [ps, pu_bs]
  dsimp only
  rw [if_pos rfl, y1, pu_bs]
  dsimp only
  rw [if_pos rfl, t554, pu_bs, t586, pu_bs, t674, pu_bs, q3, pu_bs, q2, pu_bs, if_pos qq, t1, pu_bs, t2, pu_bs, t3, pu_bs, show nI j + 1 = nI (j + 1) from pu_add j 1]
theorem zl_22 {sa : SAT} (h : sa.2.1 ≤ 260) : ∀ (d j k A D : Nat) (X : XT) (G : FN) (F : Nat → Nat) (p : zs_H), zl_INV A D X G F p → j + d = 34 → A + 2 * d ≤ 198 → D + d ≤ 100 → d < k → ∃ X2 G2 F2 p2 A2 D2, fLL_law_22 sa k X G F p (nI j) = some (X2, G2, F2, p2) ∧ zl_INV A2 D2 X2 G2 F2 p2
  | 0, j, k + 1, A, D, X, G, F, p, I, hj, _, _, _ => by
    have hj' : j = 34 := hj
    subst hj'
    exact ⟨X, G, F, p, A, D, by rw [fLL_law_22, if_pos (by decide)], I⟩
  | d + 1, j, k + 1, A, D, X, G, F, p, I, hj, hA, hD, hk => by
    obtain ⟨X2, G2, F2, p2, e, I2⟩ := zl_round h (j := j) I (by omega) (by omega) (by omega) k
    rw [e]
    exact zl_22 h d (j + 1) k (A + 2) (D + 1) X2 G2 F2 p2 I2 (by omega) (by omega) (by omega) (by omega)
theorem pure_law (sa : SAT) (h : sa.2.1 ≤ 260) : fL_law sa = some () := by
  obtain ⟨X, G, F, p, D, e1, I, hD⟩ := zl_build h
  obtain ⟨X2, G2, F2, p2, A2, D2, e2, I2⟩ := zl_22 h 34 0 35 36 D X G F p I rfl (by omega) (by omega) (by omega)
  obtain ⟨p3, e3⟩ := zl_same I2
  have e2' : fLL_law_22 sa 35 X G F p 0 = some (X2, G2, F2, p2) := e2
  unfold fL_law
  rw [e1, pu_bs]
  dsimp only
  rw [e2', pu_bs]
  dsimp only
  rw [e3, pu_bs]
