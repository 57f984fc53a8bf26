section
variable {F : Nat → Nat} {sz : Nat → Nat} {R : Nat → Nat → Nat} {Cc : Nat → Nat → Nat → Int32} {B : Nat}
theorem zl_281 {m : MS} {q q13 q14 gn : Nat} (hp : ∀ v, v < 4 → ∃ n, n ≤ 40 ∧ m.pulp v = nI n) (hb : ∀ v, v < 4 → ∃ n, n ≤ 99 ∧ m.beat v = nI n) (hg : zl_cn m.pulp 4 0 ≠ 0 → gn = 3 * q / zl_cn m.pulp 4 0) (hgn : gn ≤ 1000) (d1 : q13 ≠ q14) (o13 : ¬ (B ≤ q13 ∧ q13 < B + 5)) (o14 : ¬ (B ≤ q14 ∧ q14 < B + 5)) : ∀ (d v k : Nat) (p : zs_H) (K : Nat → Option zs_E) (f13 f14 : FN), zr p F sz R Cc K → zl_W K B m 4 → K q13 = some (.inl (4, f13)) → K q14 = some (.inl (4, f14)) → (∀ i, i < v → f13 i = m.pulp i ∧ (m.pulp i ≠ nI 0 → f14 i = zl_bt m q i)) → v + d = 4 → d < k → ∃ p2 K2 g13 g14, fLL_law_281 B (nI gn) q13 q14 k p (nI v) = some p2 ∧ zr p2 F sz R Cc K2 ∧ K2 q13 = some (.inl (4, g13)) ∧ K2 q14 = some (.inl (4, g14)) ∧ (∀ i, i < 4 → g13 i = m.pulp i ∧ (m.pulp i ≠ nI 0 → g14 i = zl_bt m q i)) ∧ p2.1 = p.1 ∧ ∀ r, r ≠ q13 → r ≠ q14 → K2 r = K r
  | 0, v, k + 1, p, K, f13, f14, H, W, k13, k14, hi, hv, _ => by
    have hv' : v = 4 := hv
    exact ⟨p, K, f13, f14, by rw [fLL_law_281, if_pos (show (4 : Int32) ≤ nI v by rw [hv']; decide)], H, k13, k14, fun i h => hi i (by omega), rfl, fun _ _ _ => rfl⟩
  | d + 1, v, k + 1, p, K, f13, f14, H, W, k13, k14, hi, hv, hk => by
    have hv2 : v < 4 := by omega
    obtain ⟨⟨g0, h1, h2⟩, h3⟩ := id W
    obtain ⟨f, f1, f2⟩ := h3 v hv2
    have f2 := f2 hv2
    obtain ⟨n, hn, en⟩ := hp v hv2
    obtain ⟨b, hb2, eb⟩ := hb v hv2
    have e1 : zs_ldr p B (nI v) = some (B + 1 + v) := zr_kldr H h1 hv2 (by decide) (h2 v hv2)
    have e2 : zs_ld p (B + 1 + v) 0 = some (m.pulp v) := (zr_kld H (c := 0) f1 (by omega) (by decide)).trans (congrArg some (f2 0 (by omega)))
    obtain ⟨p1, s1, t1, H1⟩ := zr_kst H (c := v) (v := m.pulp v) k13 hv2 (by decide)
    have e3 : zs_ld p1 q13 (nI v) = some (m.pulp v) := (zr_kld H1 (c := v) va_up_p hv2 (by decide)).trans (congrArg some pu_up)
    have e4 : zs_ldr p1 B (nI v) = some (B + 1 + v) := zr_kldr H1 (by rw [va_up_n (by omega)]; exact h1) hv2 (by decide) (h2 v hv2)
    have e5 : zs_ld p1 (B + 1 + v) 1 = some (m.beat v) := (zr_kld H1 (c := 1) (by rw [va_up_n (by omega)]; exact f1) (by omega) (by decide)).trans (congrArg some (f2 1 (by omega)))
    obtain ⟨t, et, ht⟩ : ∃ t, (if m.pulp v = 0 then (some 0 : Option Int32) else (zs_ldr p1 B (nI v)).bind fun x41 => (zs_ld p1 x41 1).bind fun x42 => some (if (x42 + nI gn) < 99 then (x42 + nI gn) else 99)) = some t ∧ (m.pulp v ≠ nI 0 → t = zl_bt m q v) := by
      by_cases c0 : m.pulp v = 0
      · exact ⟨0, if_pos c0, fun h => absurd c0 h⟩
      · refine ⟨nI (min (b + gn) 99), ?_, fun h => ?_⟩
        · rw [if_neg c0, e4, pu_bs, e5, pu_bs, eb, pu_add, show (99 : Int32) = nI 99 from rfl, pu_min (by omega) (by omega)]
        · have hpos := zl_cn_pos m.pulp 4 0 v (by omega) (by omega) h
          unfold zl_bt
          rw [if_pos ⟨hv2, h⟩, eb, pu_tn (by omega), ← hg (by omega), Nat.min_comm]
    have k14' : va_up K q13 (some (.inl (4, upd f13 v (m.pulp v)))) q14 = some (.inl (4, f14)) := by rw [va_up_n (Ne.symm d1)]; exact k14
    obtain ⟨p2, s2, t2, H2⟩ := zr_kst H1 (c := v) (v := t) k14' hv2 (by decide)
    obtain ⟨p3, K3, g13, g14, a1, a2, a3, a4, a5, a6, a7⟩ := zl_281 hp hb hg hgn d1 o13 o14 d (v + 1) k p2 _ (upd f13 v (m.pulp v)) (upd f14 v t) H2 (W.cong (fun r r1 r2 => by rw [va_up_n (by omega), va_up_n (by omega)])) (by rw [va_up_n d1, va_up_p]) va_up_p (fun i h => by
      by_cases ci : i = v
      · subst ci; rw [pu_up, pu_up]; exact ⟨rfl, ht⟩
      · rw [pu_un ci, pu_un ci]; exact hi i (by omega)) (by omega) (by omega)
    refine ⟨p3, K3, g13, g14, ?_, a2, a3, a4, a5, by rw [a6, t2, t1], fun r r1 r2 => by rw [a7 r r1 r2, va_up_n r2, va_up_n r1]⟩
    rw [fLL_law_281, if_neg (show ¬ (4 : Int32) ≤ nI v by rw [show (4 : Int32) = nI 4 from rfl, pu_le (by omega) (by omega)]; omega), e1, pu_bs, e2, pu_bs, s1, pu_bs, e3, pu_bs, et, pu_bs, s2, pu_bs, show nI v + 1 = nI (v + 1) from pu_add v 1]
    exact a1
theorem zl_352 {X : XT} {N q16 : Nat} (hN : X.1.nM = nI N) (h5 : N ≤ 5) : ∀ (d j k : Nat) (p : zs_H) (K : Nat → Option zs_E) (f : FN), zr p F sz R Cc K → K q16 = some (.inl (N, f)) → (∀ i, i < j → f i = X.1.worn i) → j + d = N → d < k → ∃ p2 K2 f2, fLL_law_352 X q16 k p (nI j) = some p2 ∧ zr p2 F sz R Cc K2 ∧ K2 q16 = some (.inl (N, f2)) ∧ (∀ i, i < N → f2 i = X.1.worn i) ∧ ∀ r, r ≠ q16 → K2 r = K r
  | 0, j, k + 1, p, K, f, H, hf, hi, hj, _ => by
    have hj' : j = N := hj
    exact ⟨p, K, f, by rw [fLL_law_352, zr_klenI H hf, pu_bs, if_pos (by rw [pu_le (by omega) (by omega)]; omega)], H, hf, fun i h => hi i (by omega), fun _ _ => rfl⟩
  | d + 1, j, k + 1, p, K, f, H, hf, hi, hj, hk => by
    have hj2 : j < N := by omega
    obtain ⟨p1, s1, t1, H1⟩ := zr_kst H (c := j) (v := X.1.worn j) hf hj2 (by omega)
    obtain ⟨p2, K2, f2, a1, a2, a3, a4, a5⟩ := zl_352 hN h5 d (j + 1) k p1 _ (upd f j (X.1.worn j)) H1 va_up_p (fun i h => by
      by_cases ci : i = j
      · subst ci; exact pu_up
      · rw [pu_un ci]; exact hi i (by omega)) (by omega) (by omega)
    refine ⟨p2, K2, f2, ?_, a2, a3, a4, fun r hr => by rw [a5 r hr, va_up_n hr]⟩
    rw [fLL_law_352, zr_klenI H hf, pu_bs, if_neg (by rw [pu_le (by omega) (by omega)]; omega), zx_mould_2 hN hj2 h5, pu_bs, s1, pu_bs, show nI j + 1 = nI (j + 1) from pu_add j 1]
    exact a1
theorem zl_554 {X : XT} {q : Nat} {s u : Int32} {p : zs_H} {K : Nat → Option zs_E} {f : FN} (h1 : fX0_allHanging X.1.loft = some s) (h2 : fX4_allPulp X.1.pulp = some u) (H : zr p F sz R Cc K) (hf : K q = some (.inl (12, f))) (hi : ∀ i, i < 12 → f i = zl_cv X.1 s u i) : ∀ (d c k : Nat), c + d = 12 → d < k → fLL_law_554 X p q k (nI c) = some ()
  | 0, c, k + 1, hc, _ => by rw [fLL_law_554, if_pos (show (12 : Int32) ≤ nI c by rw [show (12 : Int32) = nI 12 from rfl, pu_le (by omega) (by omega)]; omega)]
  | d + 1, c, k + 1, hc, hk => by
    have e1 : zs_ld p q (nI c) = some (zl_cv X.1 s u c) := (zr_kld H (c := c) hf (by omega) (by decide)).trans (congrArg some (hi c (by omega)))
    rw [fLL_law_554, if_neg (show ¬ (12 : Int32) ≤ nI c by rw [show (12 : Int32) = nI 12 from rfl, pu_le (by omega) (by omega)]; omega), zx_countV h1 h2 (by omega), pu_bs, e1, pu_bs, if_pos rfl, show nI c + 1 = nI (c + 1) from pu_add c 1]
    exact zl_554 h1 h2 H hf hi d (c + 1) k (by omega) (by omega)
theorem zl_586 {D N T F0 : Nat} {l : List pz_PT} {X : XT} {m : MS} {q13 q14 q16 : Nat} {b : FN} {p : zs_H} {K : Nat → Option zs_E} (C : CI D N T F0 l X.1) (H : zr p F sz R Cc K) (W : zl_W K B m 4) (E : zl_E N X.1 K q13 q14 q16 b) (hs : ∀ v, v < 4 → X.1.pulp v ≠ nI 0 → X.1.sort v = m.sort v) : ∀ (d v k : Nat), v + d = 4 → d < k → fLL_law_586 X p B q13 q14 k (nI v) = some ()
  | 0, v, k + 1, hc, _ => by rw [fLL_law_586, if_pos (show (4 : Int32) ≤ nI v by rw [show (4 : Int32) = nI 4 from rfl, pu_le (by omega) (by omega)]; omega)]
  | d + 1, v, k + 1, hc, hk => by
    have hv : v < 4 := by omega
    obtain ⟨⟨g0, h1, h2⟩, h3⟩ := id W
    obtain ⟨f, f1, f2⟩ := h3 v hv
    obtain ⟨g, g1, g2⟩ := E.h13
    have e1 : zs_ld p q13 (nI v) = some (X.1.pulp v) := (zr_kld H (c := v) g1 hv (by decide)).trans (congrArg some (g2 v hv))
    have e2 : zs_ld p q14 (nI v) = some (b v) := zr_kld H (c := v) E.h14 hv (by decide)
    have e3 : zs_ldr p B (nI v) = some (B + 1 + v) := zr_kldr H h1 hv (by decide) (h2 v hv)
    have e4 : zs_ld p (B + 1 + v) 2 = some (m.sort v) := (zr_kld H (c := 2) f1 (by omega) (by decide)).trans (congrArg some (f2 hv 2 (by omega)))
    have a0 : zx_about X (nI v) 0 = some (X.1.pulp v) := zx_aboutV (c := 0) hv (by omega)
    have a1 : zx_about X (nI v) 1 = some (X.1.beat v) := zx_aboutV (c := 1) hv (by omega)
    have a2 : zx_about X (nI v) 2 = some (X.1.sort v) := zx_aboutV (c := 2) hv (by omega)
    rw [fLL_law_586, if_neg (show ¬ (4 : Int32) ≤ nI v by rw [show (4 : Int32) = nI 4 from rfl, pu_le (by omega) (by omega)]; omega), a0, pu_bs, e1, pu_bs, if_pos rfl, a1, pu_bs, pu_bs, e2, pu_bs, e3, pu_bs, e4, pu_bs, a2, pu_bs, pu_bs, show nI v + 1 = nI (v + 1) from pu_add v 1]
    by_cases c0 : X.1.pulp v = 0
    · obtain ⟨m1, m2⟩ := C.em v hv c0
      rw [if_pos c0, pu_bs, if_pos (show X.1.beat v = 0 from m1), if_pos c0, pu_bs, if_pos (show X.1.sort v = -1 by rw [pu_m1e]; exact m2)]
      exact zl_586 C H W E hs d (v + 1) k (by omega) (by omega)
    · rw [if_neg c0, pu_bs, if_pos (E.hB v hv c0).symm, if_neg c0, pu_bs, if_pos (hs v hv c0)]
      exact zl_586 C H W E hs d (v + 1) k (by omega) (by omega)
theorem zl_674 {X : XT} {N q16 : Nat} {p : zs_H} {K : Nat → Option zs_E} {f : FN} (hN : X.1.nM = nI N) (h5 : N ≤ 5) (H : zr p F sz R Cc K) (hf : K q16 = some (.inl (N, f))) (hi : ∀ i, i < N → f i = X.1.worn i) : ∀ (d j k : Nat), j + d = N → d < k → fLL_law_674 X p q16 k (nI j) = some ()
  | 0, j, k + 1, hj, _ => by rw [fLL_law_674, zr_klenI H hf, pu_bs, if_pos (by rw [pu_le (by omega) (by omega)]; omega)]
  | d + 1, j, k + 1, hj, hk => by
    have hj2 : j < N := by omega
    have e1 : zs_ld p q16 (nI j) = some (X.1.worn j) := (zr_kld H (c := j) hf hj2 (by omega)).trans (congrArg some (hi j hj2))
    rw [fLL_law_674, zr_klenI H hf, pu_bs, if_neg (by rw [pu_le (by omega) (by omega)]; omega), zx_mould_2 hN hj2 h5, pu_bs, e1, pu_bs, if_pos rfl, show nI j + 1 = nI (j + 1) from pu_add j 1]
    exact zl_674 hN h5 H hf hi d (j + 1) k (by omega) (by omega)
end
theorem zl_54 {A D : Nat} {X : XT} {G : FN} {F : Nat → Nat} {p : zs_H} (x : Int32) (I : zl_INV A D X G F p) (hA : A + 1 ≤ 200) (hD : D ≤ 200) : ∃ X2 G2 F2 p2, fLL_law_54 x 3 X G F p 0 = some (X2, G2, F2, p2) ∧ zl_INV (A + 2) D X2 G2 F2 p2 := by
  obtain ⟨X1, G1, F1, p1, e1, I1⟩ := zl_act ((x >>> ((2 * 0) &&& 31)) + (227 * 0)) I (by omega) hD
  obtain ⟨X2, G2, F2, p2, e2, I2⟩ := zl_act ((x >>> ((2 * (0 + 1)) &&& 31)) + (227 * (0 + 1))) I1 hA hD
  refine ⟨X2, G2, F2, p2, ?_, I2⟩
  rw [fLL_law_54, if_neg (by decide), e1, pu_bs]
  dsimp only
  rw [fLL_law_54, if_neg (by decide), e2, pu_bs]
  dsimp only
  rw [fLL_law_54, if_pos (by decide)]
