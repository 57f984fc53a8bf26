/-! the law's own rows beside the tables -/
def zl_k5 (K : Nat → Option zs_E) (B : Nat) : Nat → Option zs_E := fun q => if q = B then some (.inr (4, fun j => if j < 4 then some (B + 1 + j) else none)) else if B < q ∧ q < B + 5 then some (.inl (3, fun _ => 0)) else K q
theorem zr_nwm {p : zs_H} {F : Nat → Nat} {sz : Nat → Nat} {R : Nat → Nat → Nat} {C : Nat → Nat → Nat → Int32} {K : Nat → Option zs_E} (H : zr p F sz R C K) : zr (zs_nwm p 4 3) F sz R C (zl_k5 K p.1) := by
  obtain ⟨own, g1, g2, g3, g4, g5, g6, g7⟩ := H
  have hr : ∀ q t, own q = some t → q < p.1 := fun q t h => (g1 q t h).1
  have hold : ∀ q, q < p.1 → (zs_nwm p 4 3).2 q = p.2 q := fun q h => if_pos h
  refine ⟨fun q => if q < p.1 then own q else if q = p.1 then some (.inr (.inr (.inr (4, fun j => if j < 4 then some (p.1 + 1 + j) else none)))) else if q < p.1 + 5 then some (.inr (.inr (.inl (3, fun _ => 0)))) else none, fun q t h => ?_, fun k j hk hj => ?_, fun k hk => ?_, fun q k j h => ?_, fun q k h => ?_, fun q e h => ?_, g7⟩
  · by_cases c : q < p.1
    · have h2 : own q = some t := (if_pos c).symm.trans h
      have h3 := g1 q t h2
      refine ⟨Nat.lt_of_lt_of_le h3.1 (show p.1 ≤ p.1 + 1 + 4 by omega), ?_⟩
      rw [hold q c]
      exact h3.2
    · have h := (if_neg c).symm.trans h
      by_cases c2 : q = p.1
      · have h := (if_pos c2).symm.trans h
        cases h
        refine ⟨show q < p.1 + 1 + 4 by omega, ?_⟩
        show (if q < p.1 then p.2 q else if q = p.1 then _ else _) = _
        rw [if_neg c, if_pos c2]
      · have h := (if_neg c2).symm.trans h
        by_cases c3 : q < p.1 + 5
        · have h := (if_pos c3).symm.trans h
          cases h
          refine ⟨show q < p.1 + 1 + 4 by omega, ?_⟩
          show (if q < p.1 then p.2 q else if q = p.1 then _ else _) = _
          rw [if_neg c, if_neg c2]
        · have h := (if_neg c3).symm.trans h
          cases h
  · have h := g2 k j hk hj
    exact (if_pos (hr _ _ h)).trans h
  · have h := g3 k hk
    exact (if_pos (hr _ _ h)).trans h
  · by_cases c : q < p.1
    · exact g4 q k j ((if_pos c).symm.trans h)
    · have h := (if_neg c).symm.trans h
      by_cases c2 : q = p.1
      · have h := (if_pos c2).symm.trans h
        cases h
      · have h := (if_neg c2).symm.trans h
        by_cases c3 : q < p.1 + 5
        · have h := (if_pos c3).symm.trans h
          cases h
        · have h := (if_neg c3).symm.trans h
          cases h
  · by_cases c : q < p.1
    · exact g5 q k ((if_pos c).symm.trans h)
    · have h := (if_neg c).symm.trans h
      by_cases c2 : q = p.1
      · have h := (if_pos c2).symm.trans h
        cases h
      · have h := (if_neg c2).symm.trans h
        by_cases c3 : q < p.1 + 5
        · have h := (if_pos c3).symm.trans h
          cases h
        · have h := (if_neg c3).symm.trans h
          cases h
  · by_cases c : q = p.1
    · have h2 := (if_pos c).symm.trans h
      cases h2
      exact (if_neg (show ¬ q < p.1 by omega)).trans (if_pos c)
    · have h2 := (if_neg c).symm.trans h
      by_cases c2 : p.1 < q ∧ q < p.1 + 5
      · have h3 := (if_pos c2).symm.trans h2
        cases h3
        exact (if_neg (show ¬ q < p.1 by omega)).trans ((if_neg c).trans (if_pos c2.2))
      · have h3 : K q = some e := (if_neg c2).symm.trans h2
        have h4 := g6 q e h3
        exact (if_pos (hr _ _ h4)).trans h4
/-- the law's 'was': n of its vats written -/
def zl_W (K : Nat → Option zs_E) (B : Nat) (m : MS) (n : Nat) : Prop := (∃ g, K B = some (.inr (4, g)) ∧ ∀ v, v < 4 → g v = some (B + 1 + v)) ∧ ∀ v, v < 4 → ∃ f, K (B + 1 + v) = some (.inl (3, f)) ∧ (v < n → ∀ c, c < 3 → f c = zl_C m 0 v c)
theorem zl_W0 {K : Nat → Option zs_E} {B : Nat} {m : MS} : zl_W (zl_k5 K B) B m 0 := by
  refine ⟨⟨_, if_pos rfl, fun v hv => if_pos hv⟩, fun v hv => ⟨_, (if_neg (by omega)).trans (if_pos (by omega)), fun h => absurd h (Nat.not_lt_zero v)⟩⟩
theorem zl_W.cong {K K2 : Nat → Option zs_E} {B n : Nat} {m : MS} (h : zl_W K B m n) (hk : ∀ q, B ≤ q → q < B + 5 → K2 q = K q) : zl_W K2 B m n := by
  obtain ⟨⟨g, g1, g2⟩, h2⟩ := h
  refine ⟨⟨g, (hk B (by omega) (by omega)).trans g1, g2⟩, fun v hv => ?_⟩
  obtain ⟨f, f1, f2⟩ := h2 v hv
  exact ⟨f, (hk _ (by omega) (by omega)).trans f1, f2⟩
section
variable {F : Nat → Nat} {sz : Nat → Nat} {R : Nat → Nat → Nat} {Cc : Nat → Nat → Nat → Int32} {B : Nat}
theorem zl_144 {X : XT} {v : Nat} (hv : v < 4) : ∀ (d c k : Nat) (p : zs_H) (K : Nat → Option zs_E) (f : FN), zr p F sz R Cc K → (∃ g, K B = some (.inr (4, g)) ∧ ∀ v, v < 4 → g v = some (B + 1 + v)) → K (B + 1 + v) = some (.inl (3, f)) → (∀ i, i < c → f i = zl_C X.1 0 v i) → c + d = 3 → d < k → ∃ p2 K2 f2, fLL_law_144 X B (nI v) k p (nI c) = some p2 ∧ zr p2 F sz R Cc K2 ∧ K2 (B + 1 + v) = some (.inl (3, f2)) ∧ (∀ i, i < 3 → f2 i = zl_C X.1 0 v i) ∧ ∀ q, q ≠ B + 1 + v → K2 q = K q
  | 0, c, k + 1, p, K, f, H, hg, hf, hi, hc, _ => by
    have hc' : c = 3 := hc
    exact ⟨p, K, f, by rw [fLL_law_144, if_pos (show (3 : Int32) ≤ nI c by rw [show (3 : Int32) = nI 3 from rfl, pu_le (by omega) (by omega)]; omega)], H, hf, fun i h => hi i (by omega), fun _ _ => rfl⟩
  | d + 1, c, k + 1, p, K, f, H, hg, hf, hi, hc, hk => by
    obtain ⟨g, g1, g2⟩ := hg
    have e1 : zs_ldr p B (nI v) = some (B + 1 + v) := zr_kldr H g1 hv (by decide) (g2 v hv)
    obtain ⟨p1, s1, t1, H1⟩ := zr_kst H (c := c) (v := zl_C X.1 0 v c) hf (by omega) (by decide)
    obtain ⟨p2, K2, f2, a1, a2, a3, a4, a5⟩ := zl_144 hv d (c + 1) k p1 _ (upd f c (zl_C X.1 0 v c)) H1 ⟨g, by rw [va_up_n (by omega)]; exact g1, g2⟩ va_up_p (fun i h => by
      by_cases ci : i = c
      · subst ci; exact pu_up
      · rw [pu_un ci]; exact hi i (by omega)) (by omega) (by omega)
    refine ⟨p2, K2, f2, ?_, a2, a3, a4, fun q hq => by rw [a5 q hq, va_up_n hq]⟩
    rw [fLL_law_144, if_neg (show ¬ (3 : Int32) ≤ nI c by rw [show (3 : Int32) = nI 3 from rfl, pu_le (by omega) (by omega)]; omega), e1, pu_bs, zx_aboutV hv (by omega), pu_bs, s1, pu_bs, show nI c + 1 = nI (c + 1) from pu_add c 1]
    exact a1
theorem zl_135 {X : XT} (hp : ∀ v, v < 4 → ∃ n, n ≤ 40 ∧ X.1.pulp v = nI n) : ∀ (d v x k : Nat) (p : zs_H) (K : Nat → Option zs_E), zr p F sz R Cc K → zl_W K B X.1 v → v + d = 4 → d < k → ∃ p2 K2, fLL_law_135 X B k p (nI x) (nI v) = some (p2, nI (x + zl_cn X.1.pulp d v)) ∧ zr p2 F sz R Cc K2 ∧ zl_W K2 B X.1 4 ∧ ∀ q, ¬ (B ≤ q ∧ q < B + 5) → K2 q = K q
  | 0, v, x, k + 1, p, K, H, W, hv, _ => by
    have hv' : v = 4 := hv
    subst hv'
    exact ⟨p, K, by rw [fLL_law_135, if_pos (by decide)]; rfl, H, W, fun _ _ => rfl⟩
  | d + 1, v, x, k + 1, p, K, H, W, hv, hk => by
    have hv2 : v < 4 := by omega
    obtain ⟨f, f1, f2⟩ := W.2 v hv2
    obtain ⟨p1, K1, g, a1, a2, a3, a4, a5⟩ := zl_144 (X := X) hv2 3 0 300 p K f H W.1 f1 (fun i h => absurd h (Nat.not_lt_zero i)) rfl (by omega)
    have a1' : fLL_law_144 X B (nI v) 300 p 0 = some p1 := a1
    have W1 : zl_W K1 B X.1 (v + 1) := by
      obtain ⟨⟨g0, h1, h2⟩, h3⟩ := W
      refine ⟨⟨g0, (a5 B (by omega)).trans h1, h2⟩, fun u hu => ?_⟩
      by_cases cu : u = v
      · subst cu; exact ⟨g, a3, fun _ => a4⟩
      · obtain ⟨fu, u1, u2⟩ := h3 u hu
        exact ⟨fu, (a5 _ (by omega)).trans u1, fun h => u2 (by omega)⟩
    obtain ⟨g0, h1, h2⟩ := W1.1
    have e1 : zs_ldr p1 B (nI v) = some (B + 1 + v) := zr_kldr a2 h1 hv2 (by decide) (h2 v hv2)
    have e2 : zs_ld p1 (B + 1 + v) 0 = some (X.1.pulp v) := (zr_kld a2 (c := 0) a3 (by omega) (by decide)).trans (congrArg some (a4 0 (by omega)))
    obtain ⟨n, hn, en⟩ := hp v hv2
    have hle : X.1.pulp v ≤ 0 ↔ X.1.pulp v = nI 0 := by rw [en]; exact pu_le0 (by omega)
    obtain ⟨p2, K2, b1, b2, b3, b4⟩ := zl_135 hp d (v + 1) (x + (if X.1.pulp v = nI 0 then 0 else 1)) k p1 K1 a2 W1 (by omega) (by omega)
    refine ⟨p2, K2, ?_, b2, b3, fun q hq => (b4 q hq).trans (a5 q (by omega))⟩
    rw [fLL_law_135, if_neg (show ¬ (4 : Int32) ≤ nI v by rw [show (4 : Int32) = nI 4 from rfl, pu_le (by omega) (by omega)]; omega), a1', pu_bs, e1, pu_bs, e2, pu_bs, show nI v + 1 = nI (v + 1) from pu_add v 1]
    show _ = some (p2, nI (x + ((if X.1.pulp v = nI 0 then 0 else 1) + zl_cn X.1.pulp d (v + 1))))
    rw [← Nat.add_assoc]
    by_cases c0 : X.1.pulp v = nI 0
    · rw [if_pos (hle.mpr c0), pu_bs]
      rw [if_pos c0] at b1 ⊢
      rw [show nI x + 0 = nI (x + 0) from pu_add x 0]
      exact b1
    · rw [if_neg (fun h => c0 (hle.mp h)), pu_bs]
      rw [if_neg c0] at b1 ⊢
      rw [show nI x + 1 = nI (x + 1) from pu_add x 1]
      exact b1
theorem zl_236 {m m2 : MS} {s u : Int32} {q : Nat} (h : zl_D m = some (m2.day, m2.made, m2.worth, m2.pulp, m2.beat, m2.sort, m2.worn, m2.nQ, m2.allS, m2.pmark, m2.pgrade, m2.psheets, m2.loft)) (S : zl_S m m2) (h1 : fX0_allHanging m2.loft = some s) (h2 : fX4_allPulp m2.pulp = some u) : ∀ (d c k : Nat) (X : XT) (p : zs_H) (K : Nat → Option zs_E) (f : FN), X.1 = m → zr p F sz R Cc K → K q = some (.inl (12, f)) → (∀ i, i < c → f i = zl_cv m2 s u i) → c + d = 12 → d < k → ∃ X2 p2 K2 f2, fLL_law_236 q k X p (nI c) = some (X2, p2) ∧ X2.1 = m ∧ zr p2 F sz R Cc K2 ∧ K2 q = some (.inl (12, f2)) ∧ (∀ i, i < 12 → f2 i = zl_cv m2 s u i) ∧ p2.1 = p.1 ∧ ∀ r, r ≠ q → K2 r = K r
  | 0, c, k + 1, X, p, K, f, hX, H, hf, hi, hc, _ => by
    have hc' : c = 12 := hc
    exact ⟨X, p, K, f, by rw [fLL_law_236, if_pos (show (12 : Int32) ≤ nI c by rw [show (12 : Int32) = nI 12 from rfl, pu_le (by omega) (by omega)]; omega)], hX, H, hf, fun i h => hi i (by omega), rfl, fun _ _ => rfl⟩
  | d + 1, c, k + 1, X, p, K, f, hX, H, hf, hi, hc, hk => by
    obtain ⟨Y, ey⟩ := zx_foreseeV (X := X) (m2 := m2) (c := c) (by rw [hX]; exact h) (by rw [hX]; exact S) h1 h2 (by omega)
    obtain ⟨p1, s1, t1, H1⟩ := zr_kst H (c := c) (v := zl_cv m2 s u c) hf (by omega) (by decide)
    obtain ⟨X2, p2, K2, f2, a1, a2, a3, a4, a5, a6, a7⟩ := zl_236 h S h1 h2 d (c + 1) k (X.1, Y) p1 _ (upd f c (zl_cv m2 s u c)) hX H1 va_up_p (fun i h => by
      by_cases ci : i = c
      · subst ci; exact pu_up
      · rw [pu_un ci]; exact hi i (by omega)) (by omega) (by omega)
    refine ⟨X2, p2, K2, f2, ?_, a2, a3, a4, a5, a6.trans t1, fun r hr => by rw [a7 r hr, va_up_n hr]⟩
    rw [fLL_law_236, if_neg (show ¬ (12 : Int32) ≤ nI c by rw [show (12 : Int32) = nI 12 from rfl, pu_le (by omega) (by omega)]; omega), ey, pu_bs]
    dsimp only
    rw [s1, pu_bs, show nI c + 1 = nI (c + 1) from pu_add c 1]
    exact a1
end
