/-! one place of a table changed: the class's row changed -/
theorem zc_ne {C : Nat → Nat → Nat → Int32} {k j c k2 j2 c2 : Nat} {v : Int32} (h : ¬ (k2 = k ∧ j2 = j ∧ c2 = c)) : zr_c C k j c v k2 j2 c2 = C k2 j2 c2 := if_neg h
theorem zc_eq {C : Nat → Nat → Nat → Int32} {k j c : Nat} {v : Int32} : zr_c C k j c v k j c = v := if_pos ⟨rfl, rfl, rfl⟩
theorem zc_pulp (m : MS) (j : Nat) (x : Int32) : zr_c (zl_C m) 0 j 0 x = zl_C (MS.of m.day m.coins m.felts m.made m.worth m.rags m.water (upd m.pulp j x) m.beat m.sort m.nM m.mark m.size m.worn m.nT m.skill m.vat m.pair m.nQ m.allS m.pmark m.pgrade m.psheets m.loft) := by
  funext k2 j2 c2
  by_cases h : k2 = 0 ∧ j2 = j ∧ c2 = 0
  · obtain ⟨rfl, rfl, rfl⟩ := h
    rw [zc_eq]
    exact pu_up.symm
  · rw [zc_ne h]
    rcases k2 with _ | _ | _ | _ | _ | _ | k2
    · rcases c2 with _ | _ | c2
      · exact (pu_un (fun e => h ⟨rfl, e, rfl⟩)).symm
      · rfl
      · rfl
    all_goals rfl
theorem zc_beat (m : MS) (j : Nat) (x : Int32) : zr_c (zl_C m) 0 j 1 x = zl_C (MS.of m.day m.coins m.felts m.made m.worth m.rags m.water m.pulp (upd m.beat j x) m.sort m.nM m.mark m.size m.worn m.nT m.skill m.vat m.pair m.nQ m.allS m.pmark m.pgrade m.psheets m.loft) := by
  funext k2 j2 c2
  by_cases h : k2 = 0 ∧ j2 = j ∧ c2 = 1
  · obtain ⟨rfl, rfl, rfl⟩ := h
    rw [zc_eq]
    exact pu_up.symm
  · rw [zc_ne h]
    rcases k2 with _ | _ | _ | _ | _ | _ | k2
    · rcases c2 with _ | _ | c2
      · rfl
      · exact (pu_un (fun e => h ⟨rfl, e, rfl⟩)).symm
      · rfl
    all_goals rfl
theorem zc_worn (m : MS) (j : Nat) (x : Int32) : ∀ k2 j2 c2, c2 < zr_w k2 → zr_c (zl_C m) 1 j 2 x k2 j2 c2 = zl_C (MS.of m.day m.coins m.felts m.made m.worth m.rags m.water m.pulp m.beat m.sort m.nM m.mark m.size (upd m.worn j x) m.nT m.skill m.vat m.pair m.nQ m.allS m.pmark m.pgrade m.psheets m.loft) k2 j2 c2 := by
  intro k2 j2 c2 hc
  by_cases h : k2 = 1 ∧ j2 = j ∧ c2 = 2
  · obtain ⟨rfl, rfl, rfl⟩ := h
    rw [zc_eq]
    exact pu_up.symm
  · rw [zc_ne h]
    rcases k2 with _ | _ | _ | _ | _ | _ | k2
    · rfl
    · rcases c2 with _ | _ | _ | c2
      · rfl
      · rfl
      · exact (pu_un (fun e => h ⟨rfl, e, rfl⟩)).symm
      · exact absurd hc (by show ¬ (c2 + 1 + 1 + 1 < 3); omega)
    all_goals rfl
theorem zc_sort (m : MS) (j : Nat) (x : Int32) : ∀ k2 j2 c2, c2 < zr_w k2 → zr_c (zl_C m) 0 j 2 x k2 j2 c2 = zl_C (MS.of m.day m.coins m.felts m.made m.worth m.rags m.water m.pulp m.beat (upd m.sort j x) m.nM m.mark m.size m.worn m.nT m.skill m.vat m.pair m.nQ m.allS m.pmark m.pgrade m.psheets m.loft) k2 j2 c2 := by
  intro k2 j2 c2 hc
  by_cases h : k2 = 0 ∧ j2 = j ∧ c2 = 2
  · obtain ⟨rfl, rfl, rfl⟩ := h
    rw [zc_eq]
    exact pu_up.symm
  · rw [zc_ne h]
    rcases k2 with _ | _ | _ | _ | _ | _ | k2
    · rcases c2 with _ | _ | _ | c2
      · rfl
      · rfl
      · exact (pu_un (fun e => h ⟨rfl, e, rfl⟩)).symm
      · exact absurd hc (by show ¬ (c2 + 1 + 1 + 1 < 3); omega)
    all_goals rfl
/-! the vats with pulp, and the day's beat -/
def zl_cn (f : FN) : Nat → Nat → Nat
  | 0, _ => 0
  | d + 1, j => (if f j = nI 0 then 0 else 1) + zl_cn f d (j + 1)
theorem zl_cn_le (f : FN) : ∀ d j, zl_cn f d j ≤ d
  | 0, _ => Nat.le_refl _
  | d + 1, j => by
    have := zl_cn_le f d (j + 1)
    show (if f j = nI 0 then 0 else 1) + zl_cn f d (j + 1) ≤ d + 1
    split <;> omega
theorem zl_cn_pos (f : FN) : ∀ d j v, j ≤ v → v < j + d → f v ≠ nI 0 → 0 < zl_cn f d j
  | 0, j, v, h1, h2, _ => by omega
  | d + 1, j, v, h1, h2, h3 => by
    show 0 < (if f j = nI 0 then 0 else 1) + zl_cn f d (j + 1)
    by_cases c : v = j
    · subst c
      rw [if_neg h3]; omega
    · have := zl_cn_pos f d (j + 1) v (by omega) (by omega) h3
      omega
theorem pu_le0 {n : Nat} (h : n < 2147483648) : (nI n ≤ nI 0) ↔ nI n = nI 0 := by
  rw [pu_le h (by omega), pu_eq h (by omega)]
  omega
theorem zl_numC {p : FN} (hp : ∀ v, v < 4 → ∃ n, n ≤ 40 ∧ p v = nI n) : ∀ (d j c k : Nat), j + d = 4 → c ≤ j → d < k → fX4_numberWithPulp_L4 p k (nI c) (nI j) = some (nI (c + zl_cn p d j))
  | 0, j, c, k + 1, hj, hc, _ => by
    rw [fX4_numberWithPulp_L4, show (4 : Int32) = nI 4 from rfl, if_pos (by rw [pu_le (by omega) (by omega)]; omega)]
    rfl
  | d + 1, j, c, k + 1, hj, hc, hk => by
    obtain ⟨n, hn, e⟩ := hp j (by omega)
    rw [fX4_numberWithPulp_L4, show (4 : Int32) = nI 4 from rfl, if_neg (by rw [pu_le (by omega) (by omega)]; omega), pu_ck (by omega) (by omega), pu_tn (by omega), show (0 : Int32) = nI 0 from rfl, show (1 : Int32) = nI 1 from rfl, pu_add, pu_add]
    show _ = some (nI (c + ((if p j = nI 0 then 0 else 1) + zl_cn p d (j + 1))))
    have hle : p j ≤ nI 0 ↔ p j = nI 0 := by rw [e]; exact pu_le0 (by omega)
    have h4 := zl_cn_le p d (j + 1)
    by_cases c0 : p j = nI 0
    · rw [if_pos (hle.mpr c0), if_pos c0, zl_numC hp d (j + 1) c k (by omega) (by omega) (by omega), Nat.zero_add]
    · rw [if_neg (fun h => c0 (hle.mp h)), if_neg c0, zl_numC hp d (j + 1) (c + 1) k (by omega) (by omega) (by omega), Nat.add_assoc]
theorem zl_numS {m : MS} {N T Q : Nat} {F : Nat → Nat} {p : zs_H} {R : Nat → Nat → Nat} {K : Nat → Option zs_E} (H : zr p F (zl_z N T Q) R (zl_C m) K) (hp : ∀ v, v < 4 → ∃ n, n ≤ 40 ∧ m.pulp v = nI n) : ∀ (d j c k : Nat), j + d = 4 → c ≤ j → d < k → fLX6_pass_13 p (F 7) (nI 4) k (nI c) (nI j) = some (nI (c + zl_cn m.pulp d j))
  | 0, j, c, k + 1, hj, hc, _ => by
    rw [fLX6_pass_13, if_pos (by rw [pu_le (by omega) (by omega)]; omega)]
    rfl
  | d + 1, j, c, k + 1, hj, hc, hk => by
    obtain ⟨n, hn, e⟩ := hp j (by omega)
    have e1 : zs_ldr p (F 7) (nI j) = some (R 0 j) := zr_ldr H (k := 0) (by omega) (show j < 4 by omega) (show (4 : Nat) < 2147483648 by decide)
    have e2 : zs_ld p (R 0 j) 0 = some (m.pulp j) := zr_ld H (k := 0) (c := 0) (by omega) (show j < 4 by omega) (by decide)
    rw [fLX6_pass_13, if_neg (by rw [pu_le (by omega) (by omega)]; omega), e1, pu_bs, e2, pu_bs, show (0 : Int32) = nI 0 from rfl, show (1 : Int32) = nI 1 from rfl, pu_add]
    show _ = some (nI (c + ((if m.pulp j = nI 0 then 0 else 1) + zl_cn m.pulp d (j + 1))))
    have hle : m.pulp j ≤ nI 0 ↔ m.pulp j = nI 0 := by rw [e]; exact pu_le0 (by omega)
    by_cases c0 : m.pulp j = nI 0
    · rw [if_pos (hle.mpr c0), if_pos c0, pu_bs, pu_add, zl_numS H hp d (j + 1) (c + 0) k (by omega) (by omega) (by omega), Nat.zero_add, Nat.add_zero]
    · rw [if_neg (fun h => c0 (hle.mp h)), if_neg c0, pu_bs, pu_add, zl_numS H hp d (j + 1) (c + 1) k (by omega) (by omega) (by omega), Nat.add_assoc]
theorem zl_rise {N T Q : Nat} {F : Nat → Nat} {R : Nat → Nat → Nat} {K : Nat → Option zs_E} {G : FN} {c q dd : Nat} (hc : 0 < c) (hc4 : c ≤ 4) (hq : q ≤ 9) (hd : G 0 = nI dd) (hdd : dd < 1000000) : ∀ (d j k k' : Nat) (m : MS) (p : zs_H), zr p F (zl_z N T Q) R (zl_C m) K → (∀ v, v < 4 → ∃ n, n ≤ 40 ∧ m.pulp v = nI n) → (∀ v, v < 4 → ∃ n, n ≤ 99 ∧ m.beat v = nI n) → m.water (dd % 7) = nI q → j + d = 4 → d < k → d < k' →
    ∃ bt p2, fX4_beatAll_L19 m.pulp k m.beat (nI (3 * q / c)) (nI j) = some bt ∧ fLX6_pass_57 G F (nI c) (F 7) (nI 4) k' p (nI j) = some p2 ∧ zr p2 F (zl_z N T Q) R (zl_C (MS.of m.day m.coins m.felts m.made m.worth m.rags m.water m.pulp (bt) m.sort m.nM m.mark m.size m.worn m.nT m.skill m.vat m.pair m.nQ m.allS m.pmark m.pgrade m.psheets m.loft)) K ∧ ∀ v, bt v = if j ≤ v ∧ v < 4 ∧ m.pulp v ≠ nI 0 then nI (min 99 ((m.beat v).toNatClampNeg + 3 * q / c)) else m.beat v
  | 0, j, k + 1, k' + 1, m, p, H, _, _, _, hj, _, _ => by
    refine ⟨m.beat, p, ?_, ?_, H, fun v => ?_⟩
    · rw [fX4_beatAll_L19, show (4 : Int32) = nI 4 from rfl, if_pos (by rw [pu_le (by omega) (by omega)]; omega)]
    · rw [fLX6_pass_57, if_pos (by rw [pu_le (by omega) (by omega)]; omega)]
    · rw [if_neg (by omega)]
  | d + 1, j, k + 1, k' + 1, m, p, H, hp, hb, hw, hj, hk, hk' => by
    obtain ⟨n, hn, en⟩ := hp j (by omega)
    obtain ⟨x, hx, ex⟩ := hb j (by omega)
    have hq3 : 3 * q / c ≤ 27 := Nat.le_trans (Nat.div_le_self _ _) (by omega)
    have e1 : zs_ldr p (F 7) (nI j) = some (R 0 j) := zr_ldr H (k := 0) (by omega) (show j < 4 by omega) (show (4 : Nat) < 2147483648 by decide)
    have e2 : zs_ld p (R 0 j) 0 = some (m.pulp j) := zr_ld H (k := 0) (c := 0) (by omega) (show j < 4 by omega) (by decide)
    have e3 : zs_ld p (R 0 j) 1 = some (m.beat j) := zr_ld H (k := 0) (c := 1) (by omega) (show j < 4 by omega) (by decide)
    have e4 : zs_ld p (F 5) (nI (dd % 7)) = some (m.water (dd % 7)) := by
      have := zr_ld H (k := 6) (j := 0) (c := dd % 7) (by omega) (show 0 < 1 by omega) (show dd % 7 < 7 by omega)
      rw [(zr_F6 H).2.2.2] at this
      exact this
    have hle : m.pulp j ≤ nI 0 ↔ m.pulp j = nI 0 := by rw [en]; exact pu_le0 (by omega)
    have hn4 : ¬ nI 4 ≤ nI j := by rw [pu_le (by omega) (by omega)]; omega
    rw [fX4_beatAll_L19, fLX6_pass_57, show (4 : Int32) = nI 4 from rfl, if_neg hn4, if_neg hn4, pu_ck (by omega) (by omega), pu_tn (by omega), e1, pu_bs, e2, pu_bs, show (0 : Int32) = nI 0 from rfl, show (1 : Int32) = nI 1 from rfl, pu_add]
    by_cases c0 : m.pulp j = nI 0
    · rw [if_pos (hle.mpr c0), if_pos (hle.mpr c0), pu_bs]
      obtain ⟨bt, p2, a1, a2, a3, a4⟩ := zl_rise hc hc4 hq hd hdd d (j + 1) k k' m p H hp hb hw (by omega) (by omega) (by omega)
      refine ⟨bt, p2, a1, a2, a3, fun v => ?_⟩
      rw [a4 v]
      by_cases cv : v = j
      · subst cv
        rw [if_neg (by omega), if_neg (fun h => h.2.2 c0)]
      · by_cases h1 : j + 1 ≤ v ∧ v < 4 ∧ m.pulp v ≠ nI 0
        · rw [if_pos h1, if_pos ⟨by omega, h1.2⟩]
        · rw [if_neg h1, if_neg (fun h => h1 ⟨by omega, h.2⟩)]
    · have y0 : (if nI (x + 3 * q / c) < nI 99 then nI (x + 3 * q / c) else nI 99) = nI (min (x + 3 * q / c) 99) := pu_min (by omega) (by omega)
      obtain ⟨p1, s1, s2, s3⟩ := zr_st H (k := 0) (j := j) (c := 1) (v := nI (min (x + 3 * q / c) 99)) (by omega) (show j < 4 by omega) (by decide)
      rw [zc_beat] at s3
      obtain ⟨bt, p2, a1, a2, a3, a4⟩ := zl_rise hc hc4 hq hd hdd d (j + 1) k k' (MS.of m.day m.coins m.felts m.made m.worth m.rags m.water m.pulp (upd m.beat j (nI (min (x + 3 * q / c) 99))) m.sort m.nM m.mark m.size m.worn m.nT m.skill m.vat m.pair m.nQ m.allS m.pmark m.pgrade m.psheets m.loft) p1 s3 hp (fun v hv => by
        show ∃ n, n ≤ 99 ∧ upd m.beat j (nI (min (x + 3 * q / c) 99)) v = nI n
        by_cases cv : v = j
        · subst cv; rw [pu_up]; exact ⟨_, Nat.min_le_right _ _, rfl⟩
        · rw [pu_un cv]; exact hb v hv) hw (by omega) (by omega) (by omega)
      refine ⟨bt, p2, ?_, ?_, a3, fun v => ?_⟩
      · rw [if_neg (fun h => c0 (hle.mp h)), pu_ck (by omega) (by omega), pu_ck (by omega) (by omega), ex, pu_add, show (99 : Int32) = nI 99 from rfl, y0]
        exact a1
      · have s1' : zs_st p (R 0 j) (nI 1) (nI (min (x + 3 * q / c) 99)) = some p1 := s1
        rw [if_neg (fun h => c0 (hle.mp h)), show nI 1 = (1 : Int32) from rfl, e3, pu_bs, hd, show (7 : Int32) = nI 7 from rfl, pu_div (by omega) (by omega), pu_mul, pu_sub (by omega), show dd - dd / 7 * 7 = dd % 7 by omega, e4, pu_bs, hw, ex, pu_ckz hc (by omega), show (3 : Int32) = nI 3 from rfl, pu_mul, pu_div (by omega) (by omega), Nat.mul_comm q 3, pu_add, show (99 : Int32) = nI 99 from rfl, y0, show (1 : Int32) = nI 1 from rfl, s1', pu_bs, pu_bs]
        exact a2
      · rw [a4 v]
        show (if j + 1 ≤ v ∧ v < 4 ∧ m.pulp v ≠ nI 0 then nI (min 99 ((upd m.beat j (nI (min (x + 3 * q / c) 99)) v).toNatClampNeg + 3 * q / c)) else upd m.beat j (nI (min (x + 3 * q / c) 99)) v) = _
        by_cases cv : v = j
        · subst cv
          rw [if_neg (by omega), if_pos ⟨Nat.le_refl _, by omega, c0⟩, pu_up, ex, pu_tn (by omega), Nat.min_comm]
        · rw [pu_un cv]
          by_cases h1 : j + 1 ≤ v ∧ v < 4 ∧ m.pulp v ≠ nI 0
          · rw [if_pos h1, if_pos ⟨by omega, h1.2⟩]
          · rw [if_neg h1, if_neg (fun h => h1 ⟨by omega, h.2⟩)]
theorem zl_still {m : MS} {N T Q : Nat} {F : Nat → Nat} {p : zs_H} {R : Nat → Nat → Nat} {K : Nat → Option zs_E} {G : FN} (H : zr p F (zl_z N T Q) R (zl_C m) K) (hp : ∀ v, v < 4 → m.pulp v = nI 0) : ∀ (d j k : Nat), j + d = 4 → d < k → fLX6_pass_57 G F (nI 0) (F 7) (nI 4) k p (nI j) = some p
  | 0, j, k + 1, hj, _ => by
    rw [fLX6_pass_57, if_pos (by rw [pu_le (by omega) (by omega)]; omega)]
  | d + 1, j, k + 1, hj, hk => by
    have e1 : zs_ldr p (F 7) (nI j) = some (R 0 j) := zr_ldr H (k := 0) (by omega) (show j < 4 by omega) (show (4 : Nat) < 2147483648 by decide)
    have e2 : zs_ld p (R 0 j) 0 = some (m.pulp j) := zr_ld H (k := 0) (c := 0) (by omega) (show j < 4 by omega) (by decide)
    rw [fLX6_pass_57, if_neg (by rw [pu_le (by omega) (by omega)]; omega), e1, pu_bs, e2, pu_bs, hp j (by omega), if_pos (by decide), pu_bs, show (1 : Int32) = nI 1 from rfl, pu_add]
    exact zl_still H hp d (j + 1) k (by omega) (by omega)
/-- how the beat stands after the day's water -/
def zl_bt (m : MS) (q : Nat) (v : Nat) : Int32 := if v < 4 ∧ m.pulp v ≠ nI 0 then nI (min 99 ((m.beat v).toNatClampNeg + 3 * q / zl_cn m.pulp 4 0)) else m.beat v
theorem zl_beat {D N T F0 q : Nat} {l : List pz_PT} {m : MS} {G : FN} {F : Nat → Nat} {p : zs_H} {R : Nat → Nat → Nat} {K : Nat → Option zs_E} (C : CI D N T F0 l m) (H : SR m N T l.length G F p R K) (hD : D < 1000000) (hq : q ≤ 9) (hw : m.water (D % 7) = nI q) :
    ∃ bt p2, fX4_beatAll m.pulp m.beat (nI q) = some bt ∧ fLX6_pass_13 p (F 7) (nI 4) 300 0 0 = some (nI (zl_cn m.pulp 4 0)) ∧ fLX6_pass_57 G F (nI (zl_cn m.pulp 4 0)) (F 7) (nI 4) 300 p 0 = some p2 ∧ SR (MS.of m.day m.coins m.felts m.made m.worth m.rags m.water m.pulp (bt) m.sort m.nM m.mark m.size m.worn m.nT m.skill m.vat m.pair m.nQ m.allS m.pmark m.pgrade m.psheets m.loft) N T l.length G F p2 R K ∧ ∀ v, bt v = zl_bt m q v := by
  have hn1 := zl_numC C.pu 4 0 0 300 rfl (by omega) (by omega)
  have hn2 := zl_numS H.r C.pu 4 0 0 300 rfl (by omega) (by omega)
  have h4 := zl_cn_le m.pulp 4 0
  rw [Nat.zero_add] at hn1 hn2
  unfold fX4_beatAll fX4_numberWithPulp
  rw [show (0 : Int32) = nI 0 from rfl, hn1, pu_bs]
  by_cases c : zl_cn m.pulp 4 0 = 0
  · have h0 : ∀ v, v < 4 → m.pulp v = nI 0 := fun v hv => by
      refine Classical.byContradiction fun hne => ?_
      have := zl_cn_pos m.pulp 4 0 v (by omega) (by omega) hne
      omega
    rw [if_pos (by rw [c])]
    refine ⟨m.beat, p, rfl, hn2, ?_, H, fun v => ?_⟩
    · rw [c]
      exact zl_still H.r h0 4 0 300 rfl (by omega)
    · unfold zl_bt
      rw [if_neg (fun h => h.2 (h0 v h.1))]
  · have hd : G 0 = nI D := by rw [H.g0, C.day]
    obtain ⟨bt, p2, a1, a2, a3, a4⟩ := zl_rise (c := zl_cn m.pulp 4 0) (q := q) (dd := D) (by omega) h4 hq hd hD 4 0 300 300 m p H.r C.pu C.be hw rfl (by omega) (by omega)
    refine ⟨bt, p2, ?_, hn2, a2, ⟨H.g0, H.g1, H.g2, H.g3, H.g4, a3⟩, fun v => ?_⟩
    · rw [if_neg (by rw [pu_eq (by omega) (by omega)]; exact c), show (3 : Int32) = nI 3 from rfl, pu_ckz (by omega) (by omega), pu_mul, pu_div (by omega) (by omega)]
      exact a1
    · rw [a4 v]
      unfold zl_bt
      by_cases h : v < 4 ∧ m.pulp v ≠ nI 0
      · rw [if_pos ⟨by omega, h⟩, if_pos h]
      · rw [if_neg (fun h2 => h h2.2), if_neg h]
