/-! one place of a table changed: the class's row changed -/
theorem zc_ne {C : Nat → Nat → Nat → Int32} {k j c k2 j2 c2 : Nat} {v : Int32} (h : ¬ (k2 = k ∧ j2 = j ∧ c2 = c)) : zr_c C k j c v k2 j2 c2 = C k2 j2 c2 := if_neg h
theorem zc_eq {C : Nat → Nat → Nat → Int32} {k j c : Nat} {v : Int32} : zr_c C k j c v k j c = v := if_pos ⟨rfl, rfl, rfl⟩
theorem zc_pulp (m : MS) (j : Nat) (x : Int32) : zr_c (zl_C m) 0 j 0 x = zl_C (MS.of m.day m.coins m.felts m.made m.worth m.rags m.water (upd m.pulp j x) m.beat m.sort m.nM m.mark m.size m.worn m.nT m.skill m.vat m.pair m.nQ m.allS m.pmark m.pgrade m.psheets m.loft) := by
  funext k2 j2 c2
  by_cases h : k2 = 0 ∧ j2 = j ∧ c2 = 0
  · obtain ⟨rfl, rfl, rfl⟩ := h
    rw [zc_eq]
    exact pu_up.symm
  · rw [zc_ne h]
    rcases k2 with _ | _ | _ | _ | _ | _ | k2
    · rcases c2 with _ | _ | c2
      · exact (pu_un (fun e => h ⟨rfl, e, rfl⟩)).symm
      · rfl
      · rfl
    all_goals rfl
theorem zc_beat (m : MS) (j : Nat) (x : Int32) : zr_c (zl_C m) 0 j 1 x = zl_C (MS.of m.day m.coins m.felts m.made m.worth m.rags m.water m.pulp (upd m.beat j x) m.sort m.nM m.mark m.size m.worn m.nT m.skill m.vat m.pair m.nQ m.allS m.pmark m.pgrade m.psheets m.loft) := by
  funext k2 j2 c2
  by_cases h : k2 = 0 ∧ j2 = j ∧ c2 = 1
  · obtain ⟨rfl, rfl, rfl⟩ := h
    rw [zc_eq]
    exact pu_up.symm
  · rw [zc_ne h]
    rcases k2 with _ | _ | _ | _ | _ | _ | k2
    · rcases c2 with _ | _ | c2
      · rfl
      · exact (pu_un (fun e => h ⟨rfl, e, rfl⟩)).symm
      · rfl
    all_goals rfl
theorem zc_worn (m : MS) (j : Nat) (x : Int32) : ∀ k2 j2 c2, c2 < 3 → zr_c (zl_C m) 1 j 2 x k2 j2 c2 = zl_C (MS.of m.day m.coins m.felts m.made m.worth m.rags m.water m.pulp m.beat m.sort m.nM m.mark m.size (upd m.worn j x) m.nT m.skill m.vat m.pair m.nQ m.allS m.pmark m.pgrade m.psheets m.loft) k2 j2 c2 := by
  intro k2 j2 c2 hc
  by_cases h : k2 = 1 ∧ j2 = j ∧ c2 = 2
  · obtain ⟨rfl, rfl, rfl⟩ := h
    rw [zc_eq]
    exact pu_up.symm
  · rw [zc_ne h]
    rcases k2 with _ | _ | _ | _ | _ | _ | k2
    · rfl
    · rcases c2 with _ | _ | _ | c2
      · rfl
      · rfl
      · exact (pu_un (fun e => h ⟨rfl, e, rfl⟩)).symm
      · omega
    all_goals rfl
theorem zc_sort (m : MS) (j : Nat) (x : Int32) : ∀ k2 j2 c2, c2 < 3 → zr_c (zl_C m) 0 j 2 x k2 j2 c2 = zl_C (MS.of m.day m.coins m.felts m.made m.worth m.rags m.water m.pulp m.beat (upd m.sort j x) m.nM m.mark m.size m.worn m.nT m.skill m.vat m.pair m.nQ m.allS m.pmark m.pgrade m.psheets m.loft) k2 j2 c2 := by
  intro k2 j2 c2 hc
  by_cases h : k2 = 0 ∧ j2 = j ∧ c2 = 2
  · obtain ⟨rfl, rfl, rfl⟩ := h
    rw [zc_eq]
    exact pu_up.symm
  · rw [zc_ne h]
    rcases k2 with _ | _ | _ | _ | _ | _ | k2
    · rcases c2 with _ | _ | _ | c2
      · rfl
      · rfl
      · exact (pu_un (fun e => h ⟨rfl, e, rfl⟩)).symm
      · omega
    all_goals rfl
/-! the vats with pulp, and the day's beat -/
def zl_cn (f : FN) : Nat → Nat → Nat
  | 0, _ => 0
  | d + 1, j => (if f j = nI 0 then 0 else 1) + zl_cn f d (j + 1)
theorem zl_cn_le (f : FN) : ∀ d j, zl_cn f d j ≤ d
  | 0, _ => Nat.le_refl _
  | d + 1, j => by
    have := zl_cn_le f d (j + 1)
    show (if f j = nI 0 then 0 else 1) + zl_cn f d (j + 1) ≤ d + 1
    split <;> omega
theorem zl_cn_pos (f : FN) : ∀ d j v, j ≤ v → v < j + d → f v ≠ nI 0 → 0 < zl_cn f d j
  | 0, j, v, h1, h2, _ => by omega
  | d + 1, j, v, h1, h2, h3 => by
    show 0 < (if f j = nI 0 then 0 else 1) + zl_cn f d (j + 1)
    by_cases c : v = j
    · subst c
      rw [if_neg h3]; omega
    · have := zl_cn_pos f d (j + 1) v (by omega) (by omega) h3
      omega
theorem pu_le0 {n : Nat} (h : n < 2147483648) : (nI n ≤ nI 0) ↔ nI n = nI 0 := by
  rw [pu_le h (by omega), pu_eq h (by omega)]
  omega
theorem zl_numC {p : FN} (hp : ∀ v, v < 4 → ∃ n, n ≤ 40 ∧ p v = nI n) : ∀ (d j c k : Nat), j + d = 4 → c ≤ j → d < k → fX4_numberWithPulp_L4 p k (nI c) (nI j) = some (nI (c + zl_cn p d j))
  | 0, j, c, k + 1, hj, hc, _ => by
    rw [fX4_numberWithPulp_L4, show (4 : Int32) = nI 4 from rfl, if_pos (by rw [pu_le (by omega) (by omega)]; omega)]
    rfl
  | d + 1, j, c, k + 1, hj, hc, hk => by
    obtain ⟨n, hn, e⟩ := hp j (by omega)
    rw [fX4_numberWithPulp_L4, show (4 : Int32) = nI 4 from rfl, if_neg (by rw [pu_le (by omega) (by omega)]; omega), pu_ck (by omega) (by omega), pu_tn (by omega), show (0 : Int32) = nI 0 from rfl, show (1 : Int32) = nI 1 from rfl, pu_add, pu_add]
    show _ = some (nI (c + ((if p j = nI 0 then 0 else 1) + zl_cn p d (j + 1))))
    have hle : p j ≤ nI 0 ↔ p j = nI 0 := by rw [e]; exact pu_le0 (by omega)
    have h4 := zl_cn_le p d (j + 1)
    by_cases c0 : p j = nI 0
    · rw [if_pos (hle.mpr c0), if_pos c0, zl_numC hp d (j + 1) c k (by omega) (by omega) (by omega), Nat.zero_add]
    · rw [if_neg (fun h => c0 (hle.mp h)), if_neg c0, zl_numC hp d (j + 1) (c + 1) k (by omega) (by omega) (by omega), Nat.add_assoc]
theorem zl_numS {m : MS} {N T Q : Nat} {F : Nat → Nat} {p : zs_H} {R : Nat → Nat → Nat} {K : Nat → Option zs_E} (H : zr p F (zl_z N T Q) R (zl_C m) K) (hp : ∀ v, v < 4 → ∃ n, n ≤ 40 ∧ m.pulp v = nI n) : ∀ (d j c k : Nat), j + d = 4 → c ≤ j → d < k → fLX6_pass_13 p (F 7) (nI 4) k (nI c) (nI j) = some (nI (c + zl_cn m.pulp d j))
  | 0, j, c, k + 1, hj, hc, _ => by
    rw [fLX6_pass_13, if_pos (by rw [pu_le (by omega) (by omega)]; omega)]
    rfl
  | d + 1, j, c, k + 1, hj, hc, hk => by
    obtain ⟨n, hn, e⟩ := hp j (by omega)
    have e1 : zs_ldr p (F 7) (nI j) = some (R 0 j) := zr_ldr H (k := 0) (by omega) (show j < 4 by omega) (by decide)
    have e2 : zs_ld p (R 0 j) 0 = some (m.pulp j) := zr_ld H (k := 0) (c := 0) (by omega) (show j < 4 by omega) (by decide)
    rw [fLX6_pass_13, if_neg (by rw [pu_le (by omega) (by omega)]; omega), e1, pu_bs, e2, pu_bs, show (0 : Int32) = nI 0 from rfl, show (1 : Int32) = nI 1 from rfl, pu_add]
    show _ = some (nI (c + ((if m.pulp j = nI 0 then 0 else 1) + zl_cn m.pulp d (j + 1))))
    have hle : m.pulp j ≤ nI 0 ↔ m.pulp j = nI 0 := by rw [e]; exact pu_le0 (by omega)
    by_cases c0 : m.pulp j = nI 0
    · rw [if_pos (hle.mpr c0), if_pos c0, pu_bs, pu_add, zl_numS H hp d (j + 1) (c + 0) k (by omega) (by omega) (by omega), Nat.zero_add, Nat.add_zero]
    · rw [if_neg (fun h => c0 (hle.mp h)), if_neg c0, pu_bs, pu_add, zl_numS H hp d (j + 1) (c + 1) k (by omega) (by omega) (by omega), Nat.add_assoc]
