/-! the start -/
def zl_iO (q : Nat) : Option zr_T := if 21 ≤ q then none else if q = 0 then some (.inl (6, 0)) else if q = 1 then some (.inl (5, 0)) else if q = 2 then some (.inr (.inl 0)) else if q = 3 then some (.inl (0, 0)) else if q = 4 then some (.inl (0, 1)) else if q = 5 then some (.inl (0, 2)) else if q = 6 then some (.inl (0, 3)) else if q = 7 then some (.inr (.inl 1)) else if q = 8 then some (.inr (.inl 2)) else if q = 9 then some (.inr (.inl 3)) else if q = 10 then some (.inr (.inl 4)) else if q = 11 then some (.inl (4, 0)) else if q = 12 then some (.inl (4, 1)) else if q = 13 then some (.inl (4, 2)) else if q = 14 then some (.inl (4, 3)) else if q = 15 then some (.inl (4, 4)) else if q = 16 then some (.inl (4, 5)) else if q = 17 then some (.inl (4, 6)) else if q = 18 then some (.inl (4, 7)) else if q = 19 then some (.inl (4, 8)) else if q = 20 then some (.inl (4, 9)) else none
def zl_iR (k j : Nat) : Nat := if k = 0 then 3 + j else if k = 4 then 11 + j else if k = 5 then 1 else 0
theorem zl_init0 : ∃ z : (Nat → Nat) × zs_H, fX6_init = some z ∧ z.2.1 = 21 ∧ (z.1 5 = 0 ∧ z.1 6 = 1 ∧ z.1 7 = 2 ∧ z.1 8 = 7 ∧ z.1 9 = 8 ∧ z.1 10 = 9 ∧ z.1 11 = 10) ∧ (∃ f, z.2.2 0 = .inl (7, f) ∧ f 0 = 4 ∧ f 1 = 4 ∧ f 2 = 4 ∧ f 3 = 4 ∧ f 4 = 4 ∧ f 5 = 4 ∧ f 6 = 4) ∧ (∃ f, z.2.2 1 = .inl (3, f) ∧ f 0 = 60 ∧ f 1 = 60 ∧ f 2 = 60) ∧ (∃ g, z.2.2 2 = .inr (4, g) ∧ g 0 = some 3 ∧ g 1 = some 4 ∧ g 2 = some 5 ∧ g 3 = some 6) ∧ (∃ f, z.2.2 3 = .inl (3, f) ∧ f 0 = 0 ∧ f 1 = 0 ∧ f 2 = -1) ∧ (∃ f, z.2.2 4 = .inl (3, f) ∧ f 0 = 0 ∧ f 1 = 0 ∧ f 2 = -1) ∧ (∃ f, z.2.2 5 = .inl (3, f) ∧ f 0 = 0 ∧ f 1 = 0 ∧ f 2 = -1) ∧ (∃ f, z.2.2 6 = .inl (3, f) ∧ f 0 = 0 ∧ f 1 = 0 ∧ f 2 = -1) ∧ (∃ g, z.2.2 7 = .inr (0, g)) ∧ (∃ g, z.2.2 8 = .inr (0, g)) ∧ (∃ g, z.2.2 9 = .inr (0, g)) ∧ (∃ g, z.2.2 10 = .inr (10, g) ∧ g 0 = some 11 ∧ g 1 = some 12 ∧ g 2 = some 13 ∧ g 3 = some 14 ∧ g 4 = some 15 ∧ g 5 = some 16 ∧ g 6 = some 17 ∧ g 7 = some 18 ∧ g 8 = some 19 ∧ g 9 = some 20) ∧ (∃ f, z.2.2 11 = .inl (3, f) ∧ f 0 = 0 ∧ f 1 = 0 ∧ f 2 = 0) ∧ (∃ f, z.2.2 12 = .inl (3, f) ∧ f 0 = 0 ∧ f 1 = 0 ∧ f 2 = 0) ∧ (∃ f, z.2.2 13 = .inl (3, f) ∧ f 0 = 0 ∧ f 1 = 0 ∧ f 2 = 0) ∧ (∃ f, z.2.2 14 = .inl (3, f) ∧ f 0 = 0 ∧ f 1 = 0 ∧ f 2 = 0) ∧ (∃ f, z.2.2 15 = .inl (3, f) ∧ f 0 = 0 ∧ f 1 = 0 ∧ f 2 = 0) ∧ (∃ f, z.2.2 16 = .inl (3, f) ∧ f 0 = 0 ∧ f 1 = 0 ∧ f 2 = 0) ∧ (∃ f, z.2.2 17 = .inl (3, f) ∧ f 0 = 0 ∧ f 1 = 0 ∧ f 2 = 0) ∧ (∃ f, z.2.2 18 = .inl (3, f) ∧ f 0 = 0 ∧ f 1 = 0 ∧ f 2 = 0) ∧ (∃ f, z.2.2 19 = .inl (3, f) ∧ f 0 = 0 ∧ f 1 = 0 ∧ f 2 = 0) ∧ (∃ f, z.2.2 20 = .inl (3, f) ∧ f 0 = 0 ∧ f 1 = 0 ∧ f 2 = 0) := by
  refine ⟨_, rfl, rfl, ⟨rfl, rfl, rfl, rfl, rfl, rfl, rfl⟩, ⟨_, rfl, rfl, rfl, rfl, rfl, rfl, rfl, rfl⟩, ⟨_, rfl, rfl, rfl, rfl⟩, ⟨_, rfl, rfl, rfl, rfl, rfl⟩, ⟨_, rfl, rfl, rfl, rfl⟩, ⟨_, rfl, rfl, rfl, rfl⟩, ⟨_, rfl, rfl, rfl, rfl⟩, ⟨_, rfl, rfl, rfl, rfl⟩, ⟨_, rfl⟩, ⟨_, rfl⟩, ⟨_, rfl⟩, ⟨_, rfl, rfl, rfl, rfl, rfl, rfl, rfl, rfl, rfl, rfl, rfl⟩, ⟨_, rfl, rfl, rfl, rfl⟩, ⟨_, rfl, rfl, rfl, rfl⟩, ⟨_, rfl, rfl, rfl, rfl⟩, ⟨_, rfl, rfl, rfl, rfl⟩, ⟨_, rfl, rfl, rfl, rfl⟩, ⟨_, rfl, rfl, rfl, rfl⟩, ⟨_, rfl, rfl, rfl, rfl⟩, ⟨_, rfl, rfl, rfl, rfl⟩, ⟨_, rfl, rfl, rfl, rfl⟩, ⟨_, rfl, rfl, rfl, rfl⟩⟩
theorem zl_initR : ∃ z : (Nat → Nat) × zs_H, fX6_init = some z ∧ zr z.2 z.1 (zl_z 0 0 0) zl_iR (zl_C zx_0.1) zr_e := by
  obtain ⟨z, ez, hz, ⟨k5, k6, k7, k8, k9, k10, k11⟩, ⟨f0, e0, v0_0, v0_1, v0_2, v0_3, v0_4, v0_5, v0_6⟩, ⟨f1, e1, v1_0, v1_1, v1_2⟩, ⟨f2, e2, v2_0, v2_1, v2_2, v2_3⟩, ⟨f3, e3, v3_0, v3_1, v3_2⟩, ⟨f4, e4, v4_0, v4_1, v4_2⟩, ⟨f5, e5, v5_0, v5_1, v5_2⟩, ⟨f6, e6, v6_0, v6_1, v6_2⟩, ⟨f7, e7⟩, ⟨f8, e8⟩, ⟨f9, e9⟩, ⟨f10, e10, v10_0, v10_1, v10_2, v10_3, v10_4, v10_5, v10_6, v10_7, v10_8, v10_9⟩, ⟨f11, e11, v11_0, v11_1, v11_2⟩, ⟨f12, e12, v12_0, v12_1, v12_2⟩, ⟨f13, e13, v13_0, v13_1, v13_2⟩, ⟨f14, e14, v14_0, v14_1, v14_2⟩, ⟨f15, e15, v15_0, v15_1, v15_2⟩, ⟨f16, e16, v16_0, v16_1, v16_2⟩, ⟨f17, e17, v17_0, v17_1, v17_2⟩, ⟨f18, e18, v18_0, v18_1, v18_2⟩, ⟨f19, e19, v19_0, v19_1, v19_2⟩, ⟨f20, e20, v20_0, v20_1, v20_2⟩⟩ := zl_init0
  refine ⟨z, ez, zl_iO, fun q t h => ?_, fun k j hk hj => ?_, fun k hk => ?_, fun q k j h => ?_, fun q k h => ?_, fun q e h => zr_eN h, rfl, rfl, k6.symm, k5.symm⟩
  · rcases (show q = 0 ∨ q = 1 ∨ q = 2 ∨ q = 3 ∨ q = 4 ∨ q = 5 ∨ q = 6 ∨ q = 7 ∨ q = 8 ∨ q = 9 ∨ q = 10 ∨ q = 11 ∨ q = 12 ∨ q = 13 ∨ q = 14 ∨ q = 15 ∨ q = 16 ∨ q = 17 ∨ q = 18 ∨ q = 19 ∨ q = 20 ∨ 21 ≤ q by omega) with rfl | rfl | rfl | rfl | rfl | rfl | rfl | rfl | rfl | rfl | rfl | rfl | rfl | rfl | rfl | rfl | rfl | rfl | rfl | rfl | rfl | hq
    · have h2 : (some (.inl (6, 0)) : Option zr_T) = some t := h
      cases h2
      refine ⟨by omega, f0, e0, fun c hc => ?_⟩
      rcases c with _ | _ | _ | _ | _ | _ | _ | c
      · exact v0_0
      · exact v0_1
      · exact v0_2
      · exact v0_3
      · exact v0_4
      · exact v0_5
      · exact v0_6
      · exact absurd hc (by show ¬ (c + 1 + 1 + 1 + 1 + 1 + 1 + 1 < 7); omega)
    · have h2 : (some (.inl (5, 0)) : Option zr_T) = some t := h
      cases h2
      refine ⟨by omega, f1, e1, fun c hc => ?_⟩
      rcases c with _ | _ | _ | c
      · exact v1_0
      · exact v1_1
      · exact v1_2
      · exact absurd hc (by show ¬ (c + 1 + 1 + 1 < 3); omega)
    · have h2 : (some (.inr (.inl 0)) : Option zr_T) = some t := h
      cases h2
      refine ⟨by omega, f2, e2, fun j hj => ?_⟩
      rcases j with _ | _ | _ | _ | j
      · exact v2_0
      · exact v2_1
      · exact v2_2
      · exact v2_3
      · exact absurd hj (by show ¬ (j + 1 + 1 + 1 + 1 < 4); omega)
    · have h2 : (some (.inl (0, 0)) : Option zr_T) = some t := h
      cases h2
      refine ⟨by omega, f3, e3, fun c hc => ?_⟩
      rcases c with _ | _ | _ | c
      · exact v3_0
      · exact v3_1
      · exact v3_2
      · exact absurd hc (by show ¬ (c + 1 + 1 + 1 < 3); omega)
    · have h2 : (some (.inl (0, 1)) : Option zr_T) = some t := h
      cases h2
      refine ⟨by omega, f4, e4, fun c hc => ?_⟩
      rcases c with _ | _ | _ | c
      · exact v4_0
      · exact v4_1
      · exact v4_2
      · exact absurd hc (by show ¬ (c + 1 + 1 + 1 < 3); omega)
    · have h2 : (some (.inl (0, 2)) : Option zr_T) = some t := h
      cases h2
      refine ⟨by omega, f5, e5, fun c hc => ?_⟩
      rcases c with _ | _ | _ | c
      · exact v5_0
      · exact v5_1
      · exact v5_2
      · exact absurd hc (by show ¬ (c + 1 + 1 + 1 < 3); omega)
    · have h2 : (some (.inl (0, 3)) : Option zr_T) = some t := h
      cases h2
      refine ⟨by omega, f6, e6, fun c hc => ?_⟩
      rcases c with _ | _ | _ | c
      · exact v6_0
      · exact v6_1
      · exact v6_2
      · exact absurd hc (by show ¬ (c + 1 + 1 + 1 < 3); omega)
    · have h2 : (some (.inr (.inl 1)) : Option zr_T) = some t := h
      cases h2
      refine ⟨by omega, f7, e7, fun j hj => ?_⟩
      exact absurd hj (Nat.not_lt_zero j)
    · have h2 : (some (.inr (.inl 2)) : Option zr_T) = some t := h
      cases h2
      refine ⟨by omega, f8, e8, fun j hj => ?_⟩
      exact absurd hj (Nat.not_lt_zero j)
    · have h2 : (some (.inr (.inl 3)) : Option zr_T) = some t := h
      cases h2
      refine ⟨by omega, f9, e9, fun j hj => ?_⟩
      exact absurd hj (Nat.not_lt_zero j)
    · have h2 : (some (.inr (.inl 4)) : Option zr_T) = some t := h
      cases h2
      refine ⟨by omega, f10, e10, fun j hj => ?_⟩
      rcases j with _ | _ | _ | _ | _ | _ | _ | _ | _ | _ | j
      · exact v10_0
      · exact v10_1
      · exact v10_2
      · exact v10_3
      · exact v10_4
      · exact v10_5
      · exact v10_6
      · exact v10_7
      · exact v10_8
      · exact v10_9
      · exact absurd hj (by show ¬ (j + 1 + 1 + 1 + 1 + 1 + 1 + 1 + 1 + 1 + 1 < 10); omega)
    · have h2 : (some (.inl (4, 0)) : Option zr_T) = some t := h
      cases h2
      refine ⟨by omega, f11, e11, fun c hc => ?_⟩
      rcases c with _ | _ | _ | c
      · exact v11_0
      · exact v11_1
      · exact v11_2
      · exact absurd hc (by show ¬ (c + 1 + 1 + 1 < 3); omega)
    · have h2 : (some (.inl (4, 1)) : Option zr_T) = some t := h
      cases h2
      refine ⟨by omega, f12, e12, fun c hc => ?_⟩
      rcases c with _ | _ | _ | c
      · exact v12_0
      · exact v12_1
      · exact v12_2
      · exact absurd hc (by show ¬ (c + 1 + 1 + 1 < 3); omega)
    · have h2 : (some (.inl (4, 2)) : Option zr_T) = some t := h
      cases h2
      refine ⟨by omega, f13, e13, fun c hc => ?_⟩
      rcases c with _ | _ | _ | c
      · exact v13_0
      · exact v13_1
      · exact v13_2
      · exact absurd hc (by show ¬ (c + 1 + 1 + 1 < 3); omega)
    · have h2 : (some (.inl (4, 3)) : Option zr_T) = some t := h
      cases h2
      refine ⟨by omega, f14, e14, fun c hc => ?_⟩
      rcases c with _ | _ | _ | c
      · exact v14_0
      · exact v14_1
      · exact v14_2
      · exact absurd hc (by show ¬ (c + 1 + 1 + 1 < 3); omega)
    · have h2 : (some (.inl (4, 4)) : Option zr_T) = some t := h
      cases h2
      refine ⟨by omega, f15, e15, fun c hc => ?_⟩
      rcases c with _ | _ | _ | c
      · exact v15_0
      · exact v15_1
      · exact v15_2
      · exact absurd hc (by show ¬ (c + 1 + 1 + 1 < 3); omega)
    · have h2 : (some (.inl (4, 5)) : Option zr_T) = some t := h
      cases h2
      refine ⟨by omega, f16, e16, fun c hc => ?_⟩
      rcases c with _ | _ | _ | c
      · exact v16_0
      · exact v16_1
      · exact v16_2
      · exact absurd hc (by show ¬ (c + 1 + 1 + 1 < 3); omega)
    · have h2 : (some (.inl (4, 6)) : Option zr_T) = some t := h
      cases h2
      refine ⟨by omega, f17, e17, fun c hc => ?_⟩
      rcases c with _ | _ | _ | c
      · exact v17_0
      · exact v17_1
      · exact v17_2
      · exact absurd hc (by show ¬ (c + 1 + 1 + 1 < 3); omega)
    · have h2 : (some (.inl (4, 7)) : Option zr_T) = some t := h
      cases h2
      refine ⟨by omega, f18, e18, fun c hc => ?_⟩
      rcases c with _ | _ | _ | c
      · exact v18_0
      · exact v18_1
      · exact v18_2
      · exact absurd hc (by show ¬ (c + 1 + 1 + 1 < 3); omega)
    · have h2 : (some (.inl (4, 8)) : Option zr_T) = some t := h
      cases h2
      refine ⟨by omega, f19, e19, fun c hc => ?_⟩
      rcases c with _ | _ | _ | c
      · exact v19_0
      · exact v19_1
      · exact v19_2
      · exact absurd hc (by show ¬ (c + 1 + 1 + 1 < 3); omega)
    · have h2 : (some (.inl (4, 9)) : Option zr_T) = some t := h
      cases h2
      refine ⟨by omega, f20, e20, fun c hc => ?_⟩
      rcases c with _ | _ | _ | c
      · exact v20_0
      · exact v20_1
      · exact v20_2
      · exact absurd hc (by show ¬ (c + 1 + 1 + 1 < 3); omega)
    · rw [show zl_iO q = none from if_pos hq] at h
      cases h
  · rcases k with _ | _ | _ | _ | _ | _ | _ | k
    · rcases j with _ | _ | _ | _ | j
      · rfl
      · rfl
      · rfl
      · rfl
      · exact absurd hj (by show ¬ (j + 1 + 1 + 1 + 1 < 4); omega)
    · exact absurd hj (Nat.not_lt_zero j)
    · exact absurd hj (Nat.not_lt_zero j)
    · exact absurd hj (Nat.not_lt_zero j)
    · rcases j with _ | _ | _ | _ | _ | _ | _ | _ | _ | _ | j
      · rfl
      · rfl
      · rfl
      · rfl
      · rfl
      · rfl
      · rfl
      · rfl
      · rfl
      · rfl
      · exact absurd hj (by show ¬ (j + 1 + 1 + 1 + 1 + 1 + 1 + 1 + 1 + 1 + 1 < 10); omega)
    · rcases j with _ | j
      · rfl
      · exact absurd hj (by show ¬ (j + 1 < 1); omega)
    · rcases j with _ | j
      · rfl
      · exact absurd hj (by show ¬ (j + 1 < 1); omega)
    · exact absurd hk (by omega)
  · rcases k with _ | _ | _ | _ | _ | k
    · show zl_iO (z.1 7) = _
      rw [k7]
      rfl
    · show zl_iO (z.1 8) = _
      rw [k8]
      rfl
    · show zl_iO (z.1 9) = _
      rw [k9]
      rfl
    · show zl_iO (z.1 10) = _
      rw [k10]
      rfl
    · show zl_iO (z.1 11) = _
      rw [k11]
      rfl
    · exact absurd hk (by omega)
  · rcases (show q = 0 ∨ q = 1 ∨ q = 2 ∨ q = 3 ∨ q = 4 ∨ q = 5 ∨ q = 6 ∨ q = 7 ∨ q = 8 ∨ q = 9 ∨ q = 10 ∨ q = 11 ∨ q = 12 ∨ q = 13 ∨ q = 14 ∨ q = 15 ∨ q = 16 ∨ q = 17 ∨ q = 18 ∨ q = 19 ∨ q = 20 ∨ 21 ≤ q by omega) with rfl | rfl | rfl | rfl | rfl | rfl | rfl | rfl | rfl | rfl | rfl | rfl | rfl | rfl | rfl | rfl | rfl | rfl | rfl | rfl | rfl | hq
    · have h2 : (some (.inl (6, 0)) : Option zr_T) = some (.inl (k, j)) := h
      cases h2
      exact ⟨by decide, by decide, rfl⟩
    · have h2 : (some (.inl (5, 0)) : Option zr_T) = some (.inl (k, j)) := h
      cases h2
      exact ⟨by decide, by decide, rfl⟩
    · have h2 : (some (.inr (.inl 0)) : Option zr_T) = some (.inl (k, j)) := h
      cases h2
    · have h2 : (some (.inl (0, 0)) : Option zr_T) = some (.inl (k, j)) := h
      cases h2
      exact ⟨by decide, by decide, rfl⟩
    · have h2 : (some (.inl (0, 1)) : Option zr_T) = some (.inl (k, j)) := h
      cases h2
      exact ⟨by decide, by decide, rfl⟩
    · have h2 : (some (.inl (0, 2)) : Option zr_T) = some (.inl (k, j)) := h
      cases h2
      exact ⟨by decide, by decide, rfl⟩
    · have h2 : (some (.inl (0, 3)) : Option zr_T) = some (.inl (k, j)) := h
      cases h2
      exact ⟨by decide, by decide, rfl⟩
    · have h2 : (some (.inr (.inl 1)) : Option zr_T) = some (.inl (k, j)) := h
      cases h2
    · have h2 : (some (.inr (.inl 2)) : Option zr_T) = some (.inl (k, j)) := h
      cases h2
    · have h2 : (some (.inr (.inl 3)) : Option zr_T) = some (.inl (k, j)) := h
      cases h2
    · have h2 : (some (.inr (.inl 4)) : Option zr_T) = some (.inl (k, j)) := h
      cases h2
    · have h2 : (some (.inl (4, 0)) : Option zr_T) = some (.inl (k, j)) := h
      cases h2
      exact ⟨by decide, by decide, rfl⟩
    · have h2 : (some (.inl (4, 1)) : Option zr_T) = some (.inl (k, j)) := h
      cases h2
      exact ⟨by decide, by decide, rfl⟩
    · have h2 : (some (.inl (4, 2)) : Option zr_T) = some (.inl (k, j)) := h
      cases h2
      exact ⟨by decide, by decide, rfl⟩
    · have h2 : (some (.inl (4, 3)) : Option zr_T) = some (.inl (k, j)) := h
      cases h2
      exact ⟨by decide, by decide, rfl⟩
    · have h2 : (some (.inl (4, 4)) : Option zr_T) = some (.inl (k, j)) := h
      cases h2
      exact ⟨by decide, by decide, rfl⟩
    · have h2 : (some (.inl (4, 5)) : Option zr_T) = some (.inl (k, j)) := h
      cases h2
      exact ⟨by decide, by decide, rfl⟩
    · have h2 : (some (.inl (4, 6)) : Option zr_T) = some (.inl (k, j)) := h
      cases h2
      exact ⟨by decide, by decide, rfl⟩
    · have h2 : (some (.inl (4, 7)) : Option zr_T) = some (.inl (k, j)) := h
      cases h2
      exact ⟨by decide, by decide, rfl⟩
    · have h2 : (some (.inl (4, 8)) : Option zr_T) = some (.inl (k, j)) := h
      cases h2
      exact ⟨by decide, by decide, rfl⟩
    · have h2 : (some (.inl (4, 9)) : Option zr_T) = some (.inl (k, j)) := h
      cases h2
      exact ⟨by decide, by decide, rfl⟩
    · rw [show zl_iO q = none from if_pos hq] at h
      cases h
  · rcases (show q = 0 ∨ q = 1 ∨ q = 2 ∨ q = 3 ∨ q = 4 ∨ q = 5 ∨ q = 6 ∨ q = 7 ∨ q = 8 ∨ q = 9 ∨ q = 10 ∨ q = 11 ∨ q = 12 ∨ q = 13 ∨ q = 14 ∨ q = 15 ∨ q = 16 ∨ q = 17 ∨ q = 18 ∨ q = 19 ∨ q = 20 ∨ 21 ≤ q by omega) with rfl | rfl | rfl | rfl | rfl | rfl | rfl | rfl | rfl | rfl | rfl | rfl | rfl | rfl | rfl | rfl | rfl | rfl | rfl | rfl | rfl | hq
    · have h2 : (some (.inl (6, 0)) : Option zr_T) = some (.inr (.inl k)) := h
      cases h2
    · have h2 : (some (.inl (5, 0)) : Option zr_T) = some (.inr (.inl k)) := h
      cases h2
    · have h2 : (some (.inr (.inl 0)) : Option zr_T) = some (.inr (.inl k)) := h
      cases h2
      exact ⟨by decide, k7.symm⟩
    · have h2 : (some (.inl (0, 0)) : Option zr_T) = some (.inr (.inl k)) := h
      cases h2
    · have h2 : (some (.inl (0, 1)) : Option zr_T) = some (.inr (.inl k)) := h
      cases h2
    · have h2 : (some (.inl (0, 2)) : Option zr_T) = some (.inr (.inl k)) := h
      cases h2
    · have h2 : (some (.inl (0, 3)) : Option zr_T) = some (.inr (.inl k)) := h
      cases h2
    · have h2 : (some (.inr (.inl 1)) : Option zr_T) = some (.inr (.inl k)) := h
      cases h2
      exact ⟨by decide, k8.symm⟩
    · have h2 : (some (.inr (.inl 2)) : Option zr_T) = some (.inr (.inl k)) := h
      cases h2
      exact ⟨by decide, k9.symm⟩
    · have h2 : (some (.inr (.inl 3)) : Option zr_T) = some (.inr (.inl k)) := h
      cases h2
      exact ⟨by decide, k10.symm⟩
    · have h2 : (some (.inr (.inl 4)) : Option zr_T) = some (.inr (.inl k)) := h
      cases h2
      exact ⟨by decide, k11.symm⟩
    · have h2 : (some (.inl (4, 0)) : Option zr_T) = some (.inr (.inl k)) := h
      cases h2
    · have h2 : (some (.inl (4, 1)) : Option zr_T) = some (.inr (.inl k)) := h
      cases h2
    · have h2 : (some (.inl (4, 2)) : Option zr_T) = some (.inr (.inl k)) := h
      cases h2
    · have h2 : (some (.inl (4, 3)) : Option zr_T) = some (.inr (.inl k)) := h
      cases h2
    · have h2 : (some (.inl (4, 4)) : Option zr_T) = some (.inr (.inl k)) := h
      cases h2
    · have h2 : (some (.inl (4, 5)) : Option zr_T) = some (.inr (.inl k)) := h
      cases h2
    · have h2 : (some (.inl (4, 6)) : Option zr_T) = some (.inr (.inl k)) := h
      cases h2
    · have h2 : (some (.inl (4, 7)) : Option zr_T) = some (.inr (.inl k)) := h
      cases h2
    · have h2 : (some (.inl (4, 8)) : Option zr_T) = some (.inr (.inl k)) := h
      cases h2
    · have h2 : (some (.inl (4, 9)) : Option zr_T) = some (.inr (.inl k)) := h
      cases h2
    · rw [show zl_iO q = none from if_pos hq] at h
      cases h
theorem zl_noN {Q : Prop} {k : Nat} {x : pz_PT} (h : ([] : List pz_PT)[k]? = some x) : Q := by cases h
theorem zl_init : ∃ z : (Nat → Nat) × zs_H, fX6_init = some z ∧ zl_INV 0 0 zx_0 zs_G0 z.1 z.2 := by
  obtain ⟨z, ez, hz⟩ := zl_initR
  refine ⟨z, ez, 0, 0, 30, 40, [], zl_iR, ⟨rfl, rfl, by omega, rfl, by omega, rfl, by omega, fun v _ => ⟨0, by omega, rfl⟩, fun v _ => ⟨0, by omega, rfl⟩, fun v _ _ => ⟨rfl, pu_m1e⟩, fun v _ h => absurd rfl h, fun v h => absurd h (Nat.not_lt_zero v), fun v h => absurd h (Nat.not_lt_zero v), fun v h => absurd h (Nat.not_lt_zero v), fun v h => absurd h (Nat.not_lt_zero v), fun v h => absurd h (Nat.not_lt_zero v), fun v h => absurd h (Nat.not_lt_zero v), fun v _ h => absurd h (Nat.not_lt_zero v), fun j _ => ⟨4, by omega, rfl⟩, rfl, rfl, by show 0 ≤ 30; omega, fun x h => absurd h List.not_mem_nil, fun k x h => zl_noN h, fun j _ => ⟨0, by omega, rfl⟩⟩, ⟨rfl, rfl, rfl, rfl, rfl, hz⟩, rfl, by omega, fun j _ => ⟨60, by omega, rfl⟩⟩
theorem zl_passI {A D : Nat} {X : XT} {G : FN} {F : Nat → Nat} {p : zs_H} (I : zl_INV A D X G F p) (hD : D ≤ 200) : ∃ a X2 G2 F2 p2, zx_pass X 1 = some (a, X2) ∧ fX6_pass G F p = some (a, G2, F2, p2) ∧ zl_INV A (D + 1) X2 G2 F2 p2 := by
  obtain ⟨N, T, F0, c, l, R, C, H, hc, hcb, hr⟩ := I
  obtain ⟨q, hq, hw⟩ := C.wa (D % 7) (Nat.mod_lt _ (by omega))
  obtain ⟨l2, m2, a, S1, z1, z2, z3, z4, z5, z6, z7, z8, z9⟩ := zl_day C (by omega) hq hw
  obtain ⟨G2, F2, p2, R2, g1, g2, g3⟩ := z8 G F p R zr_e H
  refine ⟨nI a, (m2, X.2), G2, F2, p2, zx_passV z1 z3 z4, g1, N, T, F0, c, l2, R2, z2, g2, z3.coins.trans hc, hcb, fun j hj => ?_⟩
  show ∃ n, n ≤ 60 + 12 * A ∧ m2.rags j = nI n
  rw [z3.rags]
  exact hr j hj
theorem zl_cell {sa : SAT} (h : sa.2.1 ≤ 260) {i : Nat} (hi : i < 1000) : ∃ c, fL_cell sa (nI i) = some c := by
  unfold fL_cell
  by_cases c : sa.2.1 ≤ i
  · exact ⟨_, if_pos (by rw [show Int32.ofNat sa.2.1 = nI sa.2.1 from rfl, pu_le (by omega) (by omega)]; exact c)⟩
  · rw [if_neg (by rw [show Int32.ofNat sa.2.1 = nI sa.2.1 from rfl, pu_le (by omega) (by omega)]; exact c), pu_ck (by omega) (by omega)]
    exact ⟨_, rfl⟩
theorem zl_build10 {sa : SAT} (h : sa.2.1 ≤ 260) : ∀ (d j k D : Nat) (X : XT) (G : FN) (F : Nat → Nat) (p : zs_H), zl_INV j D X G F p → D ≤ j → j + d = 36 → d < k → ∃ X2 G2 F2 p2 D2, fLL_build_10 sa k X G F p (nI j) = some (X2, G2, F2, p2) ∧ zl_INV 36 D2 X2 G2 F2 p2 ∧ D2 ≤ 36
  | 0, j, k + 1, D, X, G, F, p, I, hD, hj, _ => by
    have hj' : j = 36 := hj
    subst hj'
    exact ⟨X, G, F, p, D, by rw [fLL_build_10, if_pos (by decide)], I, hD⟩
  | d + 1, j, k + 1, D, X, G, F, p, I, hD, hj, hk => by
    obtain ⟨c, ec⟩ := zl_cell h (i := j - j / 16 * 16) (by omega)
    obtain ⟨t, et⟩ : ∃ t, (if (9 : Int32) ≤ nI j then (some 0 : Option Int32) else (if (nI j - nI j / 3 * 3) = 0 then (some 9 : Option Int32) else if (nI j - nI j / 3 * 3) = 1 then some 12 else some 4).bind fun t5 => some (512 * t5)) = some t := by
      by_cases c1 : (9 : Int32) ≤ nI j
      · exact ⟨_, if_pos c1⟩
      · rw [if_neg c1]
        by_cases c2 : (nI j - nI j / 3 * 3) = 0
        · rw [if_pos c2]; exact ⟨_, rfl⟩
        · rw [if_neg c2]
          by_cases c3 : (nI j - nI j / 3 * 3) = 1
          · rw [if_pos c3]; exact ⟨_, rfl⟩
          · rw [if_neg c3]; exact ⟨_, rfl⟩
    have ec' : fL_cell sa (nI j - nI j / 16 * 16) = some c := by
      rw [show (16 : Int32) = nI 16 from rfl, pu_div (by omega) (by omega), pu_mul, pu_sub (by omega)]
      exact ec
    rw [fLL_build_10, if_neg (show ¬ (36 : Int32) ≤ nI j by rw [show (36 : Int32) = nI 36 from rfl, pu_le (by omega) (by omega)]; omega), ec', pu_bs, et, pu_bs]
    obtain ⟨X1, G1, F1, p1, e1, I1⟩ := zl_act (((c >>> (((nI j / 16) * 4) &&& 31)) + (311 * nI j)) + t) I (by omega) (by omega)
    rw [e1, pu_bs, show nI j + 1 = nI (j + 1) from pu_add j 1]
    dsimp only
    by_cases c1 : nI j ≤ 12
    · rw [if_pos c1, pu_bs]
      exact zl_build10 h d (j + 1) k D X1 G1 F1 p1 I1 (by omega) (by omega) (by omega)
    · rw [if_neg c1]
      by_cases c2 : (nI j - nI j / 3 * 3) = 0
      · obtain ⟨a, X2, G2, F2, p2, b1, b2, b3⟩ := zl_passI I1 (by omega)
        rw [if_pos c2, b1, pu_bs, b2, pu_bs]
        dsimp only
        rw [if_pos rfl, pu_bs]
        exact zl_build10 h d (j + 1) k (D + 1) X2 G2 F2 p2 b3 (by omega) (by omega) (by omega)
      · rw [if_neg c2, pu_bs]
        exact zl_build10 h d (j + 1) k D X1 G1 F1 p1 I1 (by omega) (by omega) (by omega)
theorem zl_build {sa : SAT} (h : sa.2.1 ≤ 260) : ∃ X G F p D, fL_build sa zx_0 = some (X, G, F, p) ∧ zl_INV 36 D X G F p ∧ D ≤ 36 := by
  obtain ⟨z, ez, I⟩ := zl_init
  obtain ⟨X, G, F, p, D, e, I2, hD⟩ := zl_build10 h 36 0 37 0 zx_0 zs_G0 z.1 z.2 I (Nat.le_refl 0) rfl (by omega)
  refine ⟨X, G, F, p, D, ?_, I2, hD⟩
  have e' : fLL_build_10 sa 37 zx_0 zs_G0 z.1 z.2 0 = some (X, G, F, p) := e
  unfold fL_build
  rw [ez, pu_bs, e', pu_bs]
