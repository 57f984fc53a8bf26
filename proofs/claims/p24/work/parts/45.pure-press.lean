/-! the press -/
theorem zc_loft (m : MS) (j c : Nat) (x : Int32) (hc : c < 3) : ∀ k2 j2 c2, c2 < zr_w k2 → zr_c (zl_C m) 4 j c x k2 j2 c2 = zl_C (MS.of m.day m.coins m.felts m.made m.worth m.rags m.water m.pulp m.beat m.sort m.nM m.mark m.size m.worn m.nT m.skill m.vat m.pair m.nQ m.allS m.pmark m.pgrade m.psheets (upd m.loft (3 * j + c) x)) k2 j2 c2 := by
  intro k2 j2 c2 hc2
  by_cases h : k2 = 4 ∧ j2 = j ∧ c2 = c
  · obtain ⟨rfl, rfl, rfl⟩ := h
    rw [zc_eq]
    exact pu_up.symm
  · rw [zc_ne h]
    rcases k2 with _ | _ | _ | _ | _ | _ | k2
    · rfl
    · rfl
    · rfl
    · rfl
    · have h3 : c2 < 3 := hc2
      exact (show upd m.loft (3 * j + c) x (3 * j2 + c2) = m.loft (3 * j2 + c2) from pu_un (fun e => h ⟨rfl, by omega, by omega⟩)).symm
    all_goals rfl
theorem zc_sheets (m : MS) (j : Nat) (x : Int32) : ∀ k2 j2 c2, c2 < zr_w k2 → zr_c (zl_C m) 3 j 2 x k2 j2 c2 = zl_C (MS.of m.day m.coins m.felts m.made m.worth m.rags m.water m.pulp m.beat m.sort m.nM m.mark m.size m.worn m.nT m.skill m.vat m.pair m.nQ m.allS m.pmark m.pgrade (upd m.psheets j x) m.loft) k2 j2 c2 := by
  intro k2 j2 c2 hc
  by_cases h : k2 = 3 ∧ j2 = j ∧ c2 = 2
  · obtain ⟨rfl, rfl, rfl⟩ := h
    rw [zc_eq]
    exact pu_up.symm
  · rw [zc_ne h]
    rcases k2 with _ | _ | _ | _ | _ | _ | k2
    · rfl
    · rfl
    · rfl
    · rcases c2 with _ | _ | _ | c2
      · rfl
      · rfl
      · exact (pu_un (fun e => h ⟨rfl, e, rfl⟩)).symm
      · exact absurd hc (by show ¬ (c2 + 1 + 1 + 1 < 3); omega)
    all_goals rfl
theorem EncC.drop {a b c : FN} {o : Nat} {x : pz_PT} {l : List pz_PT} (h : EncC a b c o (x :: l)) : a o = nI x.1 ∧ b o = nI x.2.1 ∧ c o = nI x.2.2 := h 0 x rfl
theorem EncC.cons {a b c : FN} {o : Nat} {x : pz_PT} {l : List pz_PT} (h : EncC a b c (o + 1) l) (h0 : a o = nI x.1 ∧ b o = nI x.2.1 ∧ c o = nI x.2.2) : EncC a b c o (x :: l) := fun k y hy => by
  cases k with
  | zero => cases hy; exact h0
  | succ k => rw [show o + (k + 1) = o + 1 + k by omega]; exact h k y hy
theorem zl_pr1 {N T Q : Nat} {F : Nat → Nat} {R : Nat → Nat → Nat} {K : Nat → Option zs_E} {m : MS} (hQ : Q ≤ 90) : ∀ (r : List pz_PT) (j n k : Nat) (ps lo : FN) (p : zs_H), zr p F (zl_z N T Q) R (zl_C (MS.of m.day m.coins m.felts m.made m.worth m.rags m.water m.pulp m.beat m.sort m.nM m.mark m.size m.worn m.nT m.skill m.vat m.pair m.nQ m.allS m.pmark m.pgrade (ps) (lo))) K → EncC m.pmark m.pgrade ps j r → (∀ x ∈ r, okP x) → (∀ x ∈ r, x.2.2 < 1000) → j + r.length = Q → r.length < k → n ≤ 1000 →
    ∃ p2 ps2, fLX6_pass_369 F (F 10) (nI Q) k p (nI n) (nI j) = some p2 ∧ zr p2 F (zl_z N T Q) R (zl_C (MS.of m.day m.coins m.felts m.made m.worth m.rags m.water m.pulp m.beat m.sort m.nM m.mark m.size m.worn m.nT m.skill m.vat m.pair m.nQ m.allS m.pmark m.pgrade (ps2) (prL r n lo))) K ∧ EncC m.pmark m.pgrade ps2 j (prA r n) ∧ ∀ i, i < j → ps2 i = ps i
  | [], j, n, k + 1, ps, lo, p, H, _, _, _, hj, _, _ => by
    have hj' : j = Q := hj
    refine ⟨p, ps, ?_, H, (fun k x hx => by cases hx), fun _ _ => rfl⟩
    rw [fLX6_pass_369, if_pos (by rw [pu_le (by omega) (by omega)]; omega)]
  | x :: r, j, n, k + 1, ps, lo, p, H, he, hok, hs, hj, hk, hn => by
    have hj' : j + (r.length + 1) = Q := hj
    have hk' : r.length + 1 < k + 1 := hk
    obtain ⟨x1, x2, x3⟩ := he.drop
    obtain ⟨o1, o2, o3⟩ := hok x List.mem_cons_self
    have o4 := hs x List.mem_cons_self
    have e1 : zs_ldr p (F 10) (nI j) = some (R 3 j) := zr_ldr H (k := 3) (by omega) (show j < Q by omega) (show Q < 2147483648 by omega)
    have e2 : zs_ld p (R 3 j) 2 = some (ps j) := zr_ld H (k := 3) (c := 2) (by omega) (show j < Q by omega) (by decide)
    have e3 : zs_ld p (R 3 j) 0 = some (m.pmark j) := zr_ld H (k := 3) (c := 0) (by omega) (show j < Q by omega) (by decide)
    have e4 : zs_ld p (R 3 j) 1 = some (m.pgrade j) := zr_ld H (k := 3) (c := 1) (by omega) (show j < Q by omega) (by decide)
    have e5 : zs_ldr p (F 11) (nI x.1) = some (R 4 x.1) := zr_ldr H (k := 4) (by omega) (show x.1 < 10 by omega) (show (10 : Nat) < 2147483648 by decide)
    have e6 : zs_ld p (R 4 x.1) (nI x.2.1) = some (lo (3 * x.1 + x.2.1)) := zr_ld H (k := 4) (by omega) (show x.1 < 10 by omega) (show x.2.1 < 3 by omega)
    obtain ⟨p1, s1, t1, H1⟩ := zr_st H (k := 4) (j := x.1) (c := x.2.1) (v := lo (3 * x.1 + x.2.1) + nI (min x.2.2 n)) (by omega) (show x.1 < 10 by omega) (show x.2.1 < 3 by omega)
    have H1' := zr_cC H1 (fun k j c _ _ hc => (zc_loft _ x.1 x.2.1 (lo (3 * x.1 + x.2.1) + nI (min x.2.2 n)) (by omega) k j c hc).symm)
    have e7 : zs_ld p1 (R 3 j) 2 = some (ps j) := zr_ld H1' (k := 3) (c := 2) (by omega) (show j < Q by omega) (by decide)
    obtain ⟨p2, s2, t2, H2⟩ := zr_st H1' (k := 3) (j := j) (c := 2) (v := nI (x.2.2 - min x.2.2 n)) (by omega) (show j < Q by omega) (by decide)
    have s2' : zs_st p1 (R 3 j) 2 (nI (x.2.2 - min x.2.2 n)) = some p2 := s2
    have H2' := zr_cC H2 (fun k j2 c _ _ hc => (zc_sheets _ j (nI (x.2.2 - min x.2.2 n)) k j2 c hc).symm)
    have H3 : zr p2 F (zl_z N T Q) R (zl_C (MS.of m.day m.coins m.felts m.made m.worth m.rags m.water m.pulp m.beat m.sort m.nM m.mark m.size m.worn m.nT m.skill m.vat m.pair m.nQ m.allS m.pmark m.pgrade (upd ps j (nI (x.2.2 - min x.2.2 n))) (upd lo (3 * x.1 + x.2.1) (lo (3 * x.1 + x.2.1) + nI (min x.2.2 n))))) K := H2'
    obtain ⟨p3, ps2, a1, a2, a3, a4⟩ := zl_pr1 hQ r (j + 1) (n - min x.2.2 n) k _ _ p2 H3 (EncC.cong he.tail (fun _ _ => rfl) (fun _ _ => rfl) (fun i hi => pu_un (by omega))) (fun y hy => hok y (List.mem_cons_of_mem x hy)) (fun y hy => hs y (List.mem_cons_of_mem x hy)) (by omega) (by omega) (by omega)
    have hmin : (if nI n ≤ nI x.2.2 then (some (nI n) : Option Int32) else some (nI x.2.2)) = some (nI (min x.2.2 n)) := by
      by_cases c : n ≤ x.2.2
      · rw [if_pos (by rw [pu_le (by omega) (by omega)]; exact c), Nat.min_eq_right c]
      · rw [if_neg (by rw [pu_le (by omega) (by omega)]; exact c), Nat.min_eq_left (by omega)]
    refine ⟨p3, ps2, ?_, ?_, ?_, fun i hi => ?_⟩
    · rw [fLX6_pass_369, if_neg (by rw [pu_le (by omega) (by omega)]; omega), e1, pu_bs, e2, pu_bs, x3, pu_bs, hmin, pu_bs, e3, pu_bs, x1, e5, pu_bs, e4, pu_bs, x2, e6, pu_bs, s1, pu_bs, e7, pu_bs, x3, pu_sub (Nat.min_le_left _ _), s2', pu_bs, pu_sub (Nat.min_le_right _ _), show (1 : Int32) = nI 1 from rfl, pu_add]
      exact a1
    · show zr p3 F (zl_z N T Q) R (zl_C (MS.of m.day m.coins m.felts m.made m.worth m.rags m.water m.pulp m.beat m.sort m.nM m.mark m.size m.worn m.nT m.skill m.vat m.pair m.nQ m.allS m.pmark m.pgrade (ps2) (if n = 0 then lo else prL r (n - min x.2.2 n) (upd lo (3 * x.1 + x.2.1) (lo (3 * x.1 + x.2.1) + nI (min x.2.2 n)))))) K
      by_cases c : n = 0
      · rw [if_pos c]
        have h1 : upd lo (3 * x.1 + x.2.1) (lo (3 * x.1 + x.2.1) + nI (min x.2.2 n)) = lo := by
          rw [c, Nat.min_zero, show lo (3 * x.1 + x.2.1) + nI 0 = lo (3 * x.1 + x.2.1) from Int32.add_zero _, pu_self]
        rw [h1, show n - min x.2.2 n = 0 by omega, prL_0] at a2
        exact a2
      · rw [if_neg c]
        exact a2
    · refine EncC.cons a3 ⟨x1, x2, ?_⟩
      rw [a4 j (by omega)]
      exact pu_up
    · rw [a4 i (by omega)]
      exact pu_un (by omega)
theorem zl_pr2 {N T Q B : Nat} {F : Nat → Nat} {R : Nat → Nat → Nat} {m : MS} (hQ : Q ≤ 90) : ∀ (r done : List pz_PT) (j k q : Nat) (g : Nat → Option Nat) (ix : Nat → Nat) (p : zs_H) (K : Nat → Option zs_E), zr p F (zl_z N T Q) R (zl_C m) K → K q = some (.inr (done.length, g)) → (∀ i, i < done.length → g i = some (R 3 (ix i)) ∧ ix i < j) → (∀ i i2, i < done.length → i2 < done.length → ix i = ix i2 → i = i2) → (∀ i x, done[i]? = some x → m.pmark (ix i) = nI x.1 ∧ m.pgrade (ix i) = nI x.2.1 ∧ m.psheets (ix i) = nI x.2.2) → EncC m.pmark m.pgrade m.psheets j r → (∀ x ∈ r, x.2.2 < 1000) → j + r.length = Q → r.length < k → done.length ≤ j → B ≤ q → B ≤ p.1 →
    ∃ (p2 : zs_H) (q2 : Nat) (K2 : Nat → Option zs_E) (g2 : Nat → Option Nat) (ix2 : Nat → Nat), fLX6_pass_460 (F 10) (nI Q) k p q (nI j) = some (p2, q2) ∧ zr p2 F (zl_z N T Q) R (zl_C m) K2 ∧ K2 q2 = some (.inr ((done ++ fil r).length, g2)) ∧ (∀ i, i < (done ++ fil r).length → g2 i = some (R 3 (ix2 i)) ∧ ix2 i < Q) ∧ (∀ i i2, i < (done ++ fil r).length → i2 < (done ++ fil r).length → ix2 i = ix2 i2 → i = i2) ∧ (∀ i x, (done ++ fil r)[i]? = some x → m.pmark (ix2 i) = nI x.1 ∧ m.pgrade (ix2 i) = nI x.2.1 ∧ m.psheets (ix2 i) = nI x.2.2) ∧ B ≤ q2 ∧ ∀ s e, K s = some e → K2 s = some e
  | [], done, j, k + 1, q, g, ix, p, K, H, hq, hg, hi, hd, _, _, hj, _, _, hb, _ => by
    have hj' : j = Q := hj
    have e : done ++ fil [] = done := List.append_nil done
    rw [e]
    refine ⟨p, q, K, g, ix, ?_, H, hq, fun i hi => ⟨(hg i hi).1, by have := (hg i hi).2; omega⟩, hi, hd, hb, fun _ _ h => h⟩
    rw [fLX6_pass_460, if_pos (by rw [pu_le (by omega) (by omega)]; omega)]
  | x :: r, done, j, k + 1, q, g, ix, p, K, H, hq, hg, hi, hd, he, hs, hj, hk, hl, hb, hb2 => by
    have hj' : j + (r.length + 1) = Q := hj
    have hk' : r.length + 1 < k + 1 := hk
    obtain ⟨x1, x2, x3⟩ := he.drop
    have o4 := hs x List.mem_cons_self
    have e1 : zs_ldr p (F 10) (nI j) = some (R 3 j) := zr_ldr H (k := 3) (by omega) (show j < Q by omega) (show Q < 2147483648 by omega)
    have e2 : zs_ld p (R 3 j) 2 = some (m.psheets j) := zr_ld H (k := 3) (c := 2) (by omega) (show j < Q by omega) (by decide)
    by_cases c : x.2.2 = 0
    · have ef : fil (x :: r) = fil r := if_pos c
      rw [ef]
      obtain ⟨p2, q2, K2, g2, ix2, a1, a2⟩ := zl_pr2 (B := B) hQ r done (j + 1) k q g ix p K H hq (fun i h => ⟨(hg i h).1, by have := (hg i h).2; omega⟩) hi hd he.tail (fun y hy => hs y (List.mem_cons_of_mem x hy)) (by omega) (by omega) (by omega) hb hb2
      refine ⟨p2, q2, K2, g2, ix2, ?_, a2⟩
      rw [fLX6_pass_460, if_neg (by rw [pu_le (by omega) (by omega)]; omega), e1, pu_bs, e2, pu_bs, x3, c, if_pos (show nI 0 ≤ 0 by decide), pu_bs, show (1 : Int32) = nI 1 from rfl, pu_add]
      exact a1
    · have ef : fil (x :: r) = x :: fil r := if_neg c
      have ea : done ++ x :: fil r = (done ++ [x]) ++ fil r := by rw [List.append_assoc]; rfl
      have elen : (done ++ [x]).length = done.length + 1 := by rw [List.length_append]; rfl
      rw [ef, ea]
      obtain ⟨hq1, hq2⟩ := zr_oth H hq
      obtain ⟨r1, f1, r2, -⟩ := zr_row H (k := 3) (j := j) (by omega) (show j < Q by omega)
      obtain ⟨g', m1, m2, m3⟩ := zl_more hq1 hq2 (fun i h => by
        obtain ⟨b1, f2, b2, -⟩ := zr_row H (k := 3) (j := ix i) (by omega) (show ix i < Q by have := (hg i h).2; omega)
        exact ⟨R 3 (ix i), _, (hg i h).1, b1, b2⟩) r1 r2 (by omega)
      have H2 := zr_push H (.inr (done.length + 1, g'))
      have hne : ∀ s e, K s = some e → s ≠ p.1 := fun s e h => by have := (zr_oth H h).1; omega
      obtain ⟨p2, q2, K2, g2, ix2, a1, a2, a3, a4, a5, a6, a7, a8⟩ := zl_pr2 (B := B) hQ r (done ++ [x]) (j + 1) k p.1 g' (fun i => if i = done.length then j else ix i) _ _ H2 (by rw [va_up_p, elen]) (fun i h => by
          rw [elen] at h
          by_cases ci : i = done.length
          · subst ci
            rw [if_pos rfl]
            exact ⟨m3, by omega⟩
          · rw [if_neg ci, m2 i (by omega)]
            exact ⟨(hg i (by omega)).1, by have := (hg i (by omega)).2; omega⟩) (fun i i2 h h2 e => by
          rw [elen] at h h2
          by_cases ci : i = done.length
          · by_cases c2 : i2 = done.length
            · omega
            · rw [if_pos ci, if_neg c2] at e
              have := (hg i2 (by omega)).2
              omega
          · by_cases c2 : i2 = done.length
            · rw [if_neg ci, if_pos c2] at e
              have := (hg i (by omega)).2
              omega
            · rw [if_neg ci, if_neg c2] at e
              exact hi i i2 (by omega) (by omega) e) (fun i y h => by
          by_cases ci : i = done.length
          · subst ci
            rw [List.getElem?_append_right (Nat.le_refl _), Nat.sub_self] at h
            cases h
            rw [if_pos rfl]
            exact ⟨x1, x2, x3⟩
          · have hlt : i < done.length := by
              have := (List.getElem?_eq_some_iff.mp h).1
              rw [elen] at this
              omega
            rw [List.getElem?_append_left hlt] at h
            rw [if_neg ci]
            exact hd i y h) he.tail (fun y hy => hs y (List.mem_cons_of_mem x hy)) (by omega) (by omega) (by rw [elen]; omega) hb2 (Nat.le_succ_of_le hb2)
      refine ⟨p2, q2, K2, g2, ix2, ?_, a2, a3, a4, a5, a6, a7, fun s e h => a8 s e (by rw [va_up_n (hne s e h)]; exact h)⟩
      rw [fLX6_pass_460, if_neg (by rw [pu_le (by omega) (by omega)]; omega), e1, pu_bs, e2, pu_bs, x3, if_neg (show ¬ nI x.2.2 ≤ 0 from fun h => c (by have := (pu_le (a := x.2.2) (b := 0) (by omega) (by omega)).mp h; omega)), m1, pu_bs, pu_bs, show (1 : Int32) = nI 1 from rfl, pu_add]
      exact a1
theorem sum_prA_eq : ∀ (l : List pz_PT) (n : Nat), sumS (prA l n) = sumS l - min n (sumS l)
  | [], n => by show 0 = 0 - min n 0; omega
  | x :: l, n => by
    have := sum_prA_eq l (n - min x.2.2 n)
    show x.2.2 - min x.2.2 n + sumS (prA l (n - min x.2.2 n)) = x.2.2 + sumS l - min n (x.2.2 + sumS l)
    omega
theorem zl_prL : ∀ (l : List pz_PT) (n b : Nat) (f : FN), (∀ j, j < 30 → ∃ y, y ≤ b ∧ f j = nI y) → (∀ x ∈ l, okP x) → ∀ j, j < 30 → ∃ y, y ≤ b + n ∧ prL l n f j = nI y
  | [], n, b, f, h, _, j, hj => by
    obtain ⟨y, h1, h2⟩ := h j hj
    exact ⟨y, by omega, h2⟩
  | x :: l, n, b, f, h, ho, j, hj => by
    show ∃ y, y ≤ b + n ∧ (if n = 0 then f else prL l (n - min x.2.2 n) (upd f (3 * x.1 + x.2.1) (f (3 * x.1 + x.2.1) + nI (min x.2.2 n)))) j = nI y
    obtain ⟨o1, o2, o3⟩ := ho x List.mem_cons_self
    by_cases c : n = 0
    · rw [if_pos c]
      obtain ⟨y, h1, h2⟩ := h j hj
      exact ⟨y, by omega, h2⟩
    · rw [if_neg c]
      obtain ⟨y, h1, h2⟩ := zl_prL l (n - min x.2.2 n) (b + min x.2.2 n) (upd f (3 * x.1 + x.2.1) (f (3 * x.1 + x.2.1) + nI (min x.2.2 n))) (fun i hi => by
        by_cases ci : i = 3 * x.1 + x.2.1
        · subst ci
          obtain ⟨y, h1, h2⟩ := h _ hi
          rw [pu_up, h2, pu_add]
          exact ⟨_, by omega, rfl⟩
        · rw [pu_un ci]
          obtain ⟨y, h1, h2⟩ := h i hi
          exact ⟨y, by omega, h2⟩) (fun y hy => ho y (List.mem_cons_of_mem x hy)) j hj
      exact ⟨y, by omega, h2⟩
