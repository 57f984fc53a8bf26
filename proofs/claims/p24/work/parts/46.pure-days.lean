/-! a day -/
theorem zl_riseC {pulp : FN} {c q : Nat} (hc : 0 < c) (hq : q ≤ 9) (hp : ∀ v, v < 4 → ∃ n, n ≤ 40 ∧ pulp v = nI n) : ∀ (d j k : Nat) (beat : FN), (∀ v, v < 4 → ∃ n, n ≤ 99 ∧ beat v = nI n) → j + d = 4 → d < k → ∃ bt, fX4_beatAll_L19 pulp k beat (nI (3 * q / c)) (nI j) = some bt ∧ ∀ v, bt v = if j ≤ v ∧ v < 4 ∧ pulp v ≠ nI 0 then nI (min 99 ((beat v).toNatClampNeg + 3 * q / c)) else beat v
  | 0, j, k + 1, beat, _, hj, _ => by
    refine ⟨beat, ?_, fun v => by rw [if_neg (by omega)]⟩
    rw [fX4_beatAll_L19, show (4 : Int32) = nI 4 from rfl, if_pos (by rw [pu_le (by omega) (by omega)]; omega)]
  | d + 1, j, k + 1, beat, hb, hj, hk => by
    obtain ⟨n, hn, en⟩ := hp j (by omega)
    obtain ⟨x, hx, ex⟩ := hb j (by omega)
    have hq3 : 3 * q / c ≤ 27 := Nat.le_trans (Nat.div_le_self _ _) (by omega)
    have hn4 : ¬ nI 4 ≤ nI j := by rw [pu_le (by omega) (by omega)]; omega
    have hle : pulp j ≤ nI 0 ↔ pulp j = nI 0 := by rw [en]; exact pu_le0 (by omega)
    rw [fX4_beatAll_L19, show (4 : Int32) = nI 4 from rfl, if_neg hn4, pu_ck (by omega) (by omega), pu_tn (by omega), show (0 : Int32) = nI 0 from rfl, show (1 : Int32) = nI 1 from rfl, pu_add]
    by_cases c0 : pulp j = nI 0
    · rw [if_pos (hle.mpr c0)]
      obtain ⟨bt, a1, a4⟩ := zl_riseC hc hq hp d (j + 1) k beat hb (by omega) (by omega)
      refine ⟨bt, a1, fun v => ?_⟩
      rw [a4 v]
      by_cases cv : v = j
      · subst cv
        rw [if_neg (by omega), if_neg (fun h => h.2.2 c0)]
      · by_cases h1 : j + 1 ≤ v ∧ v < 4 ∧ pulp v ≠ nI 0
        · rw [if_pos h1, if_pos ⟨by omega, h1.2⟩]
        · rw [if_neg h1, if_neg (fun h => h1 ⟨by omega, h.2⟩)]
    · have y0 : (if nI (x + 3 * q / c) < nI 99 then nI (x + 3 * q / c) else nI 99) = nI (min (x + 3 * q / c) 99) := pu_min (by omega) (by omega)
      obtain ⟨bt, a1, a4⟩ := zl_riseC hc hq hp d (j + 1) k (upd beat j (nI (min (x + 3 * q / c) 99))) (fun v hv => by
        by_cases cv : v = j
        · subst cv; rw [pu_up]; exact ⟨_, Nat.min_le_right _ _, rfl⟩
        · rw [pu_un cv]; exact hb v hv) (by omega) (by omega)
      refine ⟨bt, ?_, fun v => ?_⟩
      · rw [if_neg (fun h => c0 (hle.mp h)), pu_ck (by omega) (by omega), pu_ck (by omega) (by omega), ex, pu_add, show (99 : Int32) = nI 99 from rfl, y0]
        exact a1
      · rw [a4 v]
        by_cases cv : v = j
        · subst cv
          rw [if_neg (by omega), if_pos ⟨Nat.le_refl _, by omega, c0⟩, pu_up, ex, pu_tn (by omega), Nat.min_comm]
        · rw [pu_un cv]
          by_cases h1 : j + 1 ≤ v ∧ v < 4 ∧ pulp v ≠ nI 0
          · rw [if_pos h1, if_pos ⟨by omega, h1.2⟩]
          · rw [if_neg h1, if_neg (fun h => h1 ⟨by omega, h.2⟩)]
theorem zl_beatC {m : MS} {q : Nat} (hp : ∀ v, v < 4 → ∃ n, n ≤ 40 ∧ m.pulp v = nI n) (hb : ∀ v, v < 4 → ∃ n, n ≤ 99 ∧ m.beat v = nI n) (hq : q ≤ 9) : ∃ bt, fX4_beatAll m.pulp m.beat (nI q) = some bt ∧ ∀ v, bt v = zl_bt m q v := by
  have hn1 := zl_numC hp 4 0 0 300 rfl (by omega) (by omega)
  have h4 := zl_cn_le m.pulp 4 0
  rw [Nat.zero_add] at hn1
  unfold fX4_beatAll fX4_numberWithPulp
  rw [show (0 : Int32) = nI 0 from rfl, hn1, pu_bs]
  by_cases c : zl_cn m.pulp 4 0 = 0
  · have h0 : ∀ v, v < 4 → m.pulp v = nI 0 := fun v hv => by
      refine Classical.byContradiction fun hne => ?_
      have := zl_cn_pos m.pulp 4 0 v (by omega) (by omega) hne
      omega
    rw [if_pos (by rw [c])]
    refine ⟨m.beat, rfl, fun v => ?_⟩
    unfold zl_bt
    rw [if_neg (fun h => h.2 (h0 v h.1))]
  · obtain ⟨bt, a1, a4⟩ := zl_riseC (c := zl_cn m.pulp 4 0) (q := q) (by omega) hq hp 4 0 300 m.beat hb rfl (by omega)
    refine ⟨bt, ?_, fun v => ?_⟩
    · rw [if_neg (by rw [pu_eq (by omega) (by omega)]; exact c), show (3 : Int32) = nI 3 from rfl, pu_ckz (by omega) (by omega), pu_mul, pu_div (by omega) (by omega)]
      exact a1
    · rw [a4 v]
      unfold zl_bt
      by_cases h : v < 4 ∧ m.pulp v ≠ nI 0
      · rw [if_pos ⟨by omega, h⟩, if_pos h]
      · rw [if_neg (fun h2 => h h2.2), if_neg h]
theorem le_sumS {x : pz_PT} : ∀ (l : List pz_PT), x ∈ l → x.2.2 ≤ sumS l := by
  intro l
  induction l with
  | nil => intro h; exact absurd h List.not_mem_nil
  | cons y l ih =>
    intro h
    show x.2.2 ≤ y.2.2 + sumS l
    rcases List.mem_cons.mp h with rfl | h
    · omega
    · have := ih h; omega
theorem zl_zn {N T Q n : Nat} : ∀ k, k < 7 → zl_z N T n k = va_up (zl_z N T Q) 3 n k := by
  intro k hk
  by_cases c : k = 3
  · subst c; exact va_up_p.symm
  · rw [va_up_n c]
    rcases k with _ | _ | _ | _ | _ | k
    · rfl
    · rfl
    · rfl
    · exact absurd rfl c
    all_goals rfl
theorem zl_press {D N T F0 : Nat} {l : List pz_PT} {m : MS} (C : CI D N T F0 l m) : ∃ (a' b' c' : FN), fX0_pressPosts m.nQ m.allS m.pmark m.pgrade m.psheets m.loft = some (nI (prS l 24).length, nI (sumS (prS l 24)), a', b', c', prL l 24 m.loft) ∧ EncC a' b' c' 0 (prS l 24) ∧ sumS (prS l 24) = sumS l - min 24 (sumS l) ∧ ∀ (F : Nat → Nat) (p : zs_H) (R : Nat → Nat → Nat) (K : Nat → Option zs_E), zr p F (zl_z N T l.length) R (zl_C m) K → ∃ (p1 p2 p3 : zs_H) (q3 : Nat) (R3 : Nat → Nat → Nat), fLX6_pass_369 F (F 10) (nI l.length) 300 p 24 0 = some p1 ∧ zs_nwr p1 0 0 = some p2 ∧ zs_len p2 (F 10) = some (nI l.length) ∧ fLX6_pass_460 (F 10) (nI l.length) 92 p2 p1.1 0 = some (p3, q3) ∧ zr p3 (va_up F 10 q3) (zl_z N T (prS l 24).length) R3 (zl_C (MS.of m.day m.coins m.felts m.made m.worth m.rags m.water m.pulp m.beat m.sort m.nM m.mark m.size m.worn m.nT m.skill m.vat m.pair m.nQ m.allS (a') (b') (c') (prL l 24 m.loft))) K := by
  have hF := C.Fle
  have hS := C.sl
  have hlen := len_sum l C.ok
  have hb : ∀ x ∈ l, x.2.2 < 1000 := fun x hx => by have := le_sumS l hx; omega
  obtain ⟨a', b', c', e1, e2⟩ := pb_pressC (Q := l.length) (by omega) (a := m.pmark) (b := m.pgrade) l [] 0 24 300 m.psheets m.loft C.ec hb C.ok rfl (Nat.zero_add _) (by omega) (by omega)
  rw [show ([] : List pz_PT) ++ prA l 24 = prA l 24 from rfl, fil_prA l 24 C.ok] at e1 e2
  have hsum : sumS (prS l 24) = sumS (prA l 24) := by rw [← fil_prA l 24 C.ok, sum_fil]
  have E1 : fX0_pressPosts m.nQ m.allS m.pmark m.pgrade m.psheets m.loft = some (nI (prS l 24).length, nI (sumS (prS l 24)), a', b', c', prL l 24 m.loft) := by
    unfold fX0_pressPosts
    rw [C.nQ, C.al, hsum]
    exact e1
  refine ⟨a', b', c', E1, e2, by rw [hsum, sum_prA_eq], fun F p R K H => ?_⟩
  obtain ⟨p1, ps2, h1, h2, h3, -⟩ := zl_pr1 (m := m) (Q := l.length) (by omega) l 0 24 300 m.psheets m.loft p H C.ec C.ok hb (Nat.zero_add _) (by omega) (by omega)
  obtain ⟨p2, n1, n2, H2⟩ := zr_nwr h2 (n := 0) (B := 0) (Nat.le_refl _) (by decide)
  have len2 : zs_len p2 (F 10) = some (nI l.length) := zr_len H2 (k := 3) (by omega)
  have hb2 : ∀ x ∈ prA l 24, x.2.2 < 1000 := fun x hx => by
    have := le_sumS (prA l 24) hx
    have := sum_prA l 24
    omega
  obtain ⟨p3, q3, K3, g3, ix3, d1, d2, d3, d4, d5, d6, d7, d8⟩ := zl_pr2 (B := p1.1) (Q := l.length) (by omega) (prA l 24) [] 0 92 p1.1 (fun _ => none) (fun _ => 0) p2 _ H2 va_up_p (fun i h => absurd h (Nat.not_lt_zero _)) (fun i i2 h => absurd h (Nat.not_lt_zero _)) (fun i x h => by cases h) h3 hb2 (by rw [Nat.zero_add]; exact len_prA l 24) (by rw [len_prA]; omega) (Nat.le_refl _) (Nat.le_refl _) (by omega)
  rw [show ([] : List pz_PT) ++ fil (prA l 24) = prS l 24 from fil_prA l 24 C.ok] at d3 d4 d5 d6
  have H4 := zr_new d2 (k := 3) (q := q3) (n := (prS l 24).length) (g := g3) (ids := fun j => R 3 (ix3 j)) (C2 := fun j => zl_C (MS.of m.day m.coins m.felts m.made m.worth m.rags m.water m.pulp m.beat m.sort m.nM m.mark m.size m.worn m.nT m.skill m.vat m.pair m.nQ m.allS m.pmark m.pgrade (ps2) (prL l 24 m.loft)) 3 (ix3 j)) (by omega) d3 (fun j hj => (d4 j hj).1) (fun i j hi hj e => by
      obtain ⟨own, g1, g2, -⟩ := d2
      have k1 := g2 3 (ix3 i) (by omega) (d4 i hi).2
      have k2 := g2 3 (ix3 j) (by omega) (d4 j hj).2
      have e' : R 3 (ix3 i) = R 3 (ix3 j) := e
      rw [e', k2] at k1
      exact d5 i j hi hj (congrArg Prod.snd (Sum.inl.inj (Option.some.inj k1))).symm) (fun j hj => Or.inl ⟨ix3 j, (d4 j hj).2, rfl, fun _ _ => rfl⟩) (K2 := K) (fun q' e h => by
      have hq1 := (zr_oth h2 h).1
      have hq2 : K3 q' = some e := d8 q' e (by rw [va_up_n (by omega)]; exact h)
      refine ⟨hq2, by omega, fun j hj e2 => ?_⟩
      obtain ⟨own, g1, g2, -, -, -, g6, -⟩ := d2
      have k1 := g2 3 (ix3 j) (by omega) (d4 j hj).2
      have e2' : R 3 (ix3 j) = q' := e2
      rw [e2', g6 q' e hq2] at k1
      cases k1)
  have H5 := zr_cC (zr_cS H4 (s2 := zl_z N T (prS l 24).length) zl_zn) (C2 := zl_C (MS.of m.day m.coins m.felts m.made m.worth m.rags m.water m.pulp m.beat m.sort m.nM m.mark m.size m.worn m.nT m.skill m.vat m.pair m.nQ m.allS (a') (b') (c') (prL l 24 m.loft))) (fun k j c hk hj hc => by
    by_cases ck : k = 3
    · subst ck
      rw [if_pos rfl]
      have hj2 : j < (prS l 24).length := hj
      have hx := List.getElem?_eq_getElem hj2
      obtain ⟨y1, y2, y3⟩ := d6 j _ hx
      obtain ⟨w1, w2, w3⟩ := e2 j _ hx
      rw [Nat.zero_add] at w1 w2 w3
      rcases c with _ | _ | c
      · exact w1.trans y1.symm
      · exact w2.trans y2.symm
      · exact w3.trans y3.symm
    · rw [if_neg ck]
      rcases k with _ | _ | _ | _ | _ | _ | k
      · rfl
      · rfl
      · rfl
      · exact absurd rfl ck
      all_goals rfl)
  exact ⟨p1, p2, p3, q3, _, h1, n1, len2, d1, H5⟩
def zl_S (m m2 : MS) : Prop := (m2.coins = m.coins) ∧ (m2.felts = m.felts) ∧ (m2.rags = m.rags) ∧ (m2.water = m.water) ∧ (m2.nM = m.nM) ∧ (m2.mark = m.mark) ∧ (m2.size = m.size) ∧ (m2.nT = m.nT) ∧ (m2.skill = m.skill) ∧ (m2.vat = m.vat) ∧ (m2.pair = m.pair)
theorem zl_S.coins {m m2 : MS} (H : zl_S m m2) : m2.coins = m.coins := H.1
theorem zl_S.felts {m m2 : MS} (H : zl_S m m2) : m2.felts = m.felts := H.2.1
theorem zl_S.rags {m m2 : MS} (H : zl_S m m2) : m2.rags = m.rags := H.2.2.1
theorem zl_S.water {m m2 : MS} (H : zl_S m m2) : m2.water = m.water := H.2.2.2.1
theorem zl_S.nM {m m2 : MS} (H : zl_S m m2) : m2.nM = m.nM := H.2.2.2.2.1
theorem zl_S.mark {m m2 : MS} (H : zl_S m m2) : m2.mark = m.mark := H.2.2.2.2.2.1
theorem zl_S.size {m m2 : MS} (H : zl_S m m2) : m2.size = m.size := H.2.2.2.2.2.2.1
theorem zl_S.nT {m m2 : MS} (H : zl_S m m2) : m2.nT = m.nT := H.2.2.2.2.2.2.2.1
theorem zl_S.skill {m m2 : MS} (H : zl_S m m2) : m2.skill = m.skill := H.2.2.2.2.2.2.2.2.1
theorem zl_S.vat {m m2 : MS} (H : zl_S m m2) : m2.vat = m.vat := H.2.2.2.2.2.2.2.2.2.1
theorem zl_S.pair {m m2 : MS} (H : zl_S m m2) : m2.pair = m.pair := H.2.2.2.2.2.2.2.2.2.2
theorem zl_day {D N T F0 q : Nat} {l : List pz_PT} {m : MS} (C : CI D N T F0 l m) (hD : D < 1000000) (hq : q ≤ 9) (hw : m.water (D % 7) = nI q) : ∃ l2 m2 a S1,
    fX0_liveDay m.day m.felts m.made m.worth m.water m.pulp m.beat m.sort m.nM m.mark m.size m.worn m.nT m.skill m.vat m.pair m.nQ m.allS m.pmark m.pgrade m.psheets m.loft = some (m2.day, m2.made, m2.worth, m2.pulp, m2.beat, m2.sort, m2.worn, m2.nQ, m2.allS, m2.pmark, m2.pgrade, m2.psheets, m2.loft) ∧
    CI (D + 1) N T F0 l2 m2 ∧ zl_S m m2 ∧ m2.made = m.made + nI a ∧ S1 ≤ F0 ∧ sumS l2 = S1 - min 24 S1 ∧
    (∀ v, v < 4 → m2.pulp v ≠ nI 0 → m.pulp v ≠ nI 0 ∧ m2.beat v = zl_bt m q v ∧ m2.sort v = m.sort v) ∧
    (∀ G F p R K, SR m N T l.length G F p R K → ∃ G2 F2 p2 R2, fX6_pass G F p = some (nI a, G2, F2, p2) ∧ SR m2 N T l2.length G2 F2 p2 R2 K ∧ ∀ i, i ≠ 10 → F2 i = F i) ∧
    (∀ (X : XT) F p sz R Cc K q13 q14 q16 B, zl_V N T m X.1 → (∀ bt : FN, (∀ v, bt v = zl_bt m q v) → zl_E N (MS.of m.day m.coins m.felts m.made m.worth m.rags m.water m.pulp (bt) m.sort m.nM m.mark m.size m.worn m.nT m.skill m.vat m.pair m.nQ m.allS m.pmark m.pgrade m.psheets m.loft) K q13 q14 q16 B) → zr p F sz R Cc K → sz 2 = T → ∃ p2 K2, fLL_law_381 X F q13 q14 q16 300 p (nI (F0 - sumS l)) (nI 0) (nI 0) = some (p2, nI (F0 - S1), nI a) ∧ zr p2 F sz R Cc K2 ∧ zl_E N m2 K2 q13 q14 q16 B ∧ ∀ r, r ≠ q13 → r ≠ q16 → K2 r = K r) := by
  obtain ⟨bt, hbt, bt2⟩ := zl_beatC C.pu C.be hq
  have hT := C.Tle
  have Cb : CI D N T F0 l (MS.of m.day m.coins m.felts m.made m.worth m.rags m.water m.pulp (bt) m.sort m.nM m.mark m.size m.worn m.nT m.skill m.vat m.pair m.nQ m.allS m.pmark m.pgrade m.psheets m.loft) := ⟨C.day, C.fel, C.Fle, C.nM, C.Nle, C.nT, C.Tle, C.pu, fun v hv => by
    show ∃ n, n ≤ 99 ∧ bt v = nI n
    rw [bt2 v]
    unfold zl_bt
    split
    · exact ⟨_, Nat.min_le_left _ _, rfl⟩
    · exact C.be v hv, fun v hv hp => by
    have h := C.em v hv hp
    refine ⟨?_, h.2⟩
    show bt v = nI 0
    rw [bt2 v]
    unfold zl_bt
    rw [if_neg (fun h2 => h2.2 hp)]
    exact h.1, C.so, C.mk, C.sz, C.wn, C.sk, C.vt, C.pr, C.un, C.wa, C.nQ, C.al, C.sl, C.ok, C.ec, C.lo⟩
  obtain ⟨l1, m1, a, C1, kk, t3, t4, t5⟩ := zl_teams (nI D) T 0 l (MS.of m.day m.coins m.felts m.made m.worth m.rags m.water m.pulp (bt) m.sort m.nM m.mark m.size m.worn m.nT m.skill m.vat m.pair m.nQ m.allS m.pmark m.pgrade m.psheets m.loft) Cb (Nat.zero_add T)
  obtain ⟨a', b', c', g1, g2, g3, g4⟩ := zl_press C1
  refine ⟨prS l1 24, (MS.of (nI (D + 1)) m1.coins m1.felts (m.made + nI a) m1.worth m1.rags m1.water m1.pulp m1.beat m1.sort m1.nM m1.mark m1.size m1.worn m1.nT m1.skill m1.vat m1.pair (nI (prS l1 24).length) (nI (sumS (prS l1 24))) (a') (b') (c') (prL l1 24 m1.loft)), a, sumS l1, ?_, ?_, ⟨kk.coins, kk.felts, kk.rags, kk.water, kk.nM, kk.mark, kk.size, kk.nT, kk.skill, kk.vat, kk.pair⟩, rfl, C1.sl, g3, ?_, fun G F p R K H => ?_, fun X F p sz R Cc K q13 q14 q16 B V E H hs => ?_⟩
  · unfold fX0_liveDay
    rw [C.day, pb_floorMod hD, pu_bs, show (7 : Nat) = 7 from rfl, pu_ck (by omega) (by omega), pu_tn (by omega), hw, hbt, pu_bs]
    refine (t3 300 m.made (by omega)).trans ?_
    rw [← kk.loft, g1, pu_bs, show nI D + 1 = nI (D + 1) from pu_add D 1]
  · refine ⟨rfl, C1.fel, C1.Fle, C1.nM, C1.Nle, C1.nT, C1.Tle, C1.pu, C1.be, C1.em, C1.so, C1.mk, C1.sz, C1.wn, C1.sk, C1.vt, C1.pr, C1.un, C1.wa, rfl, rfl, ?_, ok_prS l1 24 C1.ok, g2, fun j hj => ?_⟩
    · have := C1.sl
      omega
    · obtain ⟨y, y1, y2⟩ := zl_prL l1 24 (24 * D) m1.loft C1.lo C1.ok j hj
      exact ⟨y, by omega, y2⟩
  · intro v hv hp
    obtain ⟨k1, k2, k3⟩ := kk.keep v hv hp
    exact ⟨k1, k2.trans (bt2 v), k3⟩
  · obtain ⟨bt', p2, b1, b2, b3, b4, b5⟩ := zl_beat C H hD hq hw
    have hbb : bt' = bt := Option.some.inj (b1.symm.trans hbt)
    rw [hbb] at b4
    obtain ⟨G2, F2, p3, R2, d1, d2, d3⟩ := t4 G F p2 R K 5 0 b4 (by omega)
    obtain ⟨p4, p5, p6, q6, R3, f1, f2, f3, f4, f5⟩ := g4 F2 p3 R2 K d2.r
    have len7 : zs_len p (F 7) = some (nI 4) := zr_len H.r (k := 0) (by omega)
    have len9 : zs_len p2 (F 9) = some (nI T) := zr_len b4.r (k := 2) (by omega)
    have len10 : zs_len p3 (F2 10) = some (nI l1.length) := zr_len d2.r (k := 3) (by omega)
    have d1' : fLX6_pass_126 (F 9) (nI T) 5 G F p2 0 0 = some (G2, F2, p3, 0 + nI a) := d1
    have f5' := zr_cC (C2 := zl_C (MS.of (nI (D + 1)) m1.coins m1.felts (m.made + nI a) m1.worth m1.rags m1.water m1.pulp m1.beat m1.sort m1.nM m1.mark m1.size m1.worn m1.nT m1.skill m1.vat m1.pair (nI (prS l1 24).length) (nI (sumS (prS l1 24))) (a') (b') (c') (prL l1 24 m1.loft))) f5 (fun k j c _ _ _ => congrFun (congrFun (congrFun (zl_CE rfl rfl rfl rfl rfl rfl rfl rfl rfl rfl rfl rfl rfl rfl rfl) k) j) c)
    have e0 : upd (upd G2 3 (G2 3 + nI a)) 0 (G2 0 + 1) 0 = nI (D + 1) := by
      rw [pu_up, d2.g0, C1.day]
      exact pu_add D 1
    have e3 : upd (upd G2 3 (G2 3 + nI a)) 0 (G2 0 + 1) 3 = m.made + nI a := by
      rw [pu_un (by decide), pu_up, d2.g3, kk.made]
    refine ⟨upd (upd G2 3 (G2 3 + nI a)) 0 (G2 0 + 1), va_up F2 10 q6, p6, R3, ?_, ⟨e0, (pu_un (by decide)).trans ((pu_un (by decide)).trans d2.g1), (pu_un (by decide)).trans ((pu_un (by decide)).trans d2.g2), e3, (pu_un (by decide)).trans ((pu_un (by decide)).trans d2.g4), f5'⟩, fun i hi => (va_up_n hi).trans (d3 i hi)⟩
    unfold fX6_pass
    rw [len7, pu_bs, b2, pu_bs, pu_bs, b3, pu_bs, len9, pu_bs, d1', pu_bs]
    dsimp only
    rw [len10, pu_bs, f1, pu_bs, f2, pu_bs, f3, pu_bs, f4, pu_bs, show (0 : Int32) + nI a = nI a from Int32.zero_add _]
  · obtain ⟨p2, K2, x1, x2, x3, x4⟩ := t5 X F p sz R Cc K q13 q14 q16 B 300 0 ⟨V.nT, V.nM, V.skill, V.vat, V.pair, V.size⟩ (E bt bt2) H hs (by omega)
    rw [Nat.zero_add] at x1
    exact ⟨p2, K2, x1, x2, ⟨x3.h13, x3.h14, x3.hB, x3.h16, x3.d1, x3.d2, x3.d3⟩, x4⟩
