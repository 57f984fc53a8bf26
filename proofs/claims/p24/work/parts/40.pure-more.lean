/-! the law's own helpers, over rows -/
theorem zl_below {x : Int32} {n : Nat} (hn : 0 < n) (hb : n < 2147483648) : ∃ r, r < n ∧ fL_below x (nI n) = some (nI r) := by
  have h0 : 0 ≤ (x &&& 2147483647).toInt := by
    show 0 ≤ ((x &&& 2147483647 : Int32).toBitVec).toInt
    refine BitVec.toInt_nonneg_of_msb_false ?_
    rw [Int32.toBitVec_and, BitVec.msb_and, show (2147483647 : Int32).toBitVec.msb = false from by decide, Bool.and_false]
  obtain ⟨y, hy, ey, -⟩ := pu_nat h0
  refine ⟨y % n, Nat.mod_lt _ hn, ?_⟩
  unfold fL_below
  rw [pu_ckz hn hb, ey, pu_div hy hb, pu_mul, pu_sub (Nat.div_mul_le_self y n)]
  congr 2
  have := Nat.div_add_mod y n
  rw [Nat.mul_comm] at this
  omega
/-- a new row of rows, one longer -/
theorem zl_moreL {p : zs_H} {a n : Nat} {g : Nat → Option Nat} (ha : a < p.1) (he : p.2 a = .inr (n, g)) (hg : ∀ j, j < n → ∃ i x, g j = some i ∧ i < p.1 ∧ p.2 i = .inl x) (hn : n ≤ 92) : ∀ (d i k : Nat) (h : Nat → Option Nat), i + d = n → d < k → (∀ j, j < i → h j = g j) →
    ∃ h', fLX6_more_10 a p.1 k (p.1 + 1, va_up p.2 p.1 (.inr (n + 1, h))) (nI i) = some (p.1 + 1, va_up p.2 p.1 (.inr (n + 1, h'))) ∧ ∀ j, j < n → h' j = g j
  | d, i, 0, h, hi, hk, hh => absurd hk (Nat.not_lt_zero _)
  | 0, i, k + 1, h, hi, hk, hh => by
    refine ⟨h, ?_, fun j hj => hh j (by omega)⟩
    have e1 : va_up p.2 p.1 (.inr (n + 1, h)) a = .inr (n, g) := by rw [va_up_n (by omega)]; exact he
    rw [fLX6_more_10]
    have e2 : zs_len (p.1 + 1, va_up p.2 p.1 (.inr (n + 1, h))) a = some (nI n) := by
      unfold zs_len
      rw [if_pos (show a < p.1 + 1 by omega)]
      show (match va_up p.2 p.1 (.inr (n + 1, h)) a with | .inl (k, _) => some (Int32.ofNat k) | .inr (k, _) => some (Int32.ofNat k)) = _
      rw [e1]
      rfl
    rw [e2, pu_bs, if_pos (by rw [pu_le (by omega) (by omega)]; omega)]
  | d + 1, i, k + 1, h, hi, hk, hh => by
    obtain ⟨id, x, hgi, hid, hx⟩ := hg i (by omega)
    have e1 : va_up p.2 p.1 (.inr (n + 1, h)) a = .inr (n, g) := by rw [va_up_n (by omega)]; exact he
    have e3 : va_up p.2 p.1 (.inr (n + 1, h)) id = .inl x := by rw [va_up_n (by omega)]; exact hx
    have e2 : zs_len (p.1 + 1, va_up p.2 p.1 (.inr (n + 1, h))) a = some (nI n) := by
      unfold zs_len
      rw [if_pos (show a < p.1 + 1 by omega)]
      show (match va_up p.2 p.1 (.inr (n + 1, h)) a with | .inl (k, _) => some (Int32.ofNat k) | .inr (k, _) => some (Int32.ofNat k)) = _
      rw [e1]
      rfl
    have e4 : zs_ldr (p.1 + 1, va_up p.2 p.1 (.inr (n + 1, h))) a (nI i) = some id := by
      unfold zs_ldr
      rw [if_pos (show a < p.1 + 1 by omega)]
      show (match va_up p.2 p.1 (.inr (n + 1, h)) a with | .inl _ => none | .inr (k, g) => ckI (nI i) k (g (nI i).toNatClampNeg)) = _
      rw [e1]
      show ckI (nI i) n (g (nI i).toNatClampNeg) = _
      rw [pu_ck (by omega) (by omega), pu_tn (by omega), hgi]
    have e5 : zs_str (p.1 + 1, va_up p.2 p.1 (.inr (n + 1, h))) p.1 (nI i) id = some (p.1 + 1, va_up p.2 p.1 (.inr (n + 1, va_up h i (some id)))) := by
      unfold zs_str
      rw [if_pos (show p.1 < p.1 + 1 ∧ id < p.1 + 1 by omega)]
      show (match va_up p.2 p.1 (.inr (n + 1, h)) p.1, va_up p.2 p.1 (.inr (n + 1, h)) id with | .inr (k, g), .inl _ => ckI (nI i) k (some (p.1 + 1, va_up (va_up p.2 p.1 (.inr (n + 1, h))) p.1 (.inr (k, va_up g (nI i).toNatClampNeg (some id))))) | _, _ => none) = _
      rw [va_up_p, e3]
      show ckI (nI i) (n + 1) (some (p.1 + 1, va_up (va_up p.2 p.1 (.inr (n + 1, h))) p.1 (.inr (n + 1, va_up h (nI i).toNatClampNeg (some id))))) = _
      rw [pu_ck (by omega) (by omega), pu_tn (by omega), va_upup]
    obtain ⟨h', a1, a2⟩ := zl_moreL ha he hg hn d (i + 1) k (va_up h i (some id)) (by omega) (by omega) (fun j hj => by
      by_cases c : j = i
      · rw [c, va_up_p, hgi]
      · rw [va_up_n c]; exact hh j (by omega))
    refine ⟨h', ?_, a2⟩
    rw [fLX6_more_10, e2, pu_bs, if_neg (by rw [pu_le (by omega) (by omega)]; omega), e4, pu_bs, e5, pu_bs, show (1 : Int32) = nI 1 from rfl, pu_add]
    exact a1
theorem zl_more {p : zs_H} {a r n : Nat} {g : Nat → Option Nat} {y : Nat × FN} (ha : a < p.1) (he : p.2 a = .inr (n, g)) (hg : ∀ j, j < n → ∃ i x, g j = some i ∧ i < p.1 ∧ p.2 i = .inl x) (hr : r < p.1) (hy : p.2 r = .inl y) (hn : n + 1 ≤ 92) :
    ∃ g', fX6_more p a r = some (p.1, (p.1 + 1, va_up p.2 p.1 (.inr (n + 1, g')))) ∧ (∀ j, j < n → g' j = g j) ∧ g' n = some r := by
  obtain ⟨h', a1, a2⟩ := zl_moreL ha he hg (by omega) n 0 300 (fun _ => none) (by omega) (by omega) (fun j hj => absurd hj (Nat.not_lt_zero _))
  have e0 : zs_len p a = some (nI n) := by
    unfold zs_len
    rw [if_pos ha, he]
    rfl
  have e1 : zs_nwr p (nI (n + 1)) 92 = some (p.1 + 1, va_up p.2 p.1 (.inr (n + 1, fun _ => none))) := by
    unfold zs_nwr
    rw [pu_ti (by omega), if_pos (by omega), pu_tn (by omega)]
  have e2 : zs_len (p.1 + 1, va_up p.2 p.1 (.inr (n + 1, h'))) a = some (nI n) := by
    unfold zs_len
    rw [if_pos (show a < p.1 + 1 by omega)]
    show (match va_up p.2 p.1 (.inr (n + 1, h')) a with | .inl (k, _) => some (Int32.ofNat k) | .inr (k, _) => some (Int32.ofNat k)) = _
    rw [va_up_n (by omega), he]
    rfl
  have e3 : zs_str (p.1 + 1, va_up p.2 p.1 (.inr (n + 1, h'))) p.1 (nI n) r = some (p.1 + 1, va_up p.2 p.1 (.inr (n + 1, va_up h' n (some r)))) := by
    unfold zs_str
    rw [if_pos (show p.1 < p.1 + 1 ∧ r < p.1 + 1 by omega)]
    show (match va_up p.2 p.1 (.inr (n + 1, h')) p.1, va_up p.2 p.1 (.inr (n + 1, h')) r with | .inr (k, g), .inl _ => ckI (nI n) k (some (p.1 + 1, va_up (va_up p.2 p.1 (.inr (n + 1, h'))) p.1 (.inr (k, va_up g (nI n).toNatClampNeg (some r))))) | _, _ => none) = _
    rw [va_up_p, va_up_n (show r ≠ p.1 by omega), hy]
    show ckI (nI n) (n + 1) (some (p.1 + 1, va_up (va_up p.2 p.1 (.inr (n + 1, h'))) p.1 (.inr (n + 1, va_up h' (nI n).toNatClampNeg (some r))))) = _
    rw [pu_ck (by omega) (by omega), pu_tn (by omega), va_upup]
  refine ⟨va_up h' n (some r), ?_, fun j hj => ?_, va_up_p⟩
  · unfold fX6_more
    rw [e0, pu_bs, show (1 : Int32) = nI 1 from rfl, pu_add, e1, pu_bs, show (0 : Int32) = nI 0 from rfl, a1, pu_bs, e2, pu_bs, e3, pu_bs]
  · rw [va_up_n (by omega)]; exact a2 j hj
/-- one more row for a kind -/
theorem zr_grow {p : zs_H} {F : Nat → Nat} {sz : Nat → Nat} {R : Nat → Nat → Nat} {C : Nat → Nat → Nat → Int32} {K : Nat → Option zs_E} (H : zr p F sz R C K) {k r : Nat} {f : FN} (hk : k < 5) (hr : K r = some (.inl (3, f))) (hn : sz k + 1 ≤ 92) :
    ∃ p2, fX6_more p (F (7 + k)) r = some (p.1, p2) ∧ p2.1 = p.1 + 1 ∧ zr p2 (va_up F (7 + k) p.1) (va_up sz k (sz k + 1)) (fun k' j' => if k' = k then (if j' = sz k then r else R k j') else R k' j') (fun k' j' => if k' = k then (if j' = sz k then f else C k j') else C k' j') (va_up (va_up K r none) p.1 none) := by
  obtain ⟨ho1, g, ho2, ho3⟩ := zr_out H hk
  obtain ⟨hr1, hr2⟩ := zr_oth H hr
  obtain ⟨g', m1, m2, m3⟩ := zl_more ho1 ho2 (fun j hj => by
    obtain ⟨a1, f2, a2, -⟩ := zr_row H (k := k) (j := j) (by omega) hj
    exact ⟨R k j, _, ho3 j hj, a1, a2⟩) hr1 hr2 hn
  refine ⟨_, m1, rfl, ?_⟩
  have H2 := zr_push H (.inr (sz k + 1, g'))
  have hne : r ≠ p.1 := by omega
  have hRr : ∀ j, j < sz k → R k j ≠ r := fun j hj e => by
    obtain ⟨own, g1, g2, -, -, -, g6, -⟩ := H
    have h1 := g2 k j (by omega) hj
    rw [e, g6 r _ hr] at h1
    cases h1
  have hinjR : ∀ i j, i < sz k → j < sz k → R k i = R k j → i = j := fun i j hi hj e => by
    obtain ⟨own, g1, g2, -, -, -, -, -⟩ := H
    have h1 := g2 k i (by omega) hi
    have h2 := g2 k j (by omega) hj
    rw [e, h2] at h1
    exact (congrArg Prod.snd (Sum.inl.inj (Option.some.inj h1))).symm
  refine zr_new (ids := fun j => if j = sz k then r else R k j) (C2 := fun j => if j = sz k then f else C k j) H2 hk (q := p.1) (n := sz k + 1) (g := g') va_up_p (fun j hj => ?_) (fun i j hi hj e => ?_) (fun j hj => ?_) (fun q' e h => ?_)
  · by_cases c : j = sz k
    · rw [if_pos c, c]; exact m3
    · rw [if_neg c, m2 j (by omega)]; exact ho3 j (by omega)
  · by_cases c1 : i = sz k
    · by_cases c2 : j = sz k
      · omega
      · rw [if_pos c1, if_neg c2] at e
        exact absurd e.symm (hRr j (by omega))
    · by_cases c2 : j = sz k
      · rw [if_neg c1, if_pos c2] at e
        exact absurd e (hRr i (by omega))
      · rw [if_neg c1, if_neg c2] at e
        exact hinjR i j (by omega) (by omega) e
  · by_cases c : j = sz k
    · refine Or.inr ⟨f, ?_, fun d _ => ?_⟩
      · rw [if_pos c, va_up_n hne]; exact hr
      · rw [if_pos c]
    · refine Or.inl ⟨j, by omega, if_neg c, fun d _ => ?_⟩
      rw [if_neg c]
  · by_cases c1 : q' = p.1
    · rw [c1, va_up_p] at h; cases h
    · rw [va_up_n c1] at h
      by_cases c2 : q' = r
      · rw [c2, va_up_p] at h; cases h
      · rw [va_up_n c2] at h
        refine ⟨by rw [va_up_n c1]; exact h, c1, fun j hj e2 => ?_⟩
        by_cases c : j = sz k
        · rw [if_pos c] at e2; exact c2 e2.symm
        · rw [if_neg c] at e2
          obtain ⟨own, g1, g2, -, -, -, g6, -⟩ := H
          have h1 := g2 k j (by omega) (by omega)
          rw [e2, g6 q' e h] at h1
          cases h1
