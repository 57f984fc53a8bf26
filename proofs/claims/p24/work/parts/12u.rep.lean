/-! the law's rows seen as tables: kinds 0 vats, 1 pairs, 2 teams, 3 posts, 4 loft, 5 rags, 6 water -/
def zr_w (k : Nat) : Nat := if k = 6 then 7 else 3
theorem zr_w7 (k : Nat) : zr_w k ≤ 7 := by unfold zr_w; split <;> omega
theorem zr_w3 {k : Nat} (h : k ≠ 6) : zr_w k = 3 := if_neg h
abbrev zr_T : Type := (Nat × Nat) ⊕ (Nat ⊕ zs_E)
def zr_m (sz : Nat → Nat) (R : Nat → Nat → Nat) (C : Nat → Nat → Nat → Int32) (t : zr_T) (e : zs_E) : Prop := match t with
  | .inl (k, j) => ∃ f, e = .inl (zr_w k, f) ∧ ∀ c, c < zr_w k → f c = C k j c
  | .inr (.inl k) => ∃ g, e = .inr (sz k, g) ∧ ∀ j, j < sz k → g j = some (R k j)
  | .inr (.inr e') => e = e'
def zr_O (own : Nat → Option zr_T) (p : zs_H) (F : Nat → Nat) (sz : Nat → Nat) (R : Nat → Nat → Nat) (C : Nat → Nat → Nat → Int32) (K : Nat → Option zs_E) : Prop :=
  (∀ q t, own q = some t → q < p.1 ∧ zr_m sz R C t (p.2 q)) ∧
  (∀ k j, k < 7 → j < sz k → own (R k j) = some (.inl (k, j))) ∧
  (∀ k, k < 5 → own (F (7 + k)) = some (.inr (.inl k))) ∧
  (∀ q k j, own q = some (.inl (k, j)) → k < 7 ∧ j < sz k ∧ q = R k j) ∧
  (∀ q k, own q = some (.inr (.inl k)) → k < 5 ∧ q = F (7 + k)) ∧
  (∀ q e, K q = some e → own q = some (.inr (.inr e))) ∧ (sz 5 = 1 ∧ sz 6 = 1 ∧ R 5 0 = F 6 ∧ R 6 0 = F 5)
/-- sz: how many of a kind; R: a row's number; C: what it holds; K: other rows, as they are -/
def zr (p : zs_H) (F : Nat → Nat) (sz : Nat → Nat) (R : Nat → Nat → Nat) (C : Nat → Nat → Nat → Int32) (K : Nat → Option zs_E) : Prop := ∃ own, zr_O own p F sz R C K
def zr_c (C : Nat → Nat → Nat → Int32) (k j c : Nat) (v : Int32) : Nat → Nat → Nat → Int32 := fun k' j' c' => if k' = k ∧ j' = j ∧ c' = c then v else C k' j' c'
/-- a whole row set -/
def zr_r (C : Nat → Nat → Nat → Int32) (k j : Nat) (f : FN) : Nat → Nat → Nat → Int32 := fun k' j' c' => if k' = k ∧ j' = j then f c' else C k' j' c'
def zr_u (R : Nat → Nat → Nat) (k j q : Nat) : Nat → Nat → Nat := fun k' j' => if k' = k ∧ j' = j then q else R k' j'
def zr_e : Nat → Option zs_E := fun _ => none
section ZR
variable {p : zs_H} {F : Nat → Nat} {sz : Nat → Nat} {R : Nat → Nat → Nat} {C : Nat → Nat → Nat → Int32} {K : Nat → Option zs_E}
theorem zr_row (H : zr p F sz R C K) {k j : Nat} (hk : k < 7) (hj : j < sz k) : R k j < p.1 ∧ ∃ f, p.2 (R k j) = .inl (zr_w k, f) ∧ ∀ c, c < zr_w k → f c = C k j c := by
  obtain ⟨own, h1, h2, -⟩ := H
  exact h1 _ _ (h2 k j hk hj)
theorem zr_out (H : zr p F sz R C K) {k : Nat} (hk : k < 5) : F (7 + k) < p.1 ∧ ∃ g, p.2 (F (7 + k)) = .inr (sz k, g) ∧ ∀ j, j < sz k → g j = some (R k j) := by
  obtain ⟨own, h1, -, h3, -⟩ := H
  exact h1 _ _ (h3 k hk)
theorem zr_oth (H : zr p F sz R C K) {q : Nat} {e : zs_E} (hq : K q = some e) : q < p.1 ∧ p.2 q = e := by
  obtain ⟨own, h1, -, -, -, -, h6, -⟩ := H
  exact h1 _ _ (h6 q e hq)
theorem zr_F6 (H : zr p F sz R C K) : sz 5 = 1 ∧ sz 6 = 1 ∧ R 5 0 = F 6 ∧ R 6 0 = F 5 := by
  obtain ⟨own, -, -, -, -, -, -, h7⟩ := H
  exact h7
theorem zr_ldI {q n c : Nat} {f : FN} (hq : q < p.1) (he : p.2 q = .inl (n, f)) (hc : c < n) (hn : n < 2147483648) : zs_ld p q (nI c) = some (f c) := by
  unfold zs_ld
  rw [if_pos hq, he]
  show ckI (nI c) n (some (f (nI c).toNatClampNeg)) = _
  rw [pu_ck hc hn, pu_tn (by omega)]
theorem zr_ld (H : zr p F sz R C K) {k j c : Nat} (hk : k < 7) (hj : j < sz k) (hc : c < zr_w k) : zs_ld p (R k j) (nI c) = some (C k j c) := by
  obtain ⟨h1, f, h2, h3⟩ := zr_row H hk hj
  have := zr_w7 k
  rw [zr_ldI h1 h2 hc (by omega), h3 c hc]
theorem zr_ldr (H : zr p F sz R C K) {k j : Nat} (hk : k < 5) (hj : j < sz k) (hs : sz k < 2147483648) : zs_ldr p (F (7 + k)) (nI j) = some (R k j) := by
  obtain ⟨h1, g, h2, h3⟩ := zr_out H hk
  unfold zs_ldr
  rw [if_pos h1, h2]
  show ckI (nI j) (sz k) (g (nI j).toNatClampNeg) = _
  rw [pu_ck hj hs, pu_tn (by omega), h3 j hj]
theorem zr_len (H : zr p F sz R C K) {k : Nat} (hk : k < 5) : zs_len p (F (7 + k)) = some (nI (sz k)) := by
  obtain ⟨h1, g, h2, h3⟩ := zr_out H hk
  unfold zs_len
  rw [if_pos h1, h2]
  rfl
theorem zr_kld (H : zr p F sz R C K) {q n c : Nat} {f : FN} (hq : K q = some (.inl (n, f))) (hc : c < n) (hn : n < 2147483648) : zs_ld p q (nI c) = some (f c) := by
  obtain ⟨h1, h2⟩ := zr_oth H hq
  exact zr_ldI h1 h2 hc hn
theorem zr_kldr (H : zr p F sz R C K) {q n j v : Nat} {g : Nat → Option Nat} (hq : K q = some (.inr (n, g))) (hj : j < n) (hn : n < 2147483648) (hg : g j = some v) : zs_ldr p q (nI j) = some v := by
  obtain ⟨h1, h2⟩ := zr_oth H hq
  unfold zs_ldr
  rw [if_pos h1, h2]
  show ckI (nI j) n (g (nI j).toNatClampNeg) = _
  rw [pu_ck hj hn, pu_tn (by omega), hg]
theorem zr_klen (H : zr p F sz R C K) {q n : Nat} {g : Nat → Option Nat} (hq : K q = some (.inr (n, g))) : zs_len p q = some (nI n) := by
  obtain ⟨h1, h2⟩ := zr_oth H hq
  unfold zs_len
  rw [if_pos h1, h2]
  rfl
theorem zr_klenI (H : zr p F sz R C K) {q n : Nat} {f : FN} (hq : K q = some (.inl (n, f))) : zs_len p q = some (nI n) := by
  obtain ⟨h1, h2⟩ := zr_oth H hq
  unfold zs_len
  rw [if_pos h1, h2]
  rfl
theorem zr_stI {q n c : Nat} {f : FN} {v : Int32} (hq : q < p.1) (he : p.2 q = .inl (n, f)) (hc : c < n) (hn : n < 2147483648) : zs_st p q (nI c) v = some (p.1, va_up p.2 q (.inl (n, upd f c v))) := by
  unfold zs_st
  rw [if_pos hq, he]
  show ckI (nI c) n (some (p.1, va_up p.2 q (.inl (n, upd f (nI c).toNatClampNeg v)))) = _
  rw [pu_ck hc hn, pu_tn (by omega)]
/-- a row of a kind changed at a place -/
theorem zr_st (H : zr p F sz R C K) {k j c : Nat} {v : Int32} (hk : k < 7) (hj : j < sz k) (hc : c < zr_w k) : ∃ p2, zs_st p (R k j) (nI c) v = some p2 ∧ p2.1 = p.1 ∧ zr p2 F sz R (zr_c C k j c v) K := by
  obtain ⟨h1, f, h2, h3⟩ := zr_row H hk hj
  have hw := zr_w7 k
  refine ⟨_, zr_stI h1 h2 hc (by omega), rfl, ?_⟩
  obtain ⟨own, g1, g2, g3, g4, g5, g6, g7⟩ := H
  refine ⟨own, fun q t ht => ⟨(g1 q t ht).1, ?_⟩, g2, g3, g4, g5, g6, g7⟩
  have hm := (g1 q t ht).2
  show zr_m sz R (zr_c C k j c v) t (va_up p.2 (R k j) (.inl (zr_w k, upd f c v)) q)
  by_cases e : q = R k j
  · subst e
    rw [va_up_p]
    have := g2 k j hk hj
    rw [ht] at this
    cases this
    refine ⟨_, rfl, fun d hd => ?_⟩
    unfold zr_c upd
    by_cases hdc : d = c
    · rw [if_pos hdc, if_pos ⟨rfl, rfl, hdc⟩]
    · rw [if_neg hdc, if_neg (fun h => hdc h.2.2)]
      exact h3 d hd
  · rw [va_up_n e]
    cases t with
    | inr t => cases t with
      | inl k2 => exact hm
      | inr e2 => exact hm
    | inl t =>
      obtain ⟨k2, j2⟩ := t
      obtain ⟨f2, m1, m2⟩ := hm
      refine ⟨f2, m1, fun d hd => ?_⟩
      rw [m2 d hd]
      unfold zr_c
      rw [if_neg (fun h => ?_)]
      obtain ⟨rfl, rfl, -⟩ := h
      exact e (g4 q _ _ ht).2.2
/-- another row changed: its own content alone -/
theorem zr_set (H : zr p F sz R C K) {q : Nat} {e e2 : zs_E} (hq : K q = some e) : zr (p.1, va_up p.2 q e2) F sz R C (va_up K q (some e2)) := by
  obtain ⟨own, g1, g2, g3, g4, g5, g6, g7⟩ := H
  have hoq := g6 q e hq
  refine ⟨va_up own q (some (.inr (.inr e2))), fun q2 t ht => ?_, fun k j hk hj => ?_, fun k hk => ?_, fun q2 k j h => ?_, fun q2 k h => ?_, fun q2 e3 h => ?_, g7⟩
  · by_cases c : q2 = q
    · subst c
      rw [va_up_p] at ht
      cases ht
      refine ⟨(g1 _ _ hoq).1, ?_⟩
      show va_up p.2 q2 e2 q2 = e2
      exact va_up_p
    · rw [va_up_n c] at ht
      refine ⟨(g1 q2 t ht).1, ?_⟩
      show zr_m sz R C t (va_up p.2 q e2 q2)
      rw [va_up_n c]
      exact (g1 q2 t ht).2
  · have h0 := g2 k j hk hj
    rw [va_up_n (fun c => by rw [c, hoq] at h0; cases h0)]
    exact h0
  · have h0 := g3 k hk
    rw [va_up_n (fun c => by rw [c, hoq] at h0; cases h0)]
    exact h0
  · by_cases c : q2 = q
    · rw [c, va_up_p] at h; cases h
    · rw [va_up_n c] at h; exact g4 q2 k j h
  · by_cases c : q2 = q
    · rw [c, va_up_p] at h; cases h
    · rw [va_up_n c] at h; exact g5 q2 k h
  · by_cases c : q2 = q
    · rw [c, va_up_p] at h; cases h; rw [c, va_up_p]
    · rw [va_up_n c] at h; rw [va_up_n c]; exact g6 q2 e3 h
theorem zr_kst (H : zr p F sz R C K) {q n c : Nat} {f : FN} {v : Int32} (hq : K q = some (.inl (n, f))) (hc : c < n) (hn : n < 2147483648) : ∃ p2, zs_st p q (nI c) v = some p2 ∧ p2.1 = p.1 ∧ zr p2 F sz R C (va_up K q (some (.inl (n, upd f c v)))) := by
  obtain ⟨h1, h2⟩ := zr_oth H hq
  exact ⟨_, zr_stI h1 h2 hc hn, rfl, zr_set H hq⟩
/-- a new row -/
theorem zr_push (H : zr p F sz R C K) (e : zs_E) : zr (p.1 + 1, va_up p.2 p.1 e) F sz R C (va_up K p.1 (some e)) := by
  obtain ⟨own, g1, g2, g3, g4, g5, g6, g7⟩ := H
  have hn : ∀ t, own p.1 ≠ some t := fun t h => Nat.lt_irrefl _ (g1 _ _ h).1
  refine ⟨va_up own p.1 (some (.inr (.inr e))), fun q2 t ht => ?_, fun k j hk hj => ?_, fun k hk => ?_, fun q2 k j h => ?_, fun q2 k h => ?_, fun q2 e3 h => ?_, g7⟩
  · by_cases c : q2 = p.1
    · subst c
      rw [va_up_p] at ht
      cases ht
      refine ⟨Nat.lt_succ_self _, ?_⟩
      show va_up p.2 p.1 e p.1 = e
      exact va_up_p
    · rw [va_up_n c] at ht
      refine ⟨Nat.lt_succ_of_lt (g1 q2 t ht).1, ?_⟩
      show zr_m sz R C t (va_up p.2 p.1 e q2)
      rw [va_up_n c]
      exact (g1 q2 t ht).2
  · have h0 := g2 k j hk hj
    rw [va_up_n (fun c => by rw [c] at h0; exact hn _ h0)]
    exact h0
  · have h0 := g3 k hk
    rw [va_up_n (fun c => by rw [c] at h0; exact hn _ h0)]
    exact h0
  · by_cases c : q2 = p.1
    · rw [c, va_up_p] at h; cases h
    · rw [va_up_n c] at h; exact g4 q2 k j h
  · by_cases c : q2 = p.1
    · rw [c, va_up_p] at h; cases h
    · rw [va_up_n c] at h; exact g5 q2 k h
  · by_cases c : q2 = p.1
    · rw [c, va_up_p] at h; cases h; rw [c, va_up_p]
    · rw [va_up_n c] at h; rw [va_up_n c]; exact g6 q2 e3 h
theorem zr_nwi (H : zr p F sz R C K) {n B : Nat} (hn : n ≤ B) (hB : B < 2147483648) : ∃ p2, zs_nwi p (nI n) B = some p2 ∧ p2.1 = p.1 + 1 ∧ zr p2 F sz R C (va_up K p.1 (some (.inl (n, fun _ => 0)))) := by
  refine ⟨_, ?_, rfl, zr_push H (.inl (n, fun _ => 0))⟩
  unfold zs_nwi
  rw [pu_ti (by omega), if_pos (by omega), pu_tn (by omega)]
theorem zr_nwr (H : zr p F sz R C K) {n B : Nat} (hn : n ≤ B) (hB : B < 2147483648) : ∃ p2, zs_nwr p (nI n) B = some p2 ∧ p2.1 = p.1 + 1 ∧ zr p2 F sz R C (va_up K p.1 (some (.inr (n, fun _ => none)))) := by
  refine ⟨_, ?_, rfl, zr_push H (.inr (n, fun _ => none))⟩
  unfold zs_nwr
  rw [pu_ti (by omega), if_pos (by omega), pu_tn (by omega)]
/-- another row becomes a row of a kind, at a place that was there -/
theorem zr_put (H : zr p F sz R C K) {k j q : Nat} {f : FN} (hk : k < 5) (hj : j < sz k) (hs : sz k < 2147483648) (hq : K q = some (.inl (3, f))) : ∃ p2, zs_str p (F (7 + k)) (nI j) q = some p2 ∧ p2.1 = p.1 ∧ zr p2 F sz (zr_u R k j q) (zr_r C k j f) (va_up K q none) := by
  obtain ⟨ho1, g, ho2, ho3⟩ := zr_out H hk
  obtain ⟨hq1, hq2⟩ := zr_oth H hq
  refine ⟨(p.1, va_up p.2 (F (7 + k)) (.inr (sz k, va_up g j (some q)))), ?_, rfl, ?_⟩
  · unfold zs_str
    rw [if_pos ⟨ho1, hq1⟩, ho2, hq2]
    show ckI (nI j) (sz k) (some (p.1, va_up p.2 (F (7 + k)) (.inr (sz k, va_up g (nI j).toNatClampNeg (some q))))) = _
    rw [pu_ck hj hs, pu_tn (by omega)]
  · obtain ⟨own, g1, g2, g3, g4, g5, g6, g7⟩ := H
    have hoq := g6 q _ hq
    have hqO : ∀ k', k' < 5 → F (7 + k') ≠ q := fun k' hk' c => by have := g3 k' hk'; rw [c, hoq] at this; cases this
    have hqR : ∀ k' j', k' < 7 → j' < sz k' → R k' j' ≠ q := fun k' j' hk' hj' c => by have := g2 k' j' hk' hj'; rw [c, hoq] at this; cases this
    have hold := g2 k j (by omega) hj
    have hRO : ∀ k', k' < 5 → F (7 + k') ≠ R k j := fun k' hk' c => by have := g3 k' hk'; rw [c, hold] at this; cases this
    refine ⟨va_up (va_up own (R k j) none) q (some (.inl (k, j))), fun q2 t ht => ?_, fun k2 j2 hk2 hj2 => ?_, fun k2 hk2 => ?_, fun q2 k2 j2 h => ?_, fun q2 k2 h => ?_, fun q2 e3 h => ?_, ?_⟩
    · by_cases c : q2 = q
      · subst c
        rw [va_up_p] at ht
        cases ht
        refine ⟨hq1, ?_⟩
        show zr_m sz _ _ (.inl (k, j)) (va_up p.2 (F (7 + k)) _ q2)
        rw [va_up_n (fun h => hqO k hk h.symm), hq2]
        refine ⟨f, by rw [zr_w3 (by omega)], fun d _ => ?_⟩
        show f d = if k = k ∧ j = j then f d else _
        rw [if_pos ⟨rfl, rfl⟩]
      · rw [va_up_n c] at ht
        by_cases c2 : q2 = R k j
        · rw [c2, va_up_p] at ht; cases ht
        · rw [va_up_n c2] at ht
          obtain ⟨m1, m2⟩ := g1 q2 t ht
          refine ⟨m1, ?_⟩
          show zr_m sz (zr_u R k j q) (zr_r C k j f) t (va_up p.2 (F (7 + k)) _ q2)
          cases t with
          | inl t =>
            obtain ⟨k2, j2⟩ := t
            have hne : q2 ≠ F (7 + k) := fun h => by rw [h, g3 k hk] at ht; cases ht
            rw [va_up_n hne]
            obtain ⟨f2, n1, n2⟩ := m2
            refine ⟨f2, n1, fun d hd => ?_⟩
            rw [n2 d hd]
            unfold zr_r
            rw [if_neg (fun h => ?_)]
            obtain ⟨rfl, rfl⟩ := h
            exact c2 (g4 q2 _ _ ht).2.2
          | inr t => cases t with
            | inr e2 =>
              have hne : q2 ≠ F (7 + k) := fun h => by rw [h, g3 k hk] at ht; cases ht
              rw [va_up_n hne]
              exact m2
            | inl k2 =>
              obtain ⟨hk2, hq2e⟩ := g5 q2 k2 ht
              by_cases c3 : k2 = k
              · subst c3
                subst hq2e
                rw [va_up_p]
                refine ⟨_, rfl, fun j2 hj2 => ?_⟩
                unfold va_up zr_u
                by_cases c4 : j2 = j
                · rw [if_pos c4, if_pos ⟨rfl, c4⟩]
                · rw [if_neg c4, if_neg (fun h => c4 h.2)]
                  exact ho3 j2 hj2
              · have hne : q2 ≠ F (7 + k) := fun h => by
                  rw [h, g3 k hk] at ht
                  exact c3 (Sum.inl.inj (Sum.inr.inj (Option.some.inj ht))).symm
                rw [va_up_n hne]
                obtain ⟨g', n1, n2⟩ := m2
                refine ⟨g', n1, fun j2 hj2 => ?_⟩
                rw [n2 j2 hj2]
                unfold zr_u
                rw [if_neg (fun h => c3 h.1)]
    · by_cases c : k2 = k ∧ j2 = j
      · obtain ⟨rfl, rfl⟩ := c
        show va_up _ _ _ (if k2 = k2 ∧ j2 = j2 then q else _) = _
        rw [if_pos ⟨rfl, rfl⟩, va_up_p]
      · show va_up _ _ _ (if k2 = k ∧ j2 = j then q else R k2 j2) = _
        rw [if_neg c, va_up_n (hqR k2 j2 hk2 hj2), va_up_n (fun h => ?_)]
        · exact g2 k2 j2 hk2 hj2
        · have a1 := g2 k2 j2 hk2 hj2
          rw [h, hold] at a1
          have a2 := Sum.inl.inj (Option.some.inj a1)
          exact c ⟨(congrArg Prod.fst a2).symm, (congrArg Prod.snd a2).symm⟩
    · rw [va_up_n (hqO k2 hk2), va_up_n (hRO k2 hk2)]
      exact g3 k2 hk2
    · by_cases c : q2 = q
      · subst c
        rw [va_up_p] at h
        cases h
        refine ⟨by omega, hj, ?_⟩
        show q2 = if k = k ∧ j = j then q2 else _
        rw [if_pos ⟨rfl, rfl⟩]
      · rw [va_up_n c] at h
        by_cases c2 : q2 = R k j
        · rw [c2, va_up_p] at h; cases h
        · rw [va_up_n c2] at h
          obtain ⟨a1, a2, a3⟩ := g4 q2 k2 j2 h
          refine ⟨a1, a2, ?_⟩
          unfold zr_u
          rw [if_neg (fun h2 => ?_)]
          · exact a3
          · obtain ⟨rfl, rfl⟩ := h2
            exact c2 a3
    · by_cases c : q2 = q
      · rw [c, va_up_p] at h; cases h
      · rw [va_up_n c] at h
        by_cases c2 : q2 = R k j
        · rw [c2, va_up_p] at h; cases h
        · rw [va_up_n c2] at h; exact g5 q2 k2 h
    · by_cases c : q2 = q
      · rw [c, va_up_p] at h; cases h
      · rw [va_up_n c] at h
        rw [va_up_n c]
        have := g6 q2 e3 h
        rw [va_up_n (fun c2 => by rw [c2, hold] at this; cases this)]
        exact this
    · obtain ⟨s1, s2, s3, s4⟩ := g7
      refine ⟨s1, s2, ?_, ?_⟩
      · unfold zr_u; rw [if_neg (by omega)]; exact s3
      · unfold zr_u; rw [if_neg (by omega)]; exact s4
theorem zr_cC {C2 : Nat → Nat → Nat → Int32} (H : zr p F sz R C K) (h : ∀ k j c, k < 7 → j < sz k → c < zr_w k → C2 k j c = C k j c) : zr p F sz R C2 K := by
  obtain ⟨own, g1, g2, g3, g4, g5, g6, g7⟩ := H
  refine ⟨own, fun q t ht => ⟨(g1 q t ht).1, ?_⟩, g2, g3, g4, g5, g6, g7⟩
  have hm := (g1 q t ht).2
  cases t with
  | inr t => cases t with
    | inl k2 => exact hm
    | inr e2 => exact hm
  | inl t =>
    obtain ⟨k2, j2⟩ := t
    obtain ⟨f2, m1, m2⟩ := hm
    obtain ⟨a1, a2, -⟩ := g4 q _ _ ht
    exact ⟨f2, m1, fun d hd => by rw [m2 d hd, h k2 j2 d a1 a2 hd]⟩
theorem zr_cS {s2 : Nat → Nat} (H : zr p F sz R C K) (h : ∀ k, k < 7 → s2 k = sz k) : zr p F s2 R C K := by
  obtain ⟨own, g1, g2, g3, g4, g5, g6, g7⟩ := H
  refine ⟨own, fun q t ht => ⟨(g1 q t ht).1, ?_⟩, fun k j hk hj => g2 k j hk (by rw [← h k hk]; exact hj), g3, fun q k j ht => ?_, g5, g6, ?_⟩
  · have hm := (g1 q t ht).2
    cases t with
    | inl t => exact hm
    | inr t => cases t with
      | inr e2 => exact hm
      | inl k2 =>
        have hk2 := (g5 q k2 ht).1
        obtain ⟨g, m1, m2⟩ := hm
        exact ⟨g, by rw [h k2 (by omega)]; exact m1, fun j hj => m2 j (by rw [← h k2 (by omega)]; exact hj)⟩
  · obtain ⟨a1, a2, a3⟩ := g4 q k j ht
    exact ⟨a1, by rw [h k a1]; exact a2, a3⟩
  · rw [h 5 (by omega), h 6 (by omega)]
    exact g7
theorem zr_cK {K2 : Nat → Option zs_E} (H : zr p F sz R C K) (h : ∀ q e, K2 q = some e → K q = some e) : zr p F sz R C K2 := by
  obtain ⟨own, g1, g2, g3, g4, g5, g6, g7⟩ := H
  exact ⟨own, g1, g2, g3, g4, g5, fun q e he => g6 q e (h q e he), g7⟩
/-- a kind's row of rows made anew: of its old rows, and of others -/
theorem zr_new (H : zr p F sz R C K) {k q n : Nat} {g : Nat → Option Nat} {ids : Nat → Nat} {C2 : Nat → Nat → Int32} (hk : k < 5) (hq : K q = some (.inr (n, g))) (hg : ∀ j, j < n → g j = some (ids j)) (hinj : ∀ i j, i < n → j < n → ids i = ids j → i = j)
    (hrow : ∀ j, j < n → (∃ i, i < sz k ∧ ids j = R k i ∧ ∀ c, c < 3 → C2 j c = C k i c) ∨ ∃ f, K (ids j) = some (.inl (3, f)) ∧ ∀ c, c < 3 → C2 j c = f c) {K2 : Nat → Option zs_E} (hK : ∀ q' e, K2 q' = some e → K q' = some e ∧ q' ≠ q ∧ ∀ j, j < n → ids j ≠ q') :
    zr p (va_up F (7 + k) q) (va_up sz k n) (fun k' j' => if k' = k then ids j' else R k' j') (fun k' j' => if k' = k then C2 j' else C k' j') K2 := by
  obtain ⟨own, g1, g2, g3, g4, g5, g6, g7⟩ := H
  have hoq := g6 q _ hq
  have ho := g3 k hk
  have e3 : zr_w k = 3 := zr_w3 (by omega)
  -- what the new rows were
  have hwas : ∀ j, j < n → (∃ i, own (ids j) = some (.inl (k, i))) ∨ ∃ f, own (ids j) = some (.inr (.inr (.inl (3, f)))) := fun j hj => by
    rcases hrow j hj with ⟨i, hi, e, -⟩ | ⟨f, hf, -⟩
    · exact Or.inl ⟨i, by rw [e]; exact g2 k i (by omega) hi⟩
    · exact Or.inr ⟨f, g6 _ _ hf⟩
  have hidq : ∀ j, j < n → ids j ≠ q := fun j hj e => by
    rcases hwas j hj with ⟨i, h⟩ | ⟨f, h⟩
    · rw [e, hoq] at h; cases h
    · rw [e, hoq] at h; cases h
  have hidO : ∀ j k', j < n → k' < 5 → ids j ≠ F (7 + k') := fun j k' hj hk' e => by
    have h0 := g3 k' hk'
    rcases hwas j hj with ⟨i, h⟩ | ⟨f, h⟩
    · rw [e, h0] at h; cases h
    · rw [e, h0] at h; cases h
  have hidR : ∀ j k' j', j < n → k' < 7 → j' < sz k' → k' ≠ k → ids j ≠ R k' j' := fun j k' j' hj hk' hj' hne e => by
    have h0 := g2 k' j' hk' hj'
    rcases hwas j hj with ⟨i, h⟩ | ⟨f, h⟩
    · rw [e, h0] at h
      have := Sum.inl.inj (Option.some.inj h)
      exact hne (congrArg Prod.fst this)
    · rw [e, h0] at h; cases h
  let O2 : Nat → Option zr_T := fun x => @ite _ (x = q) (Classical.propDecidable _) (some (.inr (.inl k))) (@dite _ (∃ j, j < n ∧ ids j = x) (Classical.propDecidable _) (fun h => some (.inl (k, Classical.choose h))) (fun _ => @ite _ (x = F (7 + k) ∨ ∃ i, own x = some (.inl (k, i))) (Classical.propDecidable _) none (own x)))
  have o1 : O2 q = some (.inr (.inl k)) := if_pos rfl
  have o2 : ∀ j, j < n → O2 (ids j) = some (.inl (k, j)) := fun j hj => by
    have hex : ∃ j', j' < n ∧ ids j' = ids j := ⟨j, hj, rfl⟩
    have h0 : O2 (ids j) = some (.inl (k, Classical.choose hex)) := by
      show @ite _ (ids j = q) (Classical.propDecidable _) _ (@dite _ (∃ j', j' < n ∧ ids j' = ids j) (Classical.propDecidable _) _ _) = _
      rw [if_neg (hidq j hj), dif_pos hex]
    have h1 := Classical.choose_spec hex
    rw [h0, hinj _ _ h1.1 hj h1.2]
  have o3 : ∀ x, x ≠ q → (∀ j, j < n → ids j ≠ x) → x ≠ F (7 + k) → (∀ i, own x ≠ some (.inl (k, i))) → O2 x = own x := fun x h1 h2 h3 h4 => by
    show @ite _ (x = q) (Classical.propDecidable _) _ (@dite _ (∃ j', j' < n ∧ ids j' = x) (Classical.propDecidable _) _ (fun _ => @ite _ (x = F (7 + k) ∨ ∃ i, own x = some (.inl (k, i))) (Classical.propDecidable _) none (own x))) = _
    rw [if_neg h1, dif_neg (fun ⟨j, a, b⟩ => h2 j a b), if_neg (fun h => h.elim h3 (fun ⟨i, a⟩ => h4 i a))]
  have o4 : ∀ x t, O2 x = some t → (x = q ∧ t = .inr (.inl k)) ∨ (∃ j, j < n ∧ x = ids j ∧ t = .inl (k, j)) ∨ (own x = some t ∧ x ≠ q ∧ (∀ j, j < n → ids j ≠ x) ∧ x ≠ F (7 + k) ∧ ∀ i, t ≠ .inl (k, i)) := fun x t h => by
    by_cases c1 : x = q
    · rw [c1, o1] at h
      exact Or.inl ⟨c1, (Option.some.inj h).symm⟩
    · by_cases c2 : ∃ j, j < n ∧ ids j = x
      · obtain ⟨j, hj, e⟩ := c2
        rw [← e, o2 j hj] at h
        exact Or.inr (Or.inl ⟨j, hj, e.symm, (Option.some.inj h).symm⟩)
      · have h2 : O2 x = @ite _ (x = F (7 + k) ∨ ∃ i, own x = some (.inl (k, i))) (Classical.propDecidable _) none (own x) := by
          show @ite _ (x = q) (Classical.propDecidable _) _ (@dite _ (∃ j', j' < n ∧ ids j' = x) (Classical.propDecidable _) _ _) = _
          rw [if_neg c1, dif_neg c2]
        rw [h2] at h
        by_cases c3 : x = F (7 + k) ∨ ∃ i, own x = some (.inl (k, i))
        · rw [if_pos c3] at h; cases h
        · rw [if_neg c3] at h
          exact Or.inr (Or.inr ⟨h, c1, fun j hj e => c2 ⟨j, hj, e⟩, fun e => c3 (Or.inl e), fun i e => c3 (Or.inr ⟨i, by rw [h, e]⟩)⟩)
  refine ⟨O2, fun x t ht => ?_, fun k2 j2 hk2 hj2 => ?_, fun k2 hk2 => ?_, fun x k2 j2 hx => ?_, fun x k2 hx => ?_, fun x e hx => ?_, ?_⟩
  · rcases o4 x t ht with ⟨rfl, rfl⟩ | ⟨j, hj, rfl, rfl⟩ | ⟨h, h1, h2, h3, h4⟩
    · refine ⟨(g1 _ _ hoq).1, g, ?_, fun j hj => ?_⟩
      · have : p.2 x = .inr (n, g) := (g1 _ _ hoq).2
        rw [this, va_up_p]
      · rw [va_up_p] at hj
        show g j = some (if k = k then ids j else _)
        rw [if_pos rfl]; exact hg j hj
    · rcases hrow j hj with ⟨i, hi, e, hc⟩ | ⟨f, hf, hc⟩
      · obtain ⟨a1, f, a2, a3⟩ := g1 _ _ (g2 k i (by omega) hi)
        rw [e]
        refine ⟨a1, f, a2, fun d hd => ?_⟩
        show f d = (if k = k then C2 j else C k j) d
        rw [if_pos rfl, hc d (by rw [← e3]; exact hd)]
        exact a3 d hd
      · obtain ⟨a1, a2⟩ := g1 _ _ (g6 _ _ hf)
        refine ⟨a1, f, ?_, fun d hd => ?_⟩
        · rw [show p.2 (ids j) = .inl (3, f) from a2, e3]
        · show f d = (if k = k then C2 j else C k j) d
          rw [if_pos rfl]
          exact (hc d (by rw [← e3]; exact hd)).symm
    · obtain ⟨a1, a2⟩ := g1 x t h
      refine ⟨a1, ?_⟩
      cases t with
      | inl t =>
        obtain ⟨k2, j2⟩ := t
        have hne : k2 ≠ k := fun c => h4 j2 (by rw [c])
        obtain ⟨f2, m1, m2⟩ := a2
        refine ⟨f2, m1, fun d hd => ?_⟩
        show f2 d = (if k2 = k then C2 j2 else C k2 j2) d
        rw [if_neg hne]
        exact m2 d hd
      | inr t => cases t with
        | inr e2 => exact a2
        | inl k2 =>
          have hne : k2 ≠ k := fun c => h3 (by rw [(g5 x k2 h).2, c])
          obtain ⟨g', n1, n2⟩ := a2
          refine ⟨g', by rw [va_up_n hne]; exact n1, fun j2 hj2 => ?_⟩
          rw [va_up_n hne] at hj2
          show g' j2 = some (if k2 = k then ids j2 else R k2 j2)
          rw [if_neg hne]
          exact n2 j2 hj2
  · by_cases c : k2 = k
    · subst c
      rw [va_up_p] at hj2
      show O2 (if k2 = k2 then ids j2 else R k2 j2) = _
      rw [if_pos rfl]
      exact o2 j2 hj2
    · rw [va_up_n c] at hj2
      have h0 := g2 k2 j2 hk2 hj2
      show O2 (if k2 = k then ids j2 else R k2 j2) = _
      rw [if_neg c, o3 (R k2 j2) (fun e => by rw [e, hoq] at h0; cases h0) (fun j hj e => hidR j k2 j2 hj hk2 hj2 c e) (fun e => by rw [e, ho] at h0; cases h0) (fun i e => by rw [h0] at e; exact c (congrArg Prod.fst (Sum.inl.inj (Option.some.inj e))))]
      exact h0
  · by_cases c : k2 = k
    · subst c
      rw [va_up_p]
      exact o1
    · have h0 := g3 k2 hk2
      rw [va_up_n (by omega), o3 (F (7 + k2)) (fun e => by rw [e, hoq] at h0; cases h0) (fun j hj e => hidO j k2 hj hk2 e) (fun e => by rw [e, ho] at h0; exact c (Sum.inl.inj (Sum.inr.inj (Option.some.inj h0))).symm) (fun i e => by rw [h0] at e; cases e)]
      exact h0
  · rcases o4 x _ hx with ⟨-, h⟩ | ⟨j, hj, e, h⟩ | ⟨h, h1, h2, h3, h4⟩
    · cases h
    · cases h
      refine ⟨by omega, by rw [va_up_p]; exact hj, ?_⟩
      show x = if k = k then ids j2 else R k j2
      rw [if_pos rfl]
      exact e
    · have hne : k2 ≠ k := fun c => h4 j2 (by rw [c])
      obtain ⟨a1, a2, a3⟩ := g4 x k2 j2 h
      refine ⟨a1, by rw [va_up_n hne]; exact a2, ?_⟩
      show x = if k2 = k then ids j2 else R k2 j2
      rw [if_neg hne]
      exact a3
  · rcases o4 x _ hx with ⟨e, h⟩ | ⟨j, hj, e, h⟩ | ⟨h, h1, h2, h3, h4⟩
    · cases h
      exact ⟨hk, by rw [va_up_p]; exact e⟩
    · cases h
    · obtain ⟨a1, a2⟩ := g5 x k2 h
      have hne : k2 ≠ k := fun c => h3 (by rw [a2, c])
      exact ⟨a1, by rw [va_up_n (by omega)]; exact a2⟩
  · obtain ⟨a1, a2, a3⟩ := hK x e hx
    have h0 := g6 x e a1
    rw [o3 x a2 a3 (fun e2 => by rw [e2, ho] at h0; cases h0) (fun i e2 => by rw [h0] at e2; cases e2)]
    exact h0
  · obtain ⟨s1, s2, s3, s4⟩ := g7
    refine ⟨by rw [va_up_n (by omega)]; exact s1, by rw [va_up_n (by omega)]; exact s2, ?_, ?_⟩
    · show (if 5 = k then ids 0 else R 5 0) = va_up F (7 + k) q 6
      rw [if_neg (by omega), va_up_n (by omega)]
      exact s3
    · show (if 6 = k then ids 0 else R 6 0) = va_up F (7 + k) q 5
      rw [if_neg (by omega), va_up_n (by omega)]
      exact s4
/-- another row of water -/
theorem zr_wat (H : zr p F sz R C K) {q : Nat} {f : FN} (hq : K q = some (.inl (7, f))) : zr p (va_up F 5 q) sz (zr_u R 6 0 q) (zr_r C 6 0 f) (va_up K q none) := by
  obtain ⟨own, g1, g2, g3, g4, g5, g6, g7⟩ := H
  obtain ⟨s1, s2, s3, s4⟩ := g7
  have hoq := g6 q _ hq
  have hold := g2 6 0 (by omega) (by omega)
  refine ⟨va_up (va_up own (R 6 0) none) q (some (.inl (6, 0))), fun x t ht => ?_, fun k2 j2 hk2 hj2 => ?_, fun k2 hk2 => ?_, fun x k2 j2 hx => ?_, fun x k2 hx => ?_, fun x e hx => ?_, s1, s2, ?_, ?_⟩
  · by_cases c : x = q
    · subst c
      rw [va_up_p] at ht
      cases ht
      obtain ⟨a1, a2⟩ := g1 _ _ hoq
      refine ⟨a1, f, ?_, fun d _ => ?_⟩
      · exact a2
      · show f d = if 6 = 6 ∧ 0 = 0 then f d else _
        rw [if_pos ⟨rfl, rfl⟩]
    · rw [va_up_n c] at ht
      by_cases c2 : x = R 6 0
      · rw [c2, va_up_p] at ht; cases ht
      · rw [va_up_n c2] at ht
        obtain ⟨a1, a2⟩ := g1 x t ht
        refine ⟨a1, ?_⟩
        cases t with
        | inl t =>
          obtain ⟨k2, j2⟩ := t
          obtain ⟨f2, m1, m2⟩ := a2
          refine ⟨f2, m1, fun d hd => ?_⟩
          rw [m2 d hd]
          unfold zr_r
          rw [if_neg (fun h => ?_)]
          obtain ⟨rfl, rfl⟩ := h
          exact c2 (g4 x _ _ ht).2.2
        | inr t => cases t with
          | inr e2 => exact a2
          | inl k2 =>
            have hk2 := (g5 x k2 ht).1
            obtain ⟨g', n1, n2⟩ := a2
            refine ⟨g', n1, fun j2 hj2 => ?_⟩
            rw [n2 j2 hj2]
            unfold zr_u
            rw [if_neg (by omega)]
  · by_cases c : k2 = 6 ∧ j2 = 0
    · obtain ⟨rfl, rfl⟩ := c
      show va_up _ _ _ (if 6 = 6 ∧ 0 = 0 then q else _) = _
      rw [if_pos ⟨rfl, rfl⟩, va_up_p]
    · have h0 := g2 k2 j2 hk2 hj2
      show va_up _ _ _ (if k2 = 6 ∧ j2 = 0 then q else R k2 j2) = _
      rw [if_neg c, va_up_n (fun e => by rw [e, hoq] at h0; cases h0), va_up_n (fun e => ?_)]
      · exact h0
      · rw [e, hold] at h0
        have h1 := Sum.inl.inj (Option.some.inj h0)
        exact c ⟨(congrArg Prod.fst h1).symm, (congrArg Prod.snd h1).symm⟩
  · have h0 := g3 k2 hk2
    rw [va_up_n (show 7 + k2 ≠ 5 by omega), va_up_n (fun e => by rw [e, hoq] at h0; cases h0), va_up_n (fun e => by rw [e, hold] at h0; cases h0)]
    exact h0
  · by_cases c : x = q
    · rw [c, va_up_p] at hx
      cases hx
      refine ⟨by omega, by omega, ?_⟩
      show x = if 6 = 6 ∧ 0 = 0 then q else _
      rw [if_pos ⟨rfl, rfl⟩]; exact c
    · rw [va_up_n c] at hx
      by_cases c2 : x = R 6 0
      · rw [c2, va_up_p] at hx; cases hx
      · rw [va_up_n c2] at hx
        obtain ⟨a1, a2, a3⟩ := g4 x k2 j2 hx
        refine ⟨a1, a2, ?_⟩
        unfold zr_u
        rw [if_neg (fun h => ?_)]
        · exact a3
        · obtain ⟨rfl, rfl⟩ := h
          exact c2 a3
  · by_cases c : x = q
    · rw [c, va_up_p] at hx; cases hx
    · rw [va_up_n c] at hx
      by_cases c2 : x = R 6 0
      · rw [c2, va_up_p] at hx; cases hx
      · rw [va_up_n c2] at hx
        rw [va_up_n (show 7 + k2 ≠ 5 by omega)]
        exact g5 x k2 hx
  · by_cases c : x = q
    · rw [c, va_up_p] at hx; cases hx
    · rw [va_up_n c] at hx
      rw [va_up_n c]
      have h0 := g6 x e hx
      rw [va_up_n (fun c2 => by rw [c2, hold] at h0; cases h0)]
      exact h0
  · unfold zr_u
    rw [if_neg (by omega), va_up_n (by omega)]
    exact s3
  · unfold zr_u
    rw [if_pos ⟨rfl, rfl⟩, va_up_p]
end ZR
