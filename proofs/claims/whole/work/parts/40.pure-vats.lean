theorem pu_add (a b : Nat) : nI a + nI b = nI (a + b) := (Int32.ofNat_add a b).symm
theorem pu_mul (a b : Nat) : nI a * nI b = nI (a * b) := (Int32.ofNat_mul a b).symm
theorem pu_sub {a b : Nat} (h : b ≤ a) : nI a - nI b = nI (a - b) := (Int32.ofNat_sub a b h).symm
theorem pu_div {a b : Nat} (ha : a < 2147483648) (hb : b < 2147483648) : nI a / nI b = nI (a / b) := (Int32.ofNat_div ha hb).symm
theorem pu_ti {a : Nat} (h : a < 2147483648) : (nI a).toInt = (a : Int) := Int32.toInt_ofNat_of_lt h
theorem pu_tn {a : Nat} (h : a < 2147483648) : (nI a).toNatClampNeg = a := Int32.toNatClampNeg_ofNat_of_lt h
theorem pu_le {a b : Nat} (ha : a < 2147483648) (hb : b < 2147483648) : nI a ≤ nI b ↔ a ≤ b := by
  rw [Int32.le_iff_toInt_le, pu_ti ha, pu_ti hb]; omega
theorem pu_lt {a b : Nat} (ha : a < 2147483648) (hb : b < 2147483648) : nI a < nI b ↔ a < b := by
  rw [Int32.lt_iff_toInt_lt, pu_ti ha, pu_ti hb]; omega
theorem pu_eq {a b : Nat} (ha : a < 2147483648) (hb : b < 2147483648) : nI a = nI b ↔ a = b := by
  rw [← Int32.toInt_inj, pu_ti ha, pu_ti hb]; omega
theorem pu_m1 : (-nI 1).toInt = -1 := by decide
theorem pu_em {a : Nat} (ha : a < 2147483648) : nI a = -nI 1 ↔ False := by
  rw [← Int32.toInt_inj, pu_ti ha, pu_m1]; exact iff_of_false (by omega) id
theorem pu_me {a : Nat} (ha : a < 2147483648) : -nI 1 = nI a ↔ False := by
  rw [← Int32.toInt_inj, pu_ti ha, pu_m1]; exact iff_of_false (by omega) id
theorem pu_lm {a : Nat} (ha : a < 2147483648) : -nI 1 ≤ nI a ↔ True := by
  rw [Int32.le_iff_toInt_le, pu_ti ha, pu_m1]; exact iff_of_true (by omega) trivial
theorem pu_mlt {a : Nat} (ha : a < 2147483648) : -nI 1 < nI a ↔ True := by
  rw [Int32.lt_iff_toInt_lt, pu_ti ha, pu_m1]; exact iff_of_true (by omega) trivial
theorem pu_ml {a : Nat} (ha : a < 2147483648) : nI a ≤ -nI 1 ↔ False := by
  rw [Int32.le_iff_toInt_le, pu_ti ha, pu_m1]; exact iff_of_false (by omega) id
theorem pu_ltm {a : Nat} (ha : a < 2147483648) : nI a < -nI 1 ↔ False := by
  rw [Int32.lt_iff_toInt_lt, pu_ti ha, pu_m1]; exact iff_of_false (by omega) id
theorem pu_lit (n : Nat) : (@OfNat.ofNat Int32 n _) = nI (@OfNat.ofNat Nat n _) := rfl
theorem pu_ck {α : Type} {i n : Nat} {k : Option α} (h : i < n) (hn : n < 2147483648) : ckI (nI i) n k = k := by
  unfold ckI
  rw [pu_ti (by omega)]
  exact if_pos (by omega)
theorem pu_ckz {α : Type} {a : Nat} {k : Option α} (h : 0 < a) (hn : a < 2147483648) : ckZ (nI a) k = k := by
  unfold ckZ
  exact if_neg (by rw [show (0 : Int32) = nI 0 from rfl, pu_eq hn (by omega)]; omega)
theorem pu_bs {α β : Type} (x : α) (k : α → Option β) : (some x).bind k = k x := rfl
theorem pu_up {f : FN} {k : Nat} {x : Int32} : upd f k x k = x := if_pos rfl
theorem pu_un {f : FN} {k j : Nat} {x : Int32} (h : j ≠ k) : upd f k x j = f j := if_neg h
/-- a number from 0 to n -/
theorem pu_nat {a : Int32} (h0 : 0 ≤ a.toInt) : ∃ n : Nat, n < 2147483648 ∧ a = nI n ∧ (n : Int) = a.toInt := by
  have hlt := Int32.toInt_lt a
  refine ⟨a.toInt.toNat, by omega, ?_, by omega⟩
  rw [← Int32.toInt_inj, pu_ti (by omega)]
  omega
theorem pu_b {a : Int32} {b : Nat} (hb : b < 2147483648) : (∃ n, n < b ∧ a = nI n) ∨ (a.toInt < 0 ∨ (b : Int) ≤ a.toInt) := by
  by_cases h : 0 ≤ a.toInt
  · obtain ⟨n, h1, h2, h3⟩ := pu_nat h
    by_cases h4 : n < b
    · exact .inl ⟨n, h4, h2⟩
    · exact .inr (.inr (by omega))
  · exact .inr (.inl (by omega))
theorem pu_lt0 {a : Int32} : a < nI 0 ↔ a.toInt < 0 := by
  rw [Int32.lt_iff_toInt_lt]; exact Iff.rfl
theorem pu_ltn {a : Int32} {b : Nat} (hb : b < 2147483648) : a < nI b ↔ a.toInt < (b : Int) := by
  rw [Int32.lt_iff_toInt_lt, pu_ti hb]
theorem pu_nlt {a : Int32} {b : Nat} (hb : b < 2147483648) : nI b < a ↔ (b : Int) < a.toInt := by
  rw [Int32.lt_iff_toInt_lt, pu_ti hb]
theorem pu_len {a : Int32} {b : Nat} (hb : b < 2147483648) : a ≤ nI b ↔ a.toInt ≤ (b : Int) := by
  rw [Int32.le_iff_toInt_le, pu_ti hb]
theorem pu_nle {a : Int32} {b : Nat} (hb : b < 2147483648) : nI b ≤ a ↔ (b : Int) ≤ a.toInt := by
  rw [Int32.le_iff_toInt_le, pu_ti hb]
theorem pu_below {a b : Int32} : fX5_isBelow a b = if 0 ≤ a.toInt ∧ a.toInt < b.toInt then some 1 else some 0 := by
  unfold fX5_isBelow
  simp only [Int32.lt_iff_toInt_lt, Int32.le_iff_toInt_le, show (0 : Int32).toInt = 0 from rfl]
  repeat' split
  all_goals first | rfl | omega
theorem pu_from {a b : Int32} : fX5_isFrom1To a b = if 1 ≤ a.toInt ∧ a.toInt ≤ b.toInt then some 1 else some 0 := by
  unfold fX5_isFrom1To
  simp only [Int32.lt_iff_toInt_lt, Int32.le_iff_toInt_le, show (0 : Int32).toInt = 0 from rfl, show (1 : Int32).toInt = 1 from rfl]
  repeat' split
  all_goals first | rfl | omega
theorem pu_in {a x y : Int32} : fX6_isIn a x y = if x.toInt ≤ a.toInt ∧ a.toInt ≤ y.toInt then some 1 else some 0 := by
  unfold fX6_isIn
  simp only [Int32.lt_iff_toInt_lt, Int32.le_iff_toInt_le, show (0 : Int32).toInt = 0 from rfl, show (1 : Int32).toInt = 1 from rfl]
  repeat' split
  all_goals first | rfl | omega
/-- below a bound, both sides' words for it -/
theorem pu_isB {a : Int32} {b : Nat} (hb : b < 2147483648) : (∃ n, n < b ∧ a = nI n ∧ fX5_isBelow a (nI b) = some 1 ∧ fX6_isIn a 0 (nI b - 1) = some 1) ∨ (fX5_isBelow a (nI b) = some 0 ∧ fX6_isIn a 0 (nI b - 1) = some 0) := by
  have hq : (nI b - 1).toInt = (b : Int) - 1 := by
    by_cases hz : b = 0
    · subst hz; decide
    · rw [show (1 : Int32) = nI 1 from rfl, pu_sub (by omega), pu_ti (by omega)]; omega
  rw [pu_below, pu_in, hq, pu_ti hb, show (0 : Int32).toInt = 0 from rfl]
  rcases pu_b (a := a) hb with ⟨n, h, rfl⟩ | h
  · rw [pu_ti (by omega), if_pos (by omega), if_pos (by omega)]
    exact .inl ⟨n, h, rfl, rfl, rfl⟩
  · rw [if_neg (by omega), if_neg (by omega)]
    exact .inr ⟨rfl, rfl⟩
theorem pu_is1 {a : Int32} {b : Nat} (hb : b < 2147483648) : (∃ n, 1 ≤ n ∧ n ≤ b ∧ a = nI n ∧ fX5_isFrom1To a (nI b) = some 1 ∧ fX6_isIn a 1 (nI b) = some 1) ∨ (fX5_isFrom1To a (nI b) = some 0 ∧ fX6_isIn a 1 (nI b) = some 0) := by
  rw [pu_from, pu_in, pu_ti hb, show (1 : Int32).toInt = 1 from rfl]
  by_cases h1 : 1 ≤ a.toInt ∧ a.toInt ≤ (b : Int)
  · obtain ⟨n, h2, rfl, h3⟩ := pu_nat (a := a) (by omega)
    rw [if_pos h1]
    exact .inl ⟨n, by omega, by omega, rfl, rfl, rfl⟩
  · rw [if_neg h1]
    exact .inr ⟨rfl, rfl⟩
theorem pb_in {v b : Nat} (h : v < b) (hb : b < 2147483648) : fX5_isBelow (nI v) (nI b) = some 1 := by
  rw [pu_below, pu_ti (by omega), pu_ti hb, if_pos (by omega)]
theorem pb_pulpOf {f : FN} {v : Nat} (h : v < 4) : fX4_pulpOf f (nI v) = some (f v) := by
  unfold fX4_pulpOf
  rw [show (4 : Int32) = nI 4 from rfl, pb_in h (by omega), pu_bs, if_neg (by decide), pu_ck h (by omega), pu_tn (by omega)]
theorem pb_beatOf {f : FN} {v : Nat} (h : v < 4) : fX4_beatOf f (nI v) = some (f v) := by
  unfold fX4_beatOf
  rw [show (4 : Int32) = nI 4 from rfl, pb_in h (by omega), pu_bs, if_neg (by decide), pu_ck h (by omega), pu_tn (by omega)]
theorem pb_sortOf {f : FN} {v : Nat} (h : v < 4) : fX4_sortOf f (nI v) = some (f v) := by
  unfold fX4_sortOf
  rw [show (4 : Int32) = nI 4 from rfl, pb_in h (by omega), pu_bs, if_neg (by decide), pu_ck h (by omega), pu_tn (by omega)]
theorem pb_va {f : FN} {v w : Nat} (h : 3 * v + w < 12) : fX6_va f (nI v) (nI w) = some (f (3 * v + w)) := by
  unfold fX6_va
  rw [show (3 : Int32) = nI 3 from rfl, pu_mul, pu_add, pu_ck h (by omega), pu_tn (by omega)]
theorem pb_charge {p b s : FN} {v : Nat} {x y : Int32} (h : v < 4) : fX4_charge p b s (nI v) x y = some (upd p v y, upd b v 0, upd s v x) := by
  unfold fX4_charge
  rw [show (4 : Int32) = nI 4 from rfl, pb_in h (by omega), pu_bs, if_neg (by decide), pu_ck h (by omega), pu_ck h (by omega), pu_ck h (by omega), pu_tn (by omega)]
theorem pu_upup (f : FN) (k : Nat) (x y : Int32) : upd (upd f k x) k y = upd f k y := by
  funext j
  unfold upd
  split <;> rfl
theorem pb_takeOut {p b s : FN} {v n k : Nat} (h : v < 4) (hp : p v = nI n) (hn : n < 2147483648) (hk : k ≤ n) : fX4_takeOut p b s (nI v) (nI k) = some (if n = k then (upd p v 0, upd b v 0, upd s v (-1)) else (upd p v (nI (n - k)), b, s)) := by
  unfold fX4_takeOut
  rw [show (4 : Int32) = nI 4 from rfl, pb_in h (by omega), pu_bs, if_neg (by decide), pu_ck h (by omega), pu_ck h (by omega), pu_ck h (by omega), pu_tn (by omega), pu_up, hp, pu_sub hk, show (0 : Int32) = nI 0 from rfl]
  by_cases c : n = k
  · subst c
    rw [if_neg (by rw [pu_lt (by omega) (by omega)]; omega), if_pos rfl, pb_charge h, pu_bs, pu_upup]
    rfl
  · rw [if_pos (by rw [pu_lt (by omega) (by omega)]; omega), if_neg c]
/-- the four vats, on both sides -/
def RV (pulp beat sort vats : FN) : Prop := (∀ v, v < 4 → vats (3 * v) = pulp v) ∧ (∀ v, v < 4 → vats (3 * v + 1) = beat v) ∧ (∀ v, v < 4 → vats (3 * v + 2) = sort v) ∧ (∀ v, v < 4 → ∃ n, n ≤ 40 ∧ pulp v = nI n) ∧ (∀ v, v < 4 → ∃ n, n ≤ 99 ∧ beat v = nI n)
theorem RV.e0 {pulp beat sort vats : FN} (H : RV pulp beat sort vats) : ∀ v, v < 4 → vats (3 * v) = pulp v := H.1
theorem RV.e1 {pulp beat sort vats : FN} (H : RV pulp beat sort vats) : ∀ v, v < 4 → vats (3 * v + 1) = beat v := H.2.1
theorem RV.e2 {pulp beat sort vats : FN} (H : RV pulp beat sort vats) : ∀ v, v < 4 → vats (3 * v + 2) = sort v := H.2.2.1
theorem RV.p {pulp beat sort vats : FN} (H : RV pulp beat sort vats) : ∀ v, v < 4 → ∃ n, n ≤ 40 ∧ pulp v = nI n := H.2.2.2.1
theorem RV.b {pulp beat sort vats : FN} (H : RV pulp beat sort vats) : ∀ v, v < 4 → ∃ n, n ≤ 99 ∧ beat v = nI n := H.2.2.2.2
def letF (vats : FN) (v : Nat) (a b s : Int32) : FN := upd (upd (upd vats (3 * v) a) (3 * v + 1) b) (3 * v + 2) s
theorem pb_let {f : FN} {v n : Nat} {b s : Int32} (h : v < 4) (hn : n < 2147483648) : fX6_let f (nI v) (nI n) b s = some (letF f v (nI n) (if n = 0 then 0 else b) (if n = 0 then -1 else s)) := by
  unfold fX6_let fX6_let_L29 letF
  rw [show (3 : Int32) = nI 3 from rfl, show (2 : Int32) = nI 2 from rfl, show (1 : Int32) = nI 1 from rfl, show (0 : Int32) = nI 0 from rfl, pu_mul, pu_add, pu_add, pu_add, Nat.add_zero]
  by_cases c : n = 0
  · have c' : nI n = nI 0 := by rw [c]
    rw [if_pos c', if_pos c', if_pos c, if_pos c, pu_ck (by omega) (by omega), pu_ck (by omega) (by omega), pu_ck (by omega) (by omega), pu_tn (by omega), pu_tn (by omega), pu_tn (by omega)]
  · have c' : ¬ nI n = nI 0 := by rw [pu_eq hn (by omega)]; exact c
    rw [if_neg c', if_neg c', if_neg c, if_neg c, pu_ck (by omega) (by omega), pu_ck (by omega) (by omega), pu_ck (by omega) (by omega), pu_tn (by omega), pu_tn (by omega), pu_tn (by omega)]
theorem letF0 {f : FN} {v w : Nat} {a b s : Int32} : letF f v a b s (3 * w) = if w = v then a else f (3 * w) := by
  unfold letF upd
  rw [if_neg (by omega), if_neg (by omega)]
  by_cases c : w = v
  · rw [if_pos (by omega), if_pos c]
  · rw [if_neg (by omega), if_neg c]
theorem letF1 {f : FN} {v w : Nat} {a b s : Int32} : letF f v a b s (3 * w + 1) = if w = v then b else f (3 * w + 1) := by
  unfold letF upd
  rw [if_neg (by omega)]
  by_cases c : w = v
  · rw [if_pos (by omega), if_pos c]
  · rw [if_neg (by omega), if_neg (by omega), if_neg c]
theorem letF2 {f : FN} {v w : Nat} {a b s : Int32} : letF f v a b s (3 * w + 2) = if w = v then s else f (3 * w + 2) := by
  unfold letF upd
  by_cases c : w = v
  · rw [if_pos (by omega), if_pos c]
  · rw [if_neg (by omega), if_neg (by omega), if_neg (by omega), if_neg c]
theorem RV.set {p b s f : FN} (H : RV p b s f) {v n k : Nat} (hn : n ≤ 40) (hk : k ≤ 99) (x : Int32) : RV (upd p v (nI n)) (upd b v (nI k)) (upd s v x) (letF f v (nI n) (nI k) x) :=
  ⟨(fun w hw => by rw [letF0, H.e0 w hw]; rfl),
   (fun w hw => by rw [letF1, H.e1 w hw]; rfl),
   (fun w hw => by rw [letF2, H.e2 w hw]; rfl),
   (fun w hw => by unfold upd; split; exact ⟨n, hn, rfl⟩; exact H.p w hw),
   (fun w hw => by unfold upd; split; exact ⟨k, hk, rfl⟩; exact H.b w hw)⟩
theorem pu_self (f : FN) (k : Nat) : upd f k (f k) = f := by
  funext j
  unfold upd
  split
  · next h => rw [h]
  · rfl
theorem RV.letp {p b s f : FN} (H : RV p b s f) {v n : Nat} (hv : v < 4) (hn : n ≤ 40) : ∃ k, k ≤ 99 ∧ b v = nI k ∧ RV (upd p v (nI n)) b s (letF f v (nI n) (b v) (s v)) := by
  obtain ⟨k, h1, h2⟩ := H.b v hv
  have h := H.set (v := v) hn h1 (s v)
  rw [← h2, pu_self, pu_self] at h
  exact ⟨k, h1, h2, h⟩
theorem RV.letb {p b s f : FN} (H : RV p b s f) {v k : Nat} (hv : v < 4) (hk : k ≤ 99) : RV p (upd b v (nI k)) s (letF f v (p v) (nI k) (s v)) := by
  obtain ⟨n, h1, h2⟩ := H.p v hv
  have h := H.set (v := v) h1 hk (s v)
  rw [← h2, pu_self, pu_self] at h
  exact h
/-- the count of vats with pulp -/
theorem pb_num {p b s f w nums : FN} (H : RV p b s f) : ∀ (d j c k k' : Nat), j + d = 4 → c ≤ j → d < k → d < k' → ∃ z : Nat, c ≤ z ∧ z ≤ 4 ∧ ((∃ v, j ≤ v ∧ v < 4 ∧ p v ≠ 0) → 0 < z) ∧ fX4_numberWithPulp_L4 p k (nI c) (nI j) = some (nI z) ∧ fX6_beat_L4 w f nums k' (nI c) (nI j) = fX6_beat_L34 w nums 300 f (nI z) 0
  | 0, j, c, k + 1, k' + 1, hj, hc, _, _ => by
    refine ⟨c, Nat.le_refl _, by omega, ?_, ?_, ?_⟩
    · rintro ⟨v, h1, h2, _⟩; omega
    · unfold fX4_numberWithPulp_L4
      rw [show (4 : Int32) = nI 4 from rfl, if_pos (by rw [pu_le (by omega) (by omega)]; omega)]
    · unfold fX6_beat_L4
      rw [show (4 : Int32) = nI 4 from rfl, if_pos (by rw [pu_le (by omega) (by omega)]; omega)]
  | d + 1, j, c, k + 1, k' + 1, hj, hc, hk, hk' => by
    obtain ⟨n, hn, hp⟩ := H.p j (by omega)
    have hf := H.e0 j (by omega)
    unfold fX4_numberWithPulp_L4 fX6_beat_L4
    have c4 : ¬ nI 4 ≤ nI j := by rw [pu_le (by omega) (by omega)]; omega
    rw [show (4 : Int32) = nI 4 from rfl, if_neg c4, if_neg c4, pu_ck (by omega) (by omega), pu_tn (by omega), hp, show (0 : Int32) = nI 0 from rfl, show (1 : Int32) = nI 1 from rfl, pb_va (by omega), pu_bs, Nat.add_zero, hf, hp, pu_add, pu_add, pu_add, Nat.add_zero]
    have hle := pu_le (a := n) (b := 0) (by omega) (by omega)
    by_cases c0 : n ≤ 0
    · rw [if_pos (hle.mpr c0), if_pos (hle.mpr c0)]
      obtain ⟨z, h1, h2, h3, h4, h5⟩ := pb_num (w := w) (nums := nums) H d (j + 1) c k k' (by omega) (by omega) (by omega) (by omega)
      refine ⟨z, h1, h2, ?_, h4, h5⟩
      rintro ⟨v, g1, g2, g3⟩
      by_cases e : v = j
      · subst e; exact absurd (by rw [hp, show n = 0 from by omega]) g3
      · exact h3 ⟨v, by omega, g2, g3⟩
    · rw [if_neg (fun h => c0 (hle.mp h)), if_neg (fun h => c0 (hle.mp h))]
      obtain ⟨z, h1, h2, h3, h4, h5⟩ := pb_num (w := w) (nums := nums) H d (j + 1) (c + 1) k k' (by omega) (by omega) (by omega) (by omega)
      exact ⟨z, by omega, h2, fun _ => by omega, h4, h5⟩
theorem pb_rise {w nums : FN} {q c dd : Nat} (hc : 0 < c) (hc4 : c ≤ 4) (hd : nums 0 = nI dd) (hdd : dd < 1000000) (hw : w (dd % 7) = nI q) (hq : q ≤ 9) {p s : FN} : ∀ (d j k k' : Nat) (b f : FN), RV p b s f → j + d = 4 → d < k → d < k' → ∃ b' f', fX4_beatAll_L19 p k b (nI (3 * q / c)) (nI j) = some b' ∧ fX6_beat_L34 w nums k' f (nI c) (nI j) = some f' ∧ RV p b' s f'
  | 0, j, k + 1, k' + 1, b, f, H, hj, _, _ => by
    refine ⟨b, f, ?_, ?_, H⟩
    · unfold fX4_beatAll_L19
      rw [show (4 : Int32) = nI 4 from rfl, if_pos (by rw [pu_le (by omega) (by omega)]; omega)]
    · unfold fX6_beat_L34
      rw [show (4 : Int32) = nI 4 from rfl, if_pos (by rw [pu_le (by omega) (by omega)]; omega)]
  | d + 1, j, k + 1, k' + 1, b, f, H, hj, hk, hk' => by
    obtain ⟨n, hn, hp⟩ := H.p j (by omega)
    obtain ⟨x, hx, hb⟩ := H.b j (by omega)
    have hf := H.e0 j (by omega)
    have hf1 := H.e1 j (by omega)
    have hf2 := H.e2 j (by omega)
    have hm : dd - dd / 7 * 7 = dd % 7 := by omega
    have hq3 : 3 * q / c ≤ 27 := Nat.le_trans (Nat.div_le_self _ _) (by omega)
    unfold fX4_beatAll_L19 fX6_beat_L34
    have c4 : ¬ nI 4 ≤ nI j := by rw [pu_le (by omega) (by omega)]; omega
    rw [show (4 : Int32) = nI 4 from rfl, if_neg c4, if_neg c4, pu_ck (by omega) (by omega), pu_ck (by omega) (by omega), pu_ck (by omega) (by omega), pu_tn (by omega), hp, show (0 : Int32) = nI 0 from rfl, show (1 : Int32) = nI 1 from rfl, show (7 : Int32) = nI 7 from rfl, show (3 : Int32) = nI 3 from rfl, show (2 : Int32) = nI 2 from rfl, show (99 : Int32) = nI 99 from rfl, pb_va (by omega), pu_bs, Nat.add_zero, hf, hp, pu_tn (by omega), hd, pu_div (by omega) (by omega), pu_mul, pu_sub (by omega), hm, pu_tn (by omega), hw]
    have hle := pu_le (a := n) (b := 0) (by omega) (by omega)
    by_cases c0 : n ≤ 0
    · rw [if_pos (hle.mpr c0), if_pos (hle.mpr c0), pu_add]
      exact pb_rise hc hc4 hd hdd hw hq d (j + 1) k k' b f H (by omega) (by omega) (by omega)
    · have hz : ¬ n = 0 := by omega
      rw [if_neg (fun h => c0 (hle.mp h)), if_neg (fun h => c0 (hle.mp h)), pu_bs, pb_va (by omega), pu_bs, pu_ck (by omega) (by omega), pu_ckz (by omega) (by omega), pb_va (by omega), pu_bs, hf1, hf2, hb, pu_mul, pu_div (by omega) (by omega), pu_add, pb_let (by omega) (by omega), pu_bs, pu_add, if_neg hz, if_neg hz]
      have key : ∀ y, y ≤ 99 → ∃ b' f', fX4_beatAll_L19 p k (upd b j (nI y)) (nI (3 * q / c)) (nI (j + 1)) = some b' ∧ fX6_beat_L34 w nums k' (letF f j (nI n) (nI y) (s j)) (nI c) (nI (j + 1)) = some f' ∧ RV p b' s f' := fun y hy =>
        pb_rise hc hc4 hd hdd hw hq d (j + 1) k k' _ _ (by have h := H.letb (v := j) (by omega) hy; rw [hp] at h; exact h) (by omega) (by omega) (by omega)
      have hlt := pu_lt (a := x + 3 * q / c) (b := 99) (by omega) (by omega)
      by_cases c9 : x + 3 * q / c < 99
      · rw [if_pos (hlt.mpr c9)]
        exact key _ (by omega)
      · rw [if_neg (fun h => c9 (hlt.mp h))]
        exact key _ (by omega)
theorem pb_beat {w nums p b s f : FN} {q dd : Nat} (hd : nums 0 = nI dd) (hdd : dd < 1000000) (hw : w (dd % 7) = nI q) (hq : q ≤ 9) (H : RV p b s f) : ∃ b' f', fX4_beatAll p b (nI q) = some b' ∧ fX6_beat w f nums = some f' ∧ RV p b' s f' := by
  obtain ⟨z, h1, h2, h3, h4, h5⟩ := pb_num (w := w) (nums := nums) H 4 0 0 300 300 rfl (by omega) (by omega) (by omega)
  unfold fX4_beatAll fX4_numberWithPulp fX6_beat
  rw [show (0 : Int32) = nI 0 from rfl, h4, h5, pu_bs]
  by_cases c : z = 0
  · rw [if_pos (by rw [c])]
    have h0 : ∀ v, v < 4 → p v = 0 := fun v hv => by
      refine Classical.byContradiction fun hc => ?_
      have := h3 ⟨v, by omega, hv, hc⟩
      omega
    have go : ∀ (d j k' : Nat), j + d = 4 → d < k' → fX6_beat_L34 w nums k' f (nI z) (nI j) = some f := by
      intro d
      induction d with
      | zero =>
        intro j k' hj hk
        obtain ⟨k, rfl⟩ : ∃ k, k' = k + 1 := ⟨k' - 1, by omega⟩
        unfold fX6_beat_L34
        rw [show (4 : Int32) = nI 4 from rfl, if_pos (by rw [pu_le (by omega) (by omega)]; omega)]
      | succ d ih =>
        intro j k' hj hk
        obtain ⟨k, rfl⟩ : ∃ k, k' = k + 1 := ⟨k' - 1, by omega⟩
        unfold fX6_beat_L34
        have c4 : ¬ nI 4 ≤ nI j := by rw [pu_le (by omega) (by omega)]; omega
        rw [show (4 : Int32) = nI 4 from rfl, if_neg c4, show (0 : Int32) = nI 0 from rfl, pb_va (by omega), pu_bs, Nat.add_zero, H.e0 j (by omega), h0 j (by omega), if_pos (by decide), show (1 : Int32) = nI 1 from rfl, pu_add]
        exact ih _ _ (by omega) (by omega)
    exact ⟨b, f, rfl, go 4 0 300 rfl (by omega), H⟩
  · rw [if_neg (by rw [pu_eq (by omega) (by omega)]; exact c), show (3 : Int32) = nI 3 from rfl, pu_ckz (by omega) (by omega), pu_mul, pu_div (by omega) (by omega)]
    exact pb_rise (by omega) h2 hd hdd hw hq 4 0 300 300 b f H rfl (by omega) (by omega)
theorem pc0 : (0 : Int32).toNatClampNeg = 0 := rfl
theorem pc1 : (1 : Int32).toNatClampNeg = 1 := rfl
theorem pc2 : (2 : Int32).toNatClampNeg = 2 := rfl
theorem pc3 : (3 : Int32).toNatClampNeg = 3 := rfl
theorem pc4 : (4 : Int32).toNatClampNeg = 4 := rfl
theorem pc5 : (5 : Int32).toNatClampNeg = 5 := rfl
theorem pu_if {a b : Nat} (ha : a < 2147483648) (hb : b < 2147483648) : (if nI a < nI b then nI a else nI b) = nI (min a b) := by
  by_cases c : a < b
  · rw [if_pos ((pu_lt ha hb).mpr c), Nat.min_eq_left (by omega)]
  · rw [if_neg (fun h => c ((pu_lt ha hb).mp h)), Nat.min_eq_right (by omega)]
theorem pb_mo {f : FN} {v w : Nat} (h : 3 * v + w < 15) : fX6_mo f (nI v) (nI w) = some (f (3 * v + w)) := by
  unfold fX6_mo
  rw [show (3 : Int32) = nI 3 from rfl, pu_mul, pu_add, pu_ck h (by omega), pu_tn (by omega)]
theorem pb_cr {f : FN} {v w : Nat} (h : 3 * v + w < 9) : fX6_cr f (nI v) (nI w) = some (f (3 * v + w)) := by
  unfold fX6_cr
  rw [show (3 : Int32) = nI 3 from rfl, pu_mul, pu_add, pu_ck h (by omega), pu_tn (by omega)]
theorem pb_ps {f : FN} {v w : Nat} (h : 3 * v + w < 270) : fX6_ps f (nI v) (nI w) = some (f (3 * v + w)) := by
  unfold fX6_ps
  rw [show (3 : Int32) = nI 3 from rfl, pu_mul, pu_add, pu_ck h (by omega), pu_tn (by omega)]
theorem pb_has1 {N p : Nat} (h : p < N) (hN : N ≤ 5) : fX1_has (nI N) (nI p) = some 1 := by
  unfold fX1_has
  rw [show (0 : Int32) = nI 0 from rfl, show (5 : Int32) = nI 5 from rfl, if_neg (by rw [pu_lt (by omega) (by omega)]; omega), if_neg (by rw [pu_le (by omega) (by omega)]; omega), if_neg (by rw [pu_le (by omega) (by omega)]; omega)]
theorem pb_has3 {N p : Nat} (h : p < N) (hN : N ≤ 3) : fX3_has (nI N) (nI p) = some 1 := by
  unfold fX3_has
  rw [show (0 : Int32) = nI 0 from rfl, show (3 : Int32) = nI 3 from rfl, if_neg (by rw [pu_lt (by omega) (by omega)]; omega), if_neg (by rw [pu_le (by omega) (by omega)]; omega), if_neg (by rw [pu_le (by omega) (by omega)]; omega)]
theorem pb_has2 {N p : Nat} (h : p < N) (hN : N ≤ 90) : fX2_has (nI N) (nI p) = some 1 := by
  unfold fX2_has
  rw [show (0 : Int32) = nI 0 from rfl, show (90 : Int32) = nI 90 from rfl, if_neg (by rw [pu_lt (by omega) (by omega)]; omega), if_neg (by rw [pu_le (by omega) (by omega)]; omega), if_neg (by rw [pu_le (by omega) (by omega)]; omega)]
theorem pb_markOf {N p : Nat} {f : FN} (h : p < N) (hN : N ≤ 5) : fX1_markOf (nI N) f (nI p) = some (f p) := by
  unfold fX1_markOf
  rw [pb_has1 h hN, pu_bs, if_neg (by decide), pu_ck (by omega) (by omega), pu_tn (by omega)]
theorem pb_sizeOf {N p : Nat} {f : FN} (h : p < N) (hN : N ≤ 5) : fX1_sizeOf (nI N) f (nI p) = some (f p) := by
  unfold fX1_sizeOf
  rw [pb_has1 h hN, pu_bs, if_neg (by decide), pu_ck (by omega) (by omega), pu_tn (by omega)]
theorem pb_wornOf {N p : Nat} {f : FN} (h : p < N) (hN : N ≤ 5) : fX1_wornOf (nI N) f (nI p) = some (f p) := by
  unfold fX1_wornOf
  rw [pb_has1 h hN, pu_bs, if_neg (by decide), pu_ck (by omega) (by omega), pu_tn (by omega)]
theorem pb_skillOf {N p : Nat} {f : FN} (h : p < N) (hN : N ≤ 3) : fX3_skillOf (nI N) f (nI p) = some (f p) := by
  unfold fX3_skillOf
  rw [pb_has3 h hN, pu_bs, if_neg (by decide), pu_ck (by omega) (by omega), pu_tn (by omega)]
theorem pb_vatOf {N p : Nat} {f : FN} (h : p < N) (hN : N ≤ 3) : fX3_vatOf (nI N) f (nI p) = some (f p) := by
  unfold fX3_vatOf
  rw [pb_has3 h hN, pu_bs, if_neg (by decide), pu_ck (by omega) (by omega), pu_tn (by omega)]
theorem pb_pairOf {N p : Nat} {f : FN} (h : p < N) (hN : N ≤ 3) : fX3_pairOf (nI N) f (nI p) = some (f p) := by
  unfold fX3_pairOf
  rw [pb_has3 h hN, pu_bs, if_neg (by decide), pu_ck (by omega) (by omega), pu_tn (by omega)]
theorem pb_qm {N p : Nat} {f : FN} (h : p < N) (hN : N ≤ 90) : fX2_markOf (nI N) f (nI p) = some (f p) := by
  unfold fX2_markOf
  rw [pb_has2 h hN, pu_bs, if_neg (by decide), pu_ck (by omega) (by omega), pu_tn (by omega)]
theorem pb_qg {N p : Nat} {f : FN} (h : p < N) (hN : N ≤ 90) : fX2_gradeOf (nI N) f (nI p) = some (f p) := by
  unfold fX2_gradeOf
  rw [pb_has2 h hN, pu_bs, if_neg (by decide), pu_ck (by omega) (by omega), pu_tn (by omega)]
theorem pb_qs {N p : Nat} {f : FN} (h : p < N) (hN : N ≤ 90) : fX2_sheetsOf (nI N) f (nI p) = some (f p) := by
  unfold fX2_sheetsOf
  rw [pb_has2 h hN, pu_bs, if_neg (by decide), pu_ck (by omega) (by omega), pu_tn (by omega)]
/-- the pairs, on both sides -/
def pz_RM (N : Nat) (nM : Int32) (mark size worn : FN) (pairs : Int32) (mo : FN) : Prop := (nM = nI N) ∧ (pairs = nI N) ∧ (N ≤ 5) ∧ (∀ p, p < 5 → mo (3 * p) = mark p) ∧ (∀ p, p < 5 → mo (3 * p + 1) = size p) ∧ (∀ p, p < 5 → mo (3 * p + 2) = worn p) ∧ (∀ p, p < 5 → ∃ n, n ≤ 9 ∧ mark p = nI n) ∧ (∀ p, p < N → ∃ n, 1 ≤ n ∧ n ≤ 3 ∧ size p = nI n) ∧ (∀ p, p < 5 → ∃ n, n ≤ 50 ∧ worn p = nI n) ∧ (∀ p, N ≤ p → p < 5 → worn p = 0)
theorem pz_RM.n {N : Nat} {nM : Int32} {mark size worn : FN} {pairs : Int32} {mo : FN} (H : pz_RM N nM mark size worn pairs mo) : nM = nI N := H.1
theorem pz_RM.n' {N : Nat} {nM : Int32} {mark size worn : FN} {pairs : Int32} {mo : FN} (H : pz_RM N nM mark size worn pairs mo) : pairs = nI N := H.2.1
theorem pz_RM.le {N : Nat} {nM : Int32} {mark size worn : FN} {pairs : Int32} {mo : FN} (H : pz_RM N nM mark size worn pairs mo) : N ≤ 5 := H.2.2.1
theorem pz_RM.e0 {N : Nat} {nM : Int32} {mark size worn : FN} {pairs : Int32} {mo : FN} (H : pz_RM N nM mark size worn pairs mo) : ∀ p, p < 5 → mo (3 * p) = mark p := H.2.2.2.1
theorem pz_RM.e1 {N : Nat} {nM : Int32} {mark size worn : FN} {pairs : Int32} {mo : FN} (H : pz_RM N nM mark size worn pairs mo) : ∀ p, p < 5 → mo (3 * p + 1) = size p := H.2.2.2.2.1
theorem pz_RM.e2 {N : Nat} {nM : Int32} {mark size worn : FN} {pairs : Int32} {mo : FN} (H : pz_RM N nM mark size worn pairs mo) : ∀ p, p < 5 → mo (3 * p + 2) = worn p := H.2.2.2.2.2.1
theorem pz_RM.mr {N : Nat} {nM : Int32} {mark size worn : FN} {pairs : Int32} {mo : FN} (H : pz_RM N nM mark size worn pairs mo) : ∀ p, p < 5 → ∃ n, n ≤ 9 ∧ mark p = nI n := H.2.2.2.2.2.2.1
theorem pz_RM.sz {N : Nat} {nM : Int32} {mark size worn : FN} {pairs : Int32} {mo : FN} (H : pz_RM N nM mark size worn pairs mo) : ∀ p, p < N → ∃ n, 1 ≤ n ∧ n ≤ 3 ∧ size p = nI n := H.2.2.2.2.2.2.2.1
theorem pz_RM.wn {N : Nat} {nM : Int32} {mark size worn : FN} {pairs : Int32} {mo : FN} (H : pz_RM N nM mark size worn pairs mo) : ∀ p, p < 5 → ∃ n, n ≤ 50 ∧ worn p = nI n := H.2.2.2.2.2.2.2.2.1
theorem pz_RM.w0 {N : Nat} {nM : Int32} {mark size worn : FN} {pairs : Int32} {mo : FN} (H : pz_RM N nM mark size worn pairs mo) : ∀ p, N ≤ p → p < 5 → worn p = 0 := H.2.2.2.2.2.2.2.2.2
/-- the teams, on both sides -/
def RT (N T : Nat) (nT : Int32) (skill vat pair : FN) (teams : Int32) (cr : FN) : Prop := (nT = nI T) ∧ (teams = nI T) ∧ (T ≤ 3) ∧ (∀ t, t < T → cr (3 * t) = skill t) ∧ (∀ t, t < T → cr (3 * t + 1) = vat t) ∧ (∀ t, t < T → cr (3 * t + 2) = pair t) ∧ (∀ t, t < T → ∃ n, 1 ≤ n ∧ n ≤ 12 ∧ skill t = nI n) ∧ (∀ t, t < T → vat t = -nI 1 ∨ ∃ v, v < 4 ∧ vat t = nI v) ∧ (∀ t, t < T → pair t = -nI 1 ∨ ∃ p, p < N ∧ pair t = nI p)
theorem RT.n {N T : Nat} {nT : Int32} {skill vat pair : FN} {teams : Int32} {cr : FN} (H : RT N T nT skill vat pair teams cr) : nT = nI T := H.1
theorem RT.n' {N T : Nat} {nT : Int32} {skill vat pair : FN} {teams : Int32} {cr : FN} (H : RT N T nT skill vat pair teams cr) : teams = nI T := H.2.1
theorem RT.le {N T : Nat} {nT : Int32} {skill vat pair : FN} {teams : Int32} {cr : FN} (H : RT N T nT skill vat pair teams cr) : T ≤ 3 := H.2.2.1
theorem RT.e0 {N T : Nat} {nT : Int32} {skill vat pair : FN} {teams : Int32} {cr : FN} (H : RT N T nT skill vat pair teams cr) : ∀ t, t < T → cr (3 * t) = skill t := H.2.2.2.1
theorem RT.e1 {N T : Nat} {nT : Int32} {skill vat pair : FN} {teams : Int32} {cr : FN} (H : RT N T nT skill vat pair teams cr) : ∀ t, t < T → cr (3 * t + 1) = vat t := H.2.2.2.2.1
theorem RT.e2 {N T : Nat} {nT : Int32} {skill vat pair : FN} {teams : Int32} {cr : FN} (H : RT N T nT skill vat pair teams cr) : ∀ t, t < T → cr (3 * t + 2) = pair t := H.2.2.2.2.2.1
theorem RT.sk {N T : Nat} {nT : Int32} {skill vat pair : FN} {teams : Int32} {cr : FN} (H : RT N T nT skill vat pair teams cr) : ∀ t, t < T → ∃ n, 1 ≤ n ∧ n ≤ 12 ∧ skill t = nI n := H.2.2.2.2.2.2.1
theorem RT.vt {N T : Nat} {nT : Int32} {skill vat pair : FN} {teams : Int32} {cr : FN} (H : RT N T nT skill vat pair teams cr) : ∀ t, t < T → vat t = -nI 1 ∨ ∃ v, v < 4 ∧ vat t = nI v := H.2.2.2.2.2.2.2.1
theorem RT.pr {N T : Nat} {nT : Int32} {skill vat pair : FN} {teams : Int32} {cr : FN} (H : RT N T nT skill vat pair teams cr) : ∀ t, t < T → pair t = -nI 1 ∨ ∃ p, p < N ∧ pair t = nI p := H.2.2.2.2.2.2.2.2
abbrev pz_PT : Type := Nat × Nat × Nat
def EncC (a b c : FN) (o : Nat) (l : List pz_PT) : Prop := ∀ k x, l[k]? = some x → a (o + k) = nI x.1 ∧ b (o + k) = nI x.2.1 ∧ c (o + k) = nI x.2.2
def EncM (f : FN) (o : Nat) (l : List pz_PT) : Prop := ∀ k x, l[k]? = some x → f (3 * (o + k)) = nI x.1 ∧ f (3 * (o + k) + 1) = nI x.2.1 ∧ f (3 * (o + k) + 2) = nI x.2.2
def sumS : List pz_PT → Nat
  | [] => 0
  | x :: l => x.2.2 + sumS l
def okP (x : pz_PT) : Prop := x.1 ≤ 9 ∧ x.2.1 ≤ 2 ∧ 1 ≤ x.2.2
theorem len_sum : ∀ (l : List pz_PT), (∀ x ∈ l, okP x) → l.length ≤ sumS l
  | [], _ => Nat.le_refl _
  | x :: l, h => by
    have h1 := len_sum l (fun y hy => h y (List.mem_cons_of_mem _ hy))
    have h2 := (h x List.mem_cons_self).2.2
    show l.length + 1 ≤ x.2.2 + sumS l
    omega
/-- the posts and the felts, on both sides -/
def RQ (F : Nat) (l : List pz_PT) (felts nQ allS : Int32) (pm pg ps posts nums : FN) : Prop := (felts = nI F) ∧ (nums 2 = nI F) ∧ (F ≤ 90) ∧ (nQ = nI l.length) ∧ (nums 5 = nI l.length) ∧ (allS = nI (sumS l)) ∧ (sumS l ≤ F) ∧ (∀ x ∈ l, okP x) ∧ (EncC pm pg ps 0 l) ∧ (EncM posts 0 l)
theorem RQ.f {F : Nat} {l : List pz_PT} {felts nQ allS : Int32} {pm pg ps posts nums : FN} (H : RQ F l felts nQ allS pm pg ps posts nums) : felts = nI F := H.1
theorem RQ.f' {F : Nat} {l : List pz_PT} {felts nQ allS : Int32} {pm pg ps posts nums : FN} (H : RQ F l felts nQ allS pm pg ps posts nums) : nums 2 = nI F := H.2.1
theorem RQ.le {F : Nat} {l : List pz_PT} {felts nQ allS : Int32} {pm pg ps posts nums : FN} (H : RQ F l felts nQ allS pm pg ps posts nums) : F ≤ 90 := H.2.2.1
theorem RQ.n {F : Nat} {l : List pz_PT} {felts nQ allS : Int32} {pm pg ps posts nums : FN} (H : RQ F l felts nQ allS pm pg ps posts nums) : nQ = nI l.length := H.2.2.2.1
theorem RQ.n' {F : Nat} {l : List pz_PT} {felts nQ allS : Int32} {pm pg ps posts nums : FN} (H : RQ F l felts nQ allS pm pg ps posts nums) : nums 5 = nI l.length := H.2.2.2.2.1
theorem RQ.s {F : Nat} {l : List pz_PT} {felts nQ allS : Int32} {pm pg ps posts nums : FN} (H : RQ F l felts nQ allS pm pg ps posts nums) : allS = nI (sumS l) := H.2.2.2.2.2.1
theorem RQ.sle {F : Nat} {l : List pz_PT} {felts nQ allS : Int32} {pm pg ps posts nums : FN} (H : RQ F l felts nQ allS pm pg ps posts nums) : sumS l ≤ F := H.2.2.2.2.2.2.1
theorem RQ.ok {F : Nat} {l : List pz_PT} {felts nQ allS : Int32} {pm pg ps posts nums : FN} (H : RQ F l felts nQ allS pm pg ps posts nums) : ∀ x ∈ l, okP x := H.2.2.2.2.2.2.2.1
theorem RQ.ec {F : Nat} {l : List pz_PT} {felts nQ allS : Int32} {pm pg ps posts nums : FN} (H : RQ F l felts nQ allS pm pg ps posts nums) : EncC pm pg ps 0 l := H.2.2.2.2.2.2.2.2.1
theorem RQ.em {F : Nat} {l : List pz_PT} {felts nQ allS : Int32} {pm pg ps posts nums : FN} (H : RQ F l felts nQ allS pm pg ps posts nums) : EncM posts 0 l := H.2.2.2.2.2.2.2.2.2
theorem RQ.len {F l felts nQ allS pm pg ps posts nums} (H : RQ F l felts nQ allS pm pg ps posts nums) : l.length ≤ F := Nat.le_trans (len_sum l H.ok) H.sle
theorem EncM.tail {f : FN} {o : Nat} {x : pz_PT} {l : List pz_PT} (h : EncM f o (x :: l)) : EncM f (o + 1) l := fun k y hy => by
  have := h (k + 1) y hy
  rw [show o + 1 + k = o + (k + 1) by omega]
  exact this
theorem EncC.tail {a b c : FN} {o : Nat} {x : pz_PT} {l : List pz_PT} (h : EncC a b c o (x :: l)) : EncC a b c (o + 1) l := fun k y hy => by
  have := h (k + 1) y hy
  rw [show o + 1 + k = o + (k + 1) by omega]
  exact this
theorem pb_onFelts {f nums : FN} {q : Nat} (hq : nums 5 = nI q) (hq9 : q ≤ 90) : ∀ (l : List pz_PT) (o c k : Nat), EncM f o l → o + l.length = q → l.length < k → fX6_onFelts_L4 f nums k (nI c) (nI o) = some (nI (c + sumS l))
  | [], o, c, k + 1, _, ho, _ => by
    unfold fX6_onFelts_L4
    rw [pc5, hq, if_pos (by rw [pu_le (by simp at ho; omega) (by simp at ho; omega)]; simp at ho; omega)]
    rfl
  | x :: l, o, c, k + 1, h, ho, hk => by
    have ho' : o + (l.length + 1) = q := ho
    have hk' : l.length + 1 < k + 1 := hk
    have h0 := (h 0 x rfl).2.2
    unfold fX6_onFelts_L4
    rw [pc5, hq, if_neg (by rw [pu_le (by omega) (by omega)]; omega), show (2 : Int32) = nI 2 from rfl, pb_ps (by omega), pu_bs, show (1 : Int32) = nI 1 from rfl, pu_add, show 3 * o + 2 = 3 * (o + 0) + 2 from rfl, h0, pu_add, pb_onFelts hq hq9 l (o + 1) _ k h.tail (by omega) (by omega)]
    show some (nI (c + x.2.2 + sumS l)) = some (nI (c + (x.2.2 + sumS l)))
    rw [Nat.add_assoc]
theorem RQ.free {F l felts nQ allS pm pg ps posts nums} (H : RQ F l felts nQ allS pm pg ps posts nums) : fX0_freeFelts felts allS = some (nI (F - sumS l)) ∧ fX6_free posts nums = some (nI (F - sumS l)) := by
  have h1 := H.len
  have h2 := H.le
  refine ⟨?_, ?_⟩
  · unfold fX0_freeFelts
    rw [H.f, H.s, pu_sub H.sle]
  · unfold fX6_free fX6_onFelts
    rw [show (0 : Int32) = nI 0 from rfl, pb_onFelts H.n' (by omega) l 0 0 300 H.em (by omega) (by omega), pu_bs, pc2, H.f', pu_sub (by have := H.sle; omega), Nat.zero_add]
/-- how many sheets a team would make: one number, on both sides -/
theorem pb_makes {N T F : Nat} {l : List pz_PT} {felts nM nT nQ allS pairs teams : Int32} {pulp beat sort vats mark size worn mo skill vat pair cr pm pg ps posts nums : FN} (hv : RV pulp beat sort vats) (hm : pz_RM N nM mark size worn pairs mo) (ht : RT N T nT skill vat pair teams cr) (hq : RQ F l felts nQ allS pm pg ps posts nums) {t : Nat} (h : t < T) :
    ∃ z : Nat, fX0_sheetsOf felts pulp beat nM size nT skill vat pair allS (nI t) = some (nI z) ∧ fX6_makes vats mo cr posts nums (nI t) = some (nI z) ∧ z ≤ 12 ∧ z + sumS l ≤ F ∧
      (1 ≤ z → ∃ v p n s, v < 4 ∧ p < N ∧ vat t = nI v ∧ pair t = nI p ∧ pulp v = nI n ∧ n ≤ 40 ∧ size p = nI s ∧ 1 ≤ s ∧ s ≤ 3 ∧ z * s ≤ n) := by
  have hT := ht.le
  have hsl := hq.sle
  have hF := hq.le
  have hN := hm.le
  have m1 : (-1 : Int32) = -nI 1 := rfl
  unfold fX0_sheetsOf fX6_makes
  rw [ht.n, pb_vatOf h hT, pb_pairOf h hT, show (1 : Int32) = nI 1 from rfl, show (2 : Int32) = nI 2 from rfl, pb_cr (by omega), pb_cr (by omega), ht.e1 t h, ht.e2 t h]
  simp only [pu_bs]
  rcases ht.vt t h with e | ⟨v, hv4, e⟩
  · rw [e, if_pos rfl, if_pos rfl]
    exact ⟨0, rfl, rfl, by omega, by omega, fun q => absurd q (by omega)⟩
  · have cv : ¬ nI v = -nI 1 := fun q => (pu_em (by omega)).mp q
    rw [e, if_neg cv, if_neg cv]
    rcases ht.pr t h with e' | ⟨p, hpN, e'⟩
    · rw [e', if_pos rfl, if_pos rfl]
      exact ⟨0, rfl, rfl, by omega, by omega, fun q => absurd q (by omega)⟩
    · have cp : ¬ nI p = -nI 1 := fun q => (pu_em (by omega)).mp q
      obtain ⟨b, hb, eb⟩ := hv.b v hv4
      rw [e', if_neg cp, if_neg cp, pb_beatOf hv4, pb_va (by omega), hv.e1 v hv4, eb]
      simp only [pu_bs]
      rw [show (30 : Int32) = nI 30 from rfl]
      by_cases c30 : nI 30 ≤ nI b
      · obtain ⟨s, hs1, hs3, es⟩ := hm.sz p hpN
        obtain ⟨n, hn, en⟩ := hv.p v hv4
        obtain ⟨k, hk1, hk, ek⟩ := ht.sk t h
        have cs : nI 1 ≤ nI s := (pu_le (by omega) (by omega)).mpr hs1
        rw [if_pos c30, if_pos c30, hm.n, pb_sizeOf hpN hN, es, pu_bs, if_pos cs, pb_skillOf h hT, hq.free.1, pb_pulpOf hv4, hq.free.2, show (0 : Int32) = nI 0 from rfl, pb_cr (by omega), pb_va (by omega), pb_mo (by omega)]
        simp only [pu_bs, Nat.add_zero]
        rw [hv.e0 v hv4, hm.e1 p (by omega), ht.e0 t h, en, es, ek, pu_ckz (by omega) (by omega), pu_ckz (by omega) (by omega), pu_div (by omega) (by omega)]
        have hd : n / s ≤ 40 := Nat.le_trans (Nat.div_le_self _ _) hn
        rw [pu_if (by omega) (by omega), pu_if (by omega) (by omega), pu_if (by omega) (by omega), pu_if (by omega) (by omega)]
        refine ⟨min (n / s) (min (F - sumS l) k), rfl, ?_, by omega, by omega, fun hz => ⟨v, p, n, s, hv4, hpN, rfl, rfl, en, hn, es, hs1, hs3, ?_⟩⟩
        · congr 2; omega
        · exact Nat.le_trans (Nat.mul_le_mul_right s (Nat.min_le_left _ _)) (Nat.div_mul_le_self n s)
      · rw [if_neg c30, if_neg c30]
        exact ⟨0, rfl, rfl, by omega, by omega, fun q => absurd q (by omega)⟩
