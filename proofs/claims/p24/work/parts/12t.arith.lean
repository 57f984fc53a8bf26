theorem pu_add (a b : Nat) : nI a + nI b = nI (a + b) := (Int32.ofNat_add a b).symm
theorem pu_mul (a b : Nat) : nI a * nI b = nI (a * b) := (Int32.ofNat_mul a b).symm
theorem pu_sub {a b : Nat} (h : b ≤ a) : nI a - nI b = nI (a - b) := (Int32.ofNat_sub a b h).symm
theorem pu_div {a b : Nat} (ha : a < 2147483648) (hb : b < 2147483648) : nI a / nI b = nI (a / b) := (Int32.ofNat_div ha hb).symm
theorem pu_ti {a : Nat} (h : a < 2147483648) : (nI a).toInt = (a : Int) := Int32.toInt_ofNat_of_lt h
theorem pu_tn {a : Nat} (h : a < 2147483648) : (nI a).toNatClampNeg = a := Int32.toNatClampNeg_ofNat_of_lt h
theorem pu_le {a b : Nat} (ha : a < 2147483648) (hb : b < 2147483648) : nI a ≤ nI b ↔ a ≤ b := by
  rw [Int32.le_iff_toInt_le, pu_ti ha, pu_ti hb]; omega
theorem pu_lt {a b : Nat} (ha : a < 2147483648) (hb : b < 2147483648) : nI a < nI b ↔ a < b := by
  rw [Int32.lt_iff_toInt_lt, pu_ti ha, pu_ti hb]; omega
theorem pu_eq {a b : Nat} (ha : a < 2147483648) (hb : b < 2147483648) : nI a = nI b ↔ a = b := by
  rw [← Int32.toInt_inj, pu_ti ha, pu_ti hb]; omega
theorem pu_m1 : (-nI 1).toInt = -1 := by decide
theorem pu_em {a : Nat} (ha : a < 2147483648) : nI a = -nI 1 ↔ False := by
  rw [← Int32.toInt_inj, pu_ti ha, pu_m1]; exact iff_of_false (by omega) id
theorem pu_me {a : Nat} (ha : a < 2147483648) : -nI 1 = nI a ↔ False := by
  rw [← Int32.toInt_inj, pu_ti ha, pu_m1]; exact iff_of_false (by omega) id
theorem pu_lm {a : Nat} (ha : a < 2147483648) : -nI 1 ≤ nI a ↔ True := by
  rw [Int32.le_iff_toInt_le, pu_ti ha, pu_m1]; exact iff_of_true (by omega) trivial
theorem pu_mlt {a : Nat} (ha : a < 2147483648) : -nI 1 < nI a ↔ True := by
  rw [Int32.lt_iff_toInt_lt, pu_ti ha, pu_m1]; exact iff_of_true (by omega) trivial
theorem pu_ml {a : Nat} (ha : a < 2147483648) : nI a ≤ -nI 1 ↔ False := by
  rw [Int32.le_iff_toInt_le, pu_ti ha, pu_m1]; exact iff_of_false (by omega) id
theorem pu_ltm {a : Nat} (ha : a < 2147483648) : nI a < -nI 1 ↔ False := by
  rw [Int32.lt_iff_toInt_lt, pu_ti ha, pu_m1]; exact iff_of_false (by omega) id
theorem pu_lit (n : Nat) : (@OfNat.ofNat Int32 n _) = nI (@OfNat.ofNat Nat n _) := rfl
theorem pu_ck {α : Type} {i n : Nat} {k : Option α} (h : i < n) (hn : n < 2147483648) : ckI (nI i) n k = k := by
  unfold ckI
  rw [pu_ti (by omega)]
  exact if_pos (by omega)
theorem pu_ckz {α : Type} {a : Nat} {k : Option α} (h : 0 < a) (hn : a < 2147483648) : ckZ (nI a) k = k := by
  unfold ckZ
  exact if_neg (by rw [show (0 : Int32) = nI 0 from rfl, pu_eq hn (by omega)]; omega)
theorem pu_bs {α β : Type} (x : α) (k : α → Option β) : (some x).bind k = k x := rfl
theorem pu_up {f : FN} {k : Nat} {x : Int32} : upd f k x k = x := if_pos rfl
theorem pu_un {f : FN} {k j : Nat} {x : Int32} (h : j ≠ k) : upd f k x j = f j := if_neg h
/-- a number from 0 to n -/
theorem pu_nat {a : Int32} (h0 : 0 ≤ a.toInt) : ∃ n : Nat, n < 2147483648 ∧ a = nI n ∧ (n : Int) = a.toInt := by
  have hlt := Int32.toInt_lt a
  refine ⟨a.toInt.toNat, by omega, ?_, by omega⟩
  rw [← Int32.toInt_inj, pu_ti (by omega)]
  omega
theorem pu_b {a : Int32} {b : Nat} (hb : b < 2147483648) : (∃ n, n < b ∧ a = nI n) ∨ (a.toInt < 0 ∨ (b : Int) ≤ a.toInt) := by
  by_cases h : 0 ≤ a.toInt
  · obtain ⟨n, h1, h2, h3⟩ := pu_nat h
    by_cases h4 : n < b
    · exact .inl ⟨n, h4, h2⟩
    · exact .inr (.inr (by omega))
  · exact .inr (.inl (by omega))
theorem pu_lt0 {a : Int32} : a < nI 0 ↔ a.toInt < 0 := by
  rw [Int32.lt_iff_toInt_lt]; exact Iff.rfl
theorem pu_ltn {a : Int32} {b : Nat} (hb : b < 2147483648) : a < nI b ↔ a.toInt < (b : Int) := by
  rw [Int32.lt_iff_toInt_lt, pu_ti hb]
theorem pu_nlt {a : Int32} {b : Nat} (hb : b < 2147483648) : nI b < a ↔ (b : Int) < a.toInt := by
  rw [Int32.lt_iff_toInt_lt, pu_ti hb]
theorem pu_len {a : Int32} {b : Nat} (hb : b < 2147483648) : a ≤ nI b ↔ a.toInt ≤ (b : Int) := by
  rw [Int32.le_iff_toInt_le, pu_ti hb]
theorem pu_nle {a : Int32} {b : Nat} (hb : b < 2147483648) : nI b ≤ a ↔ (b : Int) ≤ a.toInt := by
  rw [Int32.le_iff_toInt_le, pu_ti hb]
theorem pc0 : (0 : Int32).toNatClampNeg = 0 := rfl
theorem pc1 : (1 : Int32).toNatClampNeg = 1 := rfl
theorem pc2 : (2 : Int32).toNatClampNeg = 2 := rfl
theorem pc3 : (3 : Int32).toNatClampNeg = 3 := rfl
theorem pc4 : (4 : Int32).toNatClampNeg = 4 := rfl
theorem pc5 : (5 : Int32).toNatClampNeg = 5 := rfl
theorem pu_if {a b : Nat} (ha : a < 2147483648) (hb : b < 2147483648) : (if nI a < nI b then nI a else nI b) = nI (min a b) := by
  by_cases c : a < b
  · rw [if_pos ((pu_lt ha hb).mpr c), Nat.min_eq_left (by omega)]
  · rw [if_neg (fun h => c ((pu_lt ha hb).mp h)), Nat.min_eq_right (by omega)]
theorem pu_upup (f : FN) (k : Nat) (x y : Int32) : upd (upd f k x) k y = upd f k y := by
  funext j
  unfold upd
  split <;> rfl
theorem va_upup {α : Type} (f : Nat → α) (k : Nat) (x y : α) : va_up (va_up f k x) k y = va_up f k y := by
  funext j
  unfold va_up
  split <;> rfl
theorem va_up_p {α : Type} {f : Nat → α} {k : Nat} {x : α} : va_up f k x k = x := if_pos rfl
theorem va_up_n {α : Type} {f : Nat → α} {k j : Nat} {x : α} (h : j ≠ k) : va_up f k x j = f j := if_neg h
