/-! the class alone -/
theorem pu_below {a b : Int32} : fX5_isBelow a b = if 0 ≤ a.toInt ∧ a.toInt < b.toInt then some 1 else some 0 := by
  unfold fX5_isBelow
  simp only [Int32.lt_iff_toInt_lt, Int32.le_iff_toInt_le, show (0 : Int32).toInt = 0 from rfl]
  repeat' split
  all_goals first | rfl | omega
theorem pu_from {a b : Int32} : fX5_isFrom1To a b = if 1 ≤ a.toInt ∧ a.toInt ≤ b.toInt then some 1 else some 0 := by
  unfold fX5_isFrom1To
  simp only [Int32.lt_iff_toInt_lt, Int32.le_iff_toInt_le, show (0 : Int32).toInt = 0 from rfl, show (1 : Int32).toInt = 1 from rfl]
  repeat' split
  all_goals first | rfl | omega
theorem zl_isB {a : Int32} {b : Nat} (hb : b < 2147483648) : (∃ n, n < b ∧ a = nI n ∧ fX5_isBelow a (nI b) = some 1) ∨ fX5_isBelow a (nI b) = some 0 := by
  rw [pu_below, pu_ti hb]
  rcases pu_b (a := a) hb with ⟨n, h, rfl⟩ | h
  · rw [pu_ti (by omega), if_pos (by omega)]
    exact .inl ⟨n, h, rfl, rfl⟩
  · rw [if_neg (by omega)]
    exact .inr rfl
theorem pb_in {v b : Nat} (h : v < b) (hb : b < 2147483648) : fX5_isBelow (nI v) (nI b) = some 1 := by
  rw [pu_below, pu_ti (by omega), pu_ti hb, if_pos (by omega)]
theorem pb_pulpOf {f : FN} {v : Nat} (h : v < 4) : fX4_pulpOf f (nI v) = some (f v) := by
  unfold fX4_pulpOf
  rw [show (4 : Int32) = nI 4 from rfl, pb_in h (by omega), pu_bs, if_neg (by decide), pu_ck h (by omega), pu_tn (by omega)]
theorem pb_beatOf {f : FN} {v : Nat} (h : v < 4) : fX4_beatOf f (nI v) = some (f v) := by
  unfold fX4_beatOf
  rw [show (4 : Int32) = nI 4 from rfl, pb_in h (by omega), pu_bs, if_neg (by decide), pu_ck h (by omega), pu_tn (by omega)]
theorem pb_sortOf {f : FN} {v : Nat} (h : v < 4) : fX4_sortOf f (nI v) = some (f v) := by
  unfold fX4_sortOf
  rw [show (4 : Int32) = nI 4 from rfl, pb_in h (by omega), pu_bs, if_neg (by decide), pu_ck h (by omega), pu_tn (by omega)]
theorem pb_charge {p b s : FN} {v : Nat} {x y : Int32} (h : v < 4) : fX4_charge p b s (nI v) x y = some (upd p v y, upd b v 0, upd s v x) := by
  unfold fX4_charge
  rw [show (4 : Int32) = nI 4 from rfl, pb_in h (by omega), pu_bs, if_neg (by decide), pu_ck h (by omega), pu_ck h (by omega), pu_ck h (by omega), pu_tn (by omega)]
theorem pb_takeOut {p b s : FN} {v n k : Nat} (h : v < 4) (hp : p v = nI n) (hn : n < 2147483648) (hk : k ≤ n) : fX4_takeOut p b s (nI v) (nI k) = some (if n = k then (upd p v 0, upd b v 0, upd s v (-1)) else (upd p v (nI (n - k)), b, s)) := by
  unfold fX4_takeOut
  rw [show (4 : Int32) = nI 4 from rfl, pb_in h (by omega), pu_bs, if_neg (by decide), pu_ck h (by omega), pu_ck h (by omega), pu_ck h (by omega), pu_tn (by omega), pu_up, hp, pu_sub hk, show (0 : Int32) = nI 0 from rfl]
  by_cases c : n = k
  · subst c
    rw [if_neg (by rw [pu_lt (by omega) (by omega)]; omega), if_pos rfl, pb_charge h, pu_bs, pu_upup]
    rfl
  · rw [if_pos (by rw [pu_lt (by omega) (by omega)]; omega), if_neg c]
theorem pu_self (f : FN) (k : Nat) : upd f k (f k) = f := by
  funext j
  unfold upd
  split
  · next h => rw [h]
  · rfl
theorem pb_has1 {N p : Nat} (h : p < N) (hN : N ≤ 5) : fX1_has (nI N) (nI p) = some 1 := by
  unfold fX1_has
  rw [show (0 : Int32) = nI 0 from rfl, show (5 : Int32) = nI 5 from rfl, if_neg (by rw [pu_lt (by omega) (by omega)]; omega), if_neg (by rw [pu_le (by omega) (by omega)]; omega), if_neg (by rw [pu_le (by omega) (by omega)]; omega)]
theorem pb_has3 {N p : Nat} (h : p < N) (hN : N ≤ 3) : fX3_has (nI N) (nI p) = some 1 := by
  unfold fX3_has
  rw [show (0 : Int32) = nI 0 from rfl, show (3 : Int32) = nI 3 from rfl, if_neg (by rw [pu_lt (by omega) (by omega)]; omega), if_neg (by rw [pu_le (by omega) (by omega)]; omega), if_neg (by rw [pu_le (by omega) (by omega)]; omega)]
theorem pb_has2 {N p : Nat} (h : p < N) (hN : N ≤ 90) : fX2_has (nI N) (nI p) = some 1 := by
  unfold fX2_has
  rw [show (0 : Int32) = nI 0 from rfl, show (90 : Int32) = nI 90 from rfl, if_neg (by rw [pu_lt (by omega) (by omega)]; omega), if_neg (by rw [pu_le (by omega) (by omega)]; omega), if_neg (by rw [pu_le (by omega) (by omega)]; omega)]
theorem pb_markOf {N p : Nat} {f : FN} (h : p < N) (hN : N ≤ 5) : fX1_markOf (nI N) f (nI p) = some (f p) := by
  unfold fX1_markOf
  rw [pb_has1 h hN, pu_bs, if_neg (by decide), pu_ck (by omega) (by omega), pu_tn (by omega)]
theorem pb_sizeOf {N p : Nat} {f : FN} (h : p < N) (hN : N ≤ 5) : fX1_sizeOf (nI N) f (nI p) = some (f p) := by
  unfold fX1_sizeOf
  rw [pb_has1 h hN, pu_bs, if_neg (by decide), pu_ck (by omega) (by omega), pu_tn (by omega)]
theorem pb_wornOf {N p : Nat} {f : FN} (h : p < N) (hN : N ≤ 5) : fX1_wornOf (nI N) f (nI p) = some (f p) := by
  unfold fX1_wornOf
  rw [pb_has1 h hN, pu_bs, if_neg (by decide), pu_ck (by omega) (by omega), pu_tn (by omega)]
theorem pb_skillOf {N p : Nat} {f : FN} (h : p < N) (hN : N ≤ 3) : fX3_skillOf (nI N) f (nI p) = some (f p) := by
  unfold fX3_skillOf
  rw [pb_has3 h hN, pu_bs, if_neg (by decide), pu_ck (by omega) (by omega), pu_tn (by omega)]
theorem pb_vatOf {N p : Nat} {f : FN} (h : p < N) (hN : N ≤ 3) : fX3_vatOf (nI N) f (nI p) = some (f p) := by
  unfold fX3_vatOf
  rw [pb_has3 h hN, pu_bs, if_neg (by decide), pu_ck (by omega) (by omega), pu_tn (by omega)]
theorem pb_pairOf {N p : Nat} {f : FN} (h : p < N) (hN : N ≤ 3) : fX3_pairOf (nI N) f (nI p) = some (f p) := by
  unfold fX3_pairOf
  rw [pb_has3 h hN, pu_bs, if_neg (by decide), pu_ck (by omega) (by omega), pu_tn (by omega)]
theorem pb_qm {N p : Nat} {f : FN} (h : p < N) (hN : N ≤ 90) : fX2_markOf (nI N) f (nI p) = some (f p) := by
  unfold fX2_markOf
  rw [pb_has2 h hN, pu_bs, if_neg (by decide), pu_ck (by omega) (by omega), pu_tn (by omega)]
theorem pb_qg {N p : Nat} {f : FN} (h : p < N) (hN : N ≤ 90) : fX2_gradeOf (nI N) f (nI p) = some (f p) := by
  unfold fX2_gradeOf
  rw [pb_has2 h hN, pu_bs, if_neg (by decide), pu_ck (by omega) (by omega), pu_tn (by omega)]
theorem pb_qs {N p : Nat} {f : FN} (h : p < N) (hN : N ≤ 90) : fX2_sheetsOf (nI N) f (nI p) = some (f p) := by
  unfold fX2_sheetsOf
  rw [pb_has2 h hN, pu_bs, if_neg (by decide), pu_ck (by omega) (by omega), pu_tn (by omega)]
abbrev pz_PT : Type := Nat × Nat × Nat
def EncC (a b c : FN) (o : Nat) (l : List pz_PT) : Prop := ∀ k x, l[k]? = some x → a (o + k) = nI x.1 ∧ b (o + k) = nI x.2.1 ∧ c (o + k) = nI x.2.2
def sumS : List pz_PT → Nat
  | [] => 0
  | x :: l => x.2.2 + sumS l
def okP (x : pz_PT) : Prop := x.1 ≤ 9 ∧ x.2.1 ≤ 2 ∧ 1 ≤ x.2.2
theorem len_sum : ∀ (l : List pz_PT), (∀ x ∈ l, okP x) → l.length ≤ sumS l
  | [], _ => Nat.le_refl _
  | x :: l, h => by
    have h1 := len_sum l (fun y hy => h y (List.mem_cons_of_mem _ hy))
    have h2 := (h x List.mem_cons_self).2.2
    show l.length + 1 ≤ x.2.2 + sumS l
    omega
theorem EncC.tail {a b c : FN} {o : Nat} {x : pz_PT} {l : List pz_PT} (h : EncC a b c o (x :: l)) : EncC a b c (o + 1) l := fun k y hy => by
  have := h (k + 1) y hy
  rw [show o + 1 + k = o + (k + 1) by omega]
  exact this
def ptsF (s : Int32) : Int32 := if s = 0 then 6 else if s = 1 then 3 else 0
theorem pb_points {s : Int32} : fX0_pointsOf s = some (ptsF s) := by
  unfold fX0_pointsOf ptsF
  rw [show (3 : Int32) = nI 3 from rfl]
  rcases zl_isB (a := s) (b := 3) (by omega) with ⟨n, hn, rfl, h⟩ | h
  · rw [h, pu_bs, if_neg (by decide), pu_ck hn (by omega), pu_tn (by omega)]
    rcases (show n = 0 ∨ n = 1 ∨ n = 2 by omega) with rfl | rfl | rfl <;> rfl
  · rw [h, pu_bs, if_pos rfl]
    rw [pu_below] at h
    by_cases c0 : s = 0
    · subst c0; exact absurd h (by decide)
    · by_cases c1 : s = 1
      · subst c1; exact absurd h (by decide)
      · rw [if_neg c0, if_neg c1]
def grdF (x : Int32) : Nat := if x < 12 then (if x < 7 then 2 else 1) else 0
theorem grdF_le (x : Int32) : grdF x ≤ 2 := by unfold grdF; (repeat' split) <;> omega
theorem grdF_some (x : Int32) : (if x < 12 then (if x < 7 then (some 2 : Option Int32) else some 1) else some 0) = some (nI (grdF x)) := by
  unfold grdF
  (repeat' split) <;> rfl
def wtF (g : Nat) : Nat := if g = 0 then 12 else if g = 1 then 7 else 3
theorem wtF_le (g : Nat) : wtF g ≤ 12 := by unfold wtF; (repeat' split) <;> omega
theorem EncC.snoc {a b c : FN} {l : List pz_PT} (h : EncC a b c 0 l) (x : pz_PT) : EncC (upd a l.length (nI x.1)) (upd b l.length (nI x.2.1)) (upd c l.length (nI x.2.2)) 0 (l ++ [x]) := by
  intro k y hy
  rw [Nat.zero_add]
  by_cases e : k < l.length
  · rw [List.getElem?_append_left e] at hy
    have := h k y hy
    rw [Nat.zero_add] at this
    rw [pu_un (by omega), pu_un (by omega), pu_un (by omega)]
    exact this
  · rw [List.getElem?_append_right (by omega)] at hy
    have hk : k = l.length := by
      obtain ⟨hlt, -⟩ := List.getElem?_eq_some_iff.mp hy
      simp at hlt
      omega
    subst hk
    rw [Nat.sub_self] at hy
    cases hy
    exact ⟨pu_up, pu_up, pu_up⟩
theorem sumS_snoc (l : List pz_PT) (x : pz_PT) : sumS (l ++ [x]) = sumS l + x.2.2 := by
  induction l with
  | nil => exact Nat.add_comm _ _
  | cons y l ih => show y.2.2 + sumS (l ++ [x]) = y.2.2 + sumS l + x.2.2; rw [ih, Nat.add_assoc]
theorem pb_add {Q S k : Nat} {pm pg ps : FN} {a b : Int32} (h : Q < 90) : fX2_add (nI Q) (nI S) pm pg ps a b (nI k) = some (nI (Q + 1), nI (S + k), upd pm Q a, upd pg Q b, upd ps Q (nI k)) := by
  unfold fX2_add
  rw [show (90 : Int32) = nI 90 from rfl, if_neg (by rw [pu_le (by omega) (by omega)]; omega), pu_ck h (by omega), pu_ck h (by omega), pu_ck h (by omega), pu_tn (by omega), pu_add, show (1 : Int32) = nI 1 from rfl, pu_add]
theorem pb_wear {N p k wn : Nat} {worn : FN} (hp : p < N) (hN : N ≤ 5) (hw : worn p = nI wn) (hwn : wn ≤ 50) (hk : k ≤ 100) : fX1_wearBySheets (nI N) worn (nI p) (nI k) = some (upd worn p (nI (min (wn + (k + 1) / 2) 50))) := by
  unfold fX1_wearBySheets
  rw [pb_has1 hp hN, pu_bs, if_neg (by decide), pu_ck (by omega) (by omega), pu_ck (by omega) (by omega), pu_tn (by omega), hw, show (1 : Int32) = nI 1 from rfl, show (2 : Int32) = nI 2 from rfl, show (50 : Int32) = nI 50 from rfl, pu_add, pu_div (by omega) (by omega), pu_add, pu_if (by omega) (by omega)]
theorem pb_worth {g : Nat} (h : g ≤ 2) : fX5_worthOf (nI g) = some (nI (wtF g)) ∧ fX6_worth (nI g) = some (nI (wtF g)) := by
  rcases (show g = 0 ∨ g = 1 ∨ g = 2 by omega) with rfl | rfl | rfl <;> exact ⟨by decide, by decide⟩
def fil : List pz_PT → List pz_PT
  | [] => []
  | x :: l => if x.2.2 = 0 then fil l else x :: fil l
def prA : List pz_PT → Nat → List pz_PT
  | [], _ => []
  | x :: l, n => (x.1, x.2.1, x.2.2 - min x.2.2 n) :: prA l (n - min x.2.2 n)
def prS : List pz_PT → Nat → List pz_PT
  | [], _ => []
  | x :: l, n => if n = 0 then x :: l else if x.2.2 ≤ n then prS l (n - x.2.2) else (x.1, x.2.1, x.2.2 - n) :: l
def prL : List pz_PT → Nat → FN → FN
  | [], _, f => f
  | x :: l, n, f => if n = 0 then f else prL l (n - min x.2.2 n) (upd f (3 * x.1 + x.2.1) (f (3 * x.1 + x.2.1) + nI (min x.2.2 n)))
theorem prL_0 (l : List pz_PT) (f : FN) : prL l 0 f = f := by
  cases l <;> simp [prL]
theorem prA_0 : ∀ l : List pz_PT, prA l 0 = l
  | [] => rfl
  | x :: l => by
    show (x.1, x.2.1, x.2.2 - min x.2.2 0) :: prA l (0 - min x.2.2 0) = x :: l
    rw [Nat.min_zero, Nat.sub_zero, Nat.sub_zero, prA_0 l]
theorem fil_self : ∀ l : List pz_PT, (∀ x ∈ l, okP x) → fil l = l
  | [], _ => rfl
  | x :: l, h => by
    have h0 := (h x List.mem_cons_self).2.2
    show (if x.2.2 = 0 then fil l else x :: fil l) = x :: l
    rw [if_neg (by omega), fil_self l (fun y hy => h y (List.mem_cons_of_mem _ hy))]
theorem fil_prA : ∀ (l : List pz_PT) (n : Nat), (∀ x ∈ l, okP x) → fil (prA l n) = prS l n
  | [], _, _ => rfl
  | x :: l, n, h => by
    have h0 := (h x List.mem_cons_self).2.2
    have hl : ∀ y ∈ l, okP y := fun y hy => h y (List.mem_cons_of_mem _ hy)
    show (if x.2.2 - min x.2.2 n = 0 then fil (prA l (n - min x.2.2 n)) else (x.1, x.2.1, x.2.2 - min x.2.2 n) :: fil (prA l (n - min x.2.2 n))) = (if n = 0 then x :: l else if x.2.2 ≤ n then prS l (n - x.2.2) else (x.1, x.2.1, x.2.2 - n) :: l)
    by_cases c : n = 0
    · subst c
      rw [if_neg (by omega), if_pos rfl, Nat.min_zero, Nat.sub_zero, Nat.sub_zero, prA_0, fil_self l hl]
    · rw [if_neg c]
      by_cases c1 : x.2.2 ≤ n
      · rw [if_pos (by omega), if_pos c1, Nat.min_eq_left c1, fil_prA l _ hl]
      · rw [if_neg (by omega), if_neg c1, Nat.min_eq_right (by omega), Nat.sub_self, prA_0, fil_self l hl]
theorem sum_fil : ∀ l : List pz_PT, sumS (fil l) = sumS l
  | [] => rfl
  | x :: l => by
    show sumS (if x.2.2 = 0 then fil l else x :: fil l) = x.2.2 + sumS l
    by_cases c : x.2.2 = 0
    · rw [if_pos c, sum_fil l]; omega
    · rw [if_neg c]; show x.2.2 + sumS (fil l) = _; rw [sum_fil l]
theorem sum_prA : ∀ (l : List pz_PT) (n : Nat), sumS (prA l n) ≤ sumS l
  | [], _ => Nat.le_refl _
  | x :: l, n => by
    have := sum_prA l (n - min x.2.2 n)
    show x.2.2 - min x.2.2 n + sumS (prA l (n - min x.2.2 n)) ≤ x.2.2 + sumS l
    omega
theorem len_prA : ∀ (l : List pz_PT) (n : Nat), (prA l n).length = l.length
  | [], _ => rfl
  | x :: l, n => congrArg (· + 1) (len_prA l _)
theorem fil_append : ∀ a b : List pz_PT, fil (a ++ b) = fil a ++ fil b
  | [], b => rfl
  | x :: a, b => by
    show (if x.2.2 = 0 then fil (a ++ b) else x :: fil (a ++ b)) = (if x.2.2 = 0 then fil a else x :: fil a) ++ fil b
    rw [fil_append a b]
    split <;> rfl
theorem ok_prS : ∀ (l : List pz_PT) (n : Nat), (∀ x ∈ l, okP x) → ∀ x ∈ prS l n, okP x
  | [], _, _ => fun x h => absurd h List.not_mem_nil
  | x :: l, n, h => by
    have h0 := h x List.mem_cons_self
    have hl : ∀ y ∈ l, okP y := fun y hy => h y (List.mem_cons_of_mem _ hy)
    show ∀ y ∈ (if n = 0 then x :: l else if x.2.2 ≤ n then prS l (n - x.2.2) else (x.1, x.2.1, x.2.2 - n) :: l), okP y
    split
    · exact h
    · split
      · exact ok_prS l _ hl
      · intro y hy
        rcases List.mem_cons.mp hy with rfl | hy
        · refine ⟨h0.1, h0.2.1, ?_⟩; show 1 ≤ x.2.2 - n; omega
        · exact hl y hy
theorem len_fil : ∀ l : List pz_PT, (fil l).length ≤ l.length
  | [] => Nat.le_refl _
  | x :: l => by
    have := len_fil l
    show (if x.2.2 = 0 then fil l else x :: fil l).length ≤ l.length + 1
    split
    · omega
    · show (fil l).length + 1 ≤ _; omega
theorem prL_congr : ∀ (l : List pz_PT) (n : Nat) (f g : FN), (∀ x ∈ l, okP x) → (∀ j, j < 30 → f j = g j) → ∀ j, j < 30 → prL l n f j = prL l n g j
  | [], _, _, _, _, h => h
  | x :: l, n, f, g, hk, h => by
    have h0 := hk x List.mem_cons_self
    have hl : ∀ y ∈ l, okP y := fun y hy => hk y (List.mem_cons_of_mem _ hy)
    have h1 := h0.1
    have h2 := h0.2.1
    unfold prL
    split
    · exact h
    · refine prL_congr l _ _ _ hl (fun j hj => ?_)
      unfold upd
      rw [h j hj, h (3 * x.1 + x.2.1) (by omega)]
theorem EncC.cong {a b c a' b' c' : FN} {o : Nat} {l : List pz_PT} (h : EncC a b c o l) (ha : ∀ j, o ≤ j → a' j = a j) (hb : ∀ j, o ≤ j → b' j = b j) (hc : ∀ j, o ≤ j → c' j = c j) : EncC a' b' c' o l := fun k x hx => by
  rw [ha _ (by omega), hb _ (by omega), hc _ (by omega)]
  exact h k x hx
theorem pb_drop {Q : Nat} (hQ : Q ≤ 90) : ∀ (r p : List pz_PT) (j k : Nat) (a b c : FN), EncC a b c 0 p → EncC a b c j r → (∀ x ∈ r, x.2.2 < 1000) → p.length ≤ j → j + r.length = Q → r.length < k →
    ∃ a' b' c', fX2_dropEmptyOnes_L4 (nI Q) k a b c (nI p.length) (nI j) = some (nI (p ++ fil r).length, a', b', c') ∧ EncC a' b' c' 0 (p ++ fil r)
  | [], p, j, k + 1, a, b, c, hp, _, _, hpj, hj, _ => by
    refine ⟨a, b, c, ?_, ?_⟩
    · unfold fX2_dropEmptyOnes_L4
      have hj' : j = Q := hj
      rw [hj', if_pos (by rw [pu_le (by omega) (by omega)]; omega)]
      show _ = some (nI (p ++ []).length, _)
      rw [List.append_nil]
    · show EncC a b c 0 (p ++ [])
      rw [List.append_nil]; exact hp
  | x :: r, p, j, k + 1, a, b, c, hp, hr, hs, hpj, hj, hk => by
    have hj' : j + (r.length + 1) = Q := hj
    have hk' : r.length + 1 < k + 1 := hk
    have h0 := hr 0 x rfl
    have hx := hs x List.mem_cons_self
    have hr' : ∀ y ∈ r, y.2.2 < 1000 := fun y hy => hs y (List.mem_cons_of_mem _ hy)
    rw [Nat.add_zero] at h0
    unfold fX2_dropEmptyOnes_L4
    have c1 : ¬ nI Q ≤ nI j := by rw [pu_le (by omega) (by omega)]; omega
    have c90 : ¬ (90 : Int32) ≤ nI j := by rw [show (90 : Int32) = nI 90 from rfl, pu_le (by omega) (by omega)]; omega
    rw [if_neg c1, if_neg c90, pu_ck (by omega) (by omega), pu_tn (by omega), h0.2.2, show (0 : Int32) = nI 0 from rfl, show (1 : Int32) = nI 1 from rfl, pu_add]
    by_cases cz : x.2.2 = 0
    · rw [if_pos (by rw [pu_le (by omega) (by omega)]; omega)]
      obtain ⟨a', b', c', e1, e2⟩ := pb_drop hQ r p (j + 1) k a b c hp hr.tail hr' (by omega) (by omega) (by omega)
      refine ⟨a', b', c', ?_, ?_⟩
      · show _ = some (nI (p ++ (if x.2.2 = 0 then fil r else x :: fil r)).length, _)
        rw [if_pos cz]; exact e1
      · show EncC _ _ _ 0 (p ++ (if x.2.2 = 0 then fil r else x :: fil r))
        rw [if_pos cz]; exact e2
    · have cl : ¬ nI x.2.2 ≤ nI 0 := by rw [pu_le (by omega) (by omega)]; omega
      rw [if_neg cl, pu_ck (by omega) (by omega), pu_ck (by omega) (by omega), pu_ck (by omega) (by omega), pu_ck (by omega) (by omega), pu_ck (by omega) (by omega), pu_ck (by omega) (by omega), pu_tn (by omega), h0.1, h0.2.1, pu_add]
      have hl : (p ++ [x]).length = p.length + 1 := by simp
      obtain ⟨a', b', c', e1, e2⟩ := pb_drop hQ r (p ++ [x]) (j + 1) k _ _ _ (hp.snoc x) (hr.tail.cong (fun i hi => pu_un (by omega)) (fun i hi => pu_un (by omega)) (fun i hi => pu_un (by omega))) hr' (by omega) (by omega) (by omega)
      rw [hl] at e1
      refine ⟨a', b', c', ?_, ?_⟩
      · show _ = some (nI (p ++ (if x.2.2 = 0 then fil r else x :: fil r)).length, _)
        rw [if_neg cz, show p ++ x :: fil r = p ++ [x] ++ fil r by simp]; exact e1
      · show EncC _ _ _ 0 (p ++ (if x.2.2 = 0 then fil r else x :: fil r))
        rw [if_neg cz, show p ++ x :: fil r = p ++ [x] ++ fil r by simp]; exact e2
theorem pb_hang {f : FN} {a b : Nat} {x : Int32} (ha : a ≤ 9) (hb : b ≤ 2) : fX0_hang f (nI a) (nI b) x = some (upd f (3 * a + b) (f (3 * a + b) + x)) := by
  unfold fX0_hang
  rw [show (10 : Int32) = nI 10 from rfl, show (3 : Int32) = nI 3 from rfl, pb_in (by omega) (by omega), pu_bs, if_neg (by decide), pb_in (by omega) (by omega), pu_bs, if_neg (by decide), pu_mul, pu_add, pu_ck (by omega) (by omega), pu_ck (by omega) (by omega), pu_tn (by omega), Nat.mul_comm a 3]
theorem pb_takeOff {Q j S s t : Nat} {ps : FN} (h : j < Q) (hQ : Q ≤ 90) (hs : ps j = nI s) (ht : t ≤ s) (hS : t ≤ S) : fX2_takeOff (nI Q) (nI S) ps (nI j) (nI t) = some (nI (S - t), upd ps j (nI (s - t))) := by
  unfold fX2_takeOff
  rw [pb_has2 h hQ, pu_bs, if_neg (by decide), pu_ck (by omega) (by omega), pu_ck (by omega) (by omega), pu_tn (by omega), hs, pu_sub ht, pu_sub hS]
theorem sum_app : ∀ a b : List pz_PT, sumS (a ++ b) = sumS a + sumS b
  | [], b => (Nat.zero_add _).symm
  | x :: a, b => by
    show x.2.2 + sumS (a ++ b) = x.2.2 + sumS a + sumS b
    rw [sum_app a b, Nat.add_assoc]
theorem pb_pressC {Q : Nat} (hQ : Q ≤ 90) {a b : FN} : ∀ (r p : List pz_PT) (j n k : Nat) (c f : FN), EncC a b c 0 (p ++ r) → (∀ x ∈ p ++ r, x.2.2 < 1000) → (∀ x ∈ r, okP x) → p.length = j → j + r.length = Q → r.length < k → n ≤ 1000 →
    ∃ a' b' c', fX0_pressPosts_L5 (nI Q) a b k (nI (sumS (p ++ r))) c f (nI n) (nI j) = some (nI (fil (p ++ prA r n)).length, nI (sumS (p ++ prA r n)), a', b', c', prL r n f) ∧ EncC a' b' c' 0 (fil (p ++ prA r n))
  | [], p, j, n, k + 1, c, f, he, hs, _, hp, hj, _, hn => by
    have hj' : j = Q := hj
    unfold fX0_pressPosts_L5 fX2_dropEmptyOnes
    rw [hj', if_pos (by rw [pu_le (by omega) (by omega)]; omega)]
    have hl : p.length = Q := by omega
    rw [List.append_nil] at he hs
    obtain ⟨a', b', c', e1, e2⟩ := pb_drop hQ p [] 0 300 a b c (fun k x h => by simp at h) he hs (by simp) (by omega) (by omega)
    have e1' : fX2_dropEmptyOnes_L4 (nI Q) 300 a b c 0 0 = some (nI (fil p).length, a', b', c') := e1
    rw [e1', pu_bs]
    refine ⟨a', b', c', ?_, ?_⟩
    · show some _ = some (nI (fil (p ++ [])).length, nI (sumS (p ++ [])), _)
      rw [List.append_nil]
      rfl
    · show EncC a' b' c' 0 (fil (p ++ []))
      rw [List.append_nil]; exact e2
  | x :: r, p, j, n, k + 1, c, f, he, hs, hk, hp, hj, hkk, hn => by
    have hj' : j + (r.length + 1) = Q := hj
    have hk' : r.length + 1 < k + 1 := hkk
    have hx := hk x List.mem_cons_self
    have hxs := hs x (List.mem_append_right _ List.mem_cons_self)
    unfold fX0_pressPosts_L5
    have c1 : ¬ nI Q ≤ nI j := by rw [pu_le (by omega) (by omega)]; omega
    rw [if_neg c1, show (0 : Int32) = nI 0 from rfl, show (1 : Int32) = nI 1 from rfl]
    by_cases cn : n = 0
    · subst cn
      rw [if_pos (by decide)]
      have hl : (p ++ x :: r).length = Q := by simp; omega
      obtain ⟨a', b', c', e1, e2⟩ := pb_drop hQ (p ++ x :: r) [] 0 300 a b c (fun k x h => by simp at h) he hs (by simp) (by omega) (by omega)
      have e1' : fX2_dropEmptyOnes_L4 (nI Q) 300 a b c 0 0 = some (nI (fil (p ++ x :: r)).length, a', b', c') := e1
      unfold fX2_dropEmptyOnes
      rw [e1', pu_bs, prA_0, prL_0]
      exact ⟨a', b', c', rfl, e2⟩
    · have hg : (p ++ x :: r)[j]? = some x := by
        rw [List.getElem?_append_right (by omega), hp, Nat.sub_self]; rfl
      have h0 := he j x hg
      rw [Nat.zero_add] at h0
      have hsum : sumS (p ++ x :: r) = sumS p + (x.2.2 + sumS r) := sum_app p (x :: r)
      rw [if_neg (by rw [pu_le (by omega) (by omega)]; omega), pb_qs (by omega) hQ, pb_qm (by omega) hQ, pb_qg (by omega) hQ]
      simp only [pu_bs]
      rw [h0.1, h0.2.1, h0.2.2, pu_if (by omega) (by omega), pb_hang hx.1 hx.2.1, pu_bs, pb_takeOff (by omega) hQ h0.2.2 (Nat.min_le_left _ _) (by omega), pu_bs, pu_sub (Nat.min_le_right _ _), pu_add]
      have hE : EncC a b (upd c j (nI (x.2.2 - min x.2.2 n))) 0 (p ++ [(x.1, x.2.1, x.2.2 - min x.2.2 n)] ++ r) := by
        intro i y hy
        rw [Nat.zero_add]
        by_cases ci : i = j
        · subst ci
          have : y = (x.1, x.2.1, x.2.2 - min x.2.2 n) := by
            rw [show p ++ [(x.1, x.2.1, x.2.2 - min x.2.2 n)] ++ r = p ++ (x.1, x.2.1, x.2.2 - min x.2.2 n) :: r by simp, List.getElem?_append_right (by omega), hp, Nat.sub_self] at hy
            exact (Option.some.inj hy).symm
          subst this
          exact ⟨h0.1, h0.2.1, pu_up⟩
        · have : (p ++ x :: r)[i]? = some y := by
            rw [show p ++ [(x.1, x.2.1, x.2.2 - min x.2.2 n)] ++ r = p ++ (x.1, x.2.1, x.2.2 - min x.2.2 n) :: r by simp] at hy
            by_cases cl : i < p.length
            · rw [List.getElem?_append_left cl] at hy ⊢; exact hy
            · rw [List.getElem?_append_right (by omega)] at hy ⊢
              obtain ⟨q, hq⟩ : ∃ q, i - p.length = q + 1 := ⟨i - p.length - 1, by omega⟩
              rw [hq] at hy ⊢
              exact hy
          have := he i y this
          rw [Nat.zero_add] at this
          rw [pu_un ci]
          exact this
      obtain ⟨a', b', c', e1, e2⟩ := pb_pressC hQ r (p ++ [(x.1, x.2.1, x.2.2 - min x.2.2 n)]) (j + 1) (n - min x.2.2 n) k _ (upd f (3 * x.1 + x.2.1) (f (3 * x.1 + x.2.1) + nI (min x.2.2 n))) hE (by
        intro y hy
        rcases List.mem_append.mp hy with hy | hy
        · rcases List.mem_append.mp hy with hy | hy
          · exact hs y (List.mem_append_left _ hy)
          · rw [List.mem_singleton.mp hy]; show x.2.2 - min x.2.2 n < 1000; omega
        · exact hs y (List.mem_append_right _ (List.mem_cons_of_mem _ hy))) (fun y hy => hk y (List.mem_cons_of_mem _ hy)) (by simp; omega) (by omega) (by omega) (by omega)
      have hS : sumS (p ++ x :: r) - min x.2.2 n = sumS (p ++ [(x.1, x.2.1, x.2.2 - min x.2.2 n)] ++ r) := by
        rw [hsum, sum_app, sumS_snoc]
        show _ = sumS p + (x.2.2 - min x.2.2 n) + sumS r
        omega
      have hA : p ++ prA (x :: r) n = p ++ [(x.1, x.2.1, x.2.2 - min x.2.2 n)] ++ prA r (n - min x.2.2 n) := by
        show p ++ (x.1, x.2.1, x.2.2 - min x.2.2 n) :: prA r (n - min x.2.2 n) = _
        simp
      have hLf : prL (x :: r) n f = prL r (n - min x.2.2 n) (upd f (3 * x.1 + x.2.1) (f (3 * x.1 + x.2.1) + nI (min x.2.2 n))) := by
        show (if n = 0 then f else _) = _
        rw [if_neg cn]
      rw [hS, hA, hLf]
      exact ⟨a', b', c', e1, e2⟩
theorem prS_0 (l : List pz_PT) : prS l 0 = l := by
  cases l <;> simp [prS]
theorem pu_xor (a b : Nat) : nI a ^^^ nI b = nI (a ^^^ b) := by
  apply Int32.toBitVec.inj
  rw [Int32.toBitVec_xor]
  exact (BitVec.ofNat_xor (w := 32) (x := a) (y := b)).symm
theorem pb_floorMod {D : Nat} (h : D < 1000000) : fJ9_floorMod_7cf53 (nI D) 7 = some (nI (D % 7)) := by
  have hx : D ^^^ 7 < 2 ^ 20 := Nat.xor_lt_two_pow (by omega) (by decide)
  unfold fJ9_floorMod_7cf53
  rw [show (7 : Int32) = nI 7 from rfl, pu_ckz (by omega) (by omega), pu_xor, if_pos (by rw [show (0 : Int32) = nI 0 from rfl, pu_le (by omega) (by omega)]; omega), pu_div (by omega) (by omega), pu_mul, pu_sub (by omega), show D - D / 7 * 7 = D % 7 by omega]
theorem pb_send {T t : Nat} {vat pair : FN} {x y : Int32} (ht : t < T) (hT : T ≤ 3) : fX3_send (nI T) vat pair (nI t) x y = some (upd vat t x, upd pair t y) := by
  unfold fX3_send
  rw [pb_has3 ht hT, pu_bs, if_neg (by decide), pu_ck (by omega) (by omega), pu_ck (by omega) (by omega), pu_tn (by omega)]
