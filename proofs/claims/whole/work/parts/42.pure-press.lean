def fil : List pz_PT → List pz_PT
  | [] => []
  | x :: l => if x.2.2 = 0 then fil l else x :: fil l
def prA : List pz_PT → Nat → List pz_PT
  | [], _ => []
  | x :: l, n => (x.1, x.2.1, x.2.2 - min x.2.2 n) :: prA l (n - min x.2.2 n)
def prS : List pz_PT → Nat → List pz_PT
  | [], _ => []
  | x :: l, n => if n = 0 then x :: l else if x.2.2 ≤ n then prS l (n - x.2.2) else (x.1, x.2.1, x.2.2 - n) :: l
def prL : List pz_PT → Nat → FN → FN
  | [], _, f => f
  | x :: l, n, f => if n = 0 then f else prL l (n - min x.2.2 n) (upd f (3 * x.1 + x.2.1) (f (3 * x.1 + x.2.1) + nI (min x.2.2 n)))
theorem prL_0 (l : List pz_PT) (f : FN) : prL l 0 f = f := by
  cases l <;> simp [prL]
theorem prA_0 : ∀ l : List pz_PT, prA l 0 = l
  | [] => rfl
  | x :: l => by
    show (x.1, x.2.1, x.2.2 - min x.2.2 0) :: prA l (0 - min x.2.2 0) = x :: l
    rw [Nat.min_zero, Nat.sub_zero, Nat.sub_zero, prA_0 l]
theorem fil_self : ∀ l : List pz_PT, (∀ x ∈ l, okP x) → fil l = l
  | [], _ => rfl
  | x :: l, h => by
    have h0 := (h x List.mem_cons_self).2.2
    show (if x.2.2 = 0 then fil l else x :: fil l) = x :: l
    rw [if_neg (by omega), fil_self l (fun y hy => h y (List.mem_cons_of_mem _ hy))]
theorem fil_prA : ∀ (l : List pz_PT) (n : Nat), (∀ x ∈ l, okP x) → fil (prA l n) = prS l n
  | [], _, _ => rfl
  | x :: l, n, h => by
    have h0 := (h x List.mem_cons_self).2.2
    have hl : ∀ y ∈ l, okP y := fun y hy => h y (List.mem_cons_of_mem _ hy)
    show (if x.2.2 - min x.2.2 n = 0 then fil (prA l (n - min x.2.2 n)) else (x.1, x.2.1, x.2.2 - min x.2.2 n) :: fil (prA l (n - min x.2.2 n))) = (if n = 0 then x :: l else if x.2.2 ≤ n then prS l (n - x.2.2) else (x.1, x.2.1, x.2.2 - n) :: l)
    by_cases c : n = 0
    · subst c
      rw [if_neg (by omega), if_pos rfl, Nat.min_zero, Nat.sub_zero, Nat.sub_zero, prA_0, fil_self l hl]
    · rw [if_neg c]
      by_cases c1 : x.2.2 ≤ n
      · rw [if_pos (by omega), if_pos c1, Nat.min_eq_left c1, fil_prA l _ hl]
      · rw [if_neg (by omega), if_neg c1, Nat.min_eq_right (by omega), Nat.sub_self, prA_0, fil_self l hl]
theorem sum_fil : ∀ l : List pz_PT, sumS (fil l) = sumS l
  | [] => rfl
  | x :: l => by
    show sumS (if x.2.2 = 0 then fil l else x :: fil l) = x.2.2 + sumS l
    by_cases c : x.2.2 = 0
    · rw [if_pos c, sum_fil l]; omega
    · rw [if_neg c]; show x.2.2 + sumS (fil l) = _; rw [sum_fil l]
theorem sum_prA : ∀ (l : List pz_PT) (n : Nat), sumS (prA l n) ≤ sumS l
  | [], _ => Nat.le_refl _
  | x :: l, n => by
    have := sum_prA l (n - min x.2.2 n)
    show x.2.2 - min x.2.2 n + sumS (prA l (n - min x.2.2 n)) ≤ x.2.2 + sumS l
    omega
theorem len_prA : ∀ (l : List pz_PT) (n : Nat), (prA l n).length = l.length
  | [], _ => rfl
  | x :: l, n => congrArg (· + 1) (len_prA l _)
theorem fil_append : ∀ a b : List pz_PT, fil (a ++ b) = fil a ++ fil b
  | [], b => rfl
  | x :: a, b => by
    show (if x.2.2 = 0 then fil (a ++ b) else x :: fil (a ++ b)) = (if x.2.2 = 0 then fil a else x :: fil a) ++ fil b
    rw [fil_append a b]
    split <;> rfl
theorem ok_prS : ∀ (l : List pz_PT) (n : Nat), (∀ x ∈ l, okP x) → ∀ x ∈ prS l n, okP x
  | [], _, _ => fun x h => absurd h List.not_mem_nil
  | x :: l, n, h => by
    have h0 := h x List.mem_cons_self
    have hl : ∀ y ∈ l, okP y := fun y hy => h y (List.mem_cons_of_mem _ hy)
    show ∀ y ∈ (if n = 0 then x :: l else if x.2.2 ≤ n then prS l (n - x.2.2) else (x.1, x.2.1, x.2.2 - n) :: l), okP y
    split
    · exact h
    · split
      · exact ok_prS l _ hl
      · intro y hy
        rcases List.mem_cons.mp hy with rfl | hy
        · refine ⟨h0.1, h0.2.1, ?_⟩; show 1 ≤ x.2.2 - n; omega
        · exact hl y hy
theorem len_fil : ∀ l : List pz_PT, (fil l).length ≤ l.length
  | [] => Nat.le_refl _
  | x :: l => by
    have := len_fil l
    show (if x.2.2 = 0 then fil l else x :: fil l).length ≤ l.length + 1
    split
    · omega
    · show (fil l).length + 1 ≤ _; omega
theorem prL_congr : ∀ (l : List pz_PT) (n : Nat) (f g : FN), (∀ x ∈ l, okP x) → (∀ j, j < 30 → f j = g j) → ∀ j, j < 30 → prL l n f j = prL l n g j
  | [], _, _, _, _, h => h
  | x :: l, n, f, g, hk, h => by
    have h0 := hk x List.mem_cons_self
    have hl : ∀ y ∈ l, okP y := fun y hy => hk y (List.mem_cons_of_mem _ hy)
    have h1 := h0.1
    have h2 := h0.2.1
    unfold prL
    split
    · exact h
    · refine prL_congr l _ _ _ hl (fun j hj => ?_)
      unfold upd
      rw [h j hj, h (3 * x.1 + x.2.1) (by omega)]
theorem EncC.cong {a b c a' b' c' : FN} {o : Nat} {l : List pz_PT} (h : EncC a b c o l) (ha : ∀ j, o ≤ j → a' j = a j) (hb : ∀ j, o ≤ j → b' j = b j) (hc : ∀ j, o ≤ j → c' j = c j) : EncC a' b' c' o l := fun k x hx => by
  rw [ha _ (by omega), hb _ (by omega), hc _ (by omega)]
  exact h k x hx
/-- the class's posts without the empty ones -/
theorem pb_drop {Q : Nat} (hQ : Q ≤ 90) : ∀ (r p : List pz_PT) (j k : Nat) (a b c : FN), EncC a b c 0 p → EncC a b c j r → (∀ x ∈ r, x.2.2 < 1000) → p.length ≤ j → j + r.length = Q → r.length < k →
    ∃ a' b' c', fX2_dropEmptyOnes_L4 (nI Q) k a b c (nI p.length) (nI j) = some (nI (p ++ fil r).length, a', b', c') ∧ EncC a' b' c' 0 (p ++ fil r)
  | [], p, j, k + 1, a, b, c, hp, _, _, hpj, hj, _ => by
    refine ⟨a, b, c, ?_, ?_⟩
    · unfold fX2_dropEmptyOnes_L4
      have hj' : j = Q := hj
      rw [hj', if_pos (by rw [pu_le (by omega) (by omega)]; omega)]
      show _ = some (nI (p ++ []).length, _)
      rw [List.append_nil]
    · show EncC a b c 0 (p ++ [])
      rw [List.append_nil]; exact hp
  | x :: r, p, j, k + 1, a, b, c, hp, hr, hs, hpj, hj, hk => by
    have hj' : j + (r.length + 1) = Q := hj
    have hk' : r.length + 1 < k + 1 := hk
    have h0 := hr 0 x rfl
    have hx := hs x List.mem_cons_self
    have hr' : ∀ y ∈ r, y.2.2 < 1000 := fun y hy => hs y (List.mem_cons_of_mem _ hy)
    rw [Nat.add_zero] at h0
    unfold fX2_dropEmptyOnes_L4
    have c1 : ¬ nI Q ≤ nI j := by rw [pu_le (by omega) (by omega)]; omega
    have c90 : ¬ (90 : Int32) ≤ nI j := by rw [show (90 : Int32) = nI 90 from rfl, pu_le (by omega) (by omega)]; omega
    rw [if_neg c1, if_neg c90, pu_ck (by omega) (by omega), pu_tn (by omega), h0.2.2, show (0 : Int32) = nI 0 from rfl, show (1 : Int32) = nI 1 from rfl, pu_add]
    by_cases cz : x.2.2 = 0
    · rw [if_pos (by rw [pu_le (by omega) (by omega)]; omega)]
      obtain ⟨a', b', c', e1, e2⟩ := pb_drop hQ r p (j + 1) k a b c hp hr.tail hr' (by omega) (by omega) (by omega)
      refine ⟨a', b', c', ?_, ?_⟩
      · show _ = some (nI (p ++ (if x.2.2 = 0 then fil r else x :: fil r)).length, _)
        rw [if_pos cz]; exact e1
      · show EncC _ _ _ 0 (p ++ (if x.2.2 = 0 then fil r else x :: fil r))
        rw [if_pos cz]; exact e2
    · have cl : ¬ nI x.2.2 ≤ nI 0 := by rw [pu_le (by omega) (by omega)]; omega
      rw [if_neg cl, pu_ck (by omega) (by omega), pu_ck (by omega) (by omega), pu_ck (by omega) (by omega), pu_ck (by omega) (by omega), pu_ck (by omega) (by omega), pu_ck (by omega) (by omega), pu_tn (by omega), h0.1, h0.2.1, pu_add]
      have hl : (p ++ [x]).length = p.length + 1 := by simp
      obtain ⟨a', b', c', e1, e2⟩ := pb_drop hQ r (p ++ [x]) (j + 1) k _ _ _ (hp.snoc x) (hr.tail.cong (fun i hi => pu_un (by omega)) (fun i hi => pu_un (by omega)) (fun i hi => pu_un (by omega))) hr' (by omega) (by omega) (by omega)
      rw [hl] at e1
      refine ⟨a', b', c', ?_, ?_⟩
      · show _ = some (nI (p ++ (if x.2.2 = 0 then fil r else x :: fil r)).length, _)
        rw [if_neg cz, show p ++ x :: fil r = p ++ [x] ++ fil r by simp]; exact e1
      · show EncC _ _ _ 0 (p ++ (if x.2.2 = 0 then fil r else x :: fil r))
        rw [if_neg cz, show p ++ x :: fil r = p ++ [x] ++ fil r by simp]; exact e2
theorem pb_hang {f : FN} {a b : Nat} {x : Int32} (ha : a ≤ 9) (hb : b ≤ 2) : fX0_hang f (nI a) (nI b) x = some (upd f (3 * a + b) (f (3 * a + b) + x)) := by
  unfold fX0_hang
  rw [show (10 : Int32) = nI 10 from rfl, show (3 : Int32) = nI 3 from rfl, pb_in (by omega) (by omega), pu_bs, if_neg (by decide), pb_in (by omega) (by omega), pu_bs, if_neg (by decide), pu_mul, pu_add, pu_ck (by omega) (by omega), pu_ck (by omega) (by omega), pu_tn (by omega), Nat.mul_comm a 3]
theorem pb_takeOff {Q j S s t : Nat} {ps : FN} (h : j < Q) (hQ : Q ≤ 90) (hs : ps j = nI s) (ht : t ≤ s) (hS : t ≤ S) : fX2_takeOff (nI Q) (nI S) ps (nI j) (nI t) = some (nI (S - t), upd ps j (nI (s - t))) := by
  unfold fX2_takeOff
  rw [pb_has2 h hQ, pu_bs, if_neg (by decide), pu_ck (by omega) (by omega), pu_ck (by omega) (by omega), pu_tn (by omega), hs, pu_sub ht, pu_sub hS]
theorem sum_app : ∀ a b : List pz_PT, sumS (a ++ b) = sumS a + sumS b
  | [], b => (Nat.zero_add _).symm
  | x :: a, b => by
    show x.2.2 + sumS (a ++ b) = x.2.2 + sumS a + sumS b
    rw [sum_app a b, Nat.add_assoc]
theorem pb_pressC {Q : Nat} (hQ : Q ≤ 90) {a b : FN} : ∀ (r p : List pz_PT) (j n k : Nat) (c f : FN), EncC a b c 0 (p ++ r) → (∀ x ∈ p ++ r, x.2.2 < 1000) → (∀ x ∈ r, okP x) → p.length = j → j + r.length = Q → r.length < k → n ≤ 1000 →
    ∃ a' b' c', fX0_pressPosts_L5 (nI Q) a b k (nI (sumS (p ++ r))) c f (nI n) (nI j) = some (nI (fil (p ++ prA r n)).length, nI (sumS (p ++ prA r n)), a', b', c', prL r n f) ∧ EncC a' b' c' 0 (fil (p ++ prA r n))
  | [], p, j, n, k + 1, c, f, he, hs, _, hp, hj, _, hn => by
    have hj' : j = Q := hj
    unfold fX0_pressPosts_L5 fX2_dropEmptyOnes
    rw [hj', if_pos (by rw [pu_le (by omega) (by omega)]; omega)]
    have hl : p.length = Q := by omega
    rw [List.append_nil] at he hs
    obtain ⟨a', b', c', e1, e2⟩ := pb_drop hQ p [] 0 300 a b c (fun k x h => by simp at h) he hs (by simp) (by omega) (by omega)
    have e1' : fX2_dropEmptyOnes_L4 (nI Q) 300 a b c 0 0 = some (nI (fil p).length, a', b', c') := e1
    rw [e1', pu_bs]
    refine ⟨a', b', c', ?_, ?_⟩
    · show some _ = some (nI (fil (p ++ [])).length, nI (sumS (p ++ [])), _)
      rw [List.append_nil]
      rfl
    · show EncC a' b' c' 0 (fil (p ++ []))
      rw [List.append_nil]; exact e2
  | x :: r, p, j, n, k + 1, c, f, he, hs, hk, hp, hj, hkk, hn => by
    have hj' : j + (r.length + 1) = Q := hj
    have hk' : r.length + 1 < k + 1 := hkk
    have hx := hk x List.mem_cons_self
    have hxs := hs x (List.mem_append_right _ List.mem_cons_self)
    unfold fX0_pressPosts_L5
    have c1 : ¬ nI Q ≤ nI j := by rw [pu_le (by omega) (by omega)]; omega
    rw [if_neg c1, show (0 : Int32) = nI 0 from rfl, show (1 : Int32) = nI 1 from rfl]
    by_cases cn : n = 0
    · subst cn
      rw [if_pos (by decide)]
      have hl : (p ++ x :: r).length = Q := by simp; omega
      obtain ⟨a', b', c', e1, e2⟩ := pb_drop hQ (p ++ x :: r) [] 0 300 a b c (fun k x h => by simp at h) he hs (by simp) (by omega) (by omega)
      have e1' : fX2_dropEmptyOnes_L4 (nI Q) 300 a b c 0 0 = some (nI (fil (p ++ x :: r)).length, a', b', c') := e1
      unfold fX2_dropEmptyOnes
      rw [e1', pu_bs, prA_0, prL_0]
      exact ⟨a', b', c', rfl, e2⟩
    · have hg : (p ++ x :: r)[j]? = some x := by
        rw [List.getElem?_append_right (by omega), hp, Nat.sub_self]; rfl
      have h0 := he j x hg
      rw [Nat.zero_add] at h0
      have hsum : sumS (p ++ x :: r) = sumS p + (x.2.2 + sumS r) := sum_app p (x :: r)
      rw [if_neg (by rw [pu_le (by omega) (by omega)]; omega), pb_qs (by omega) hQ, pb_qm (by omega) hQ, pb_qg (by omega) hQ]
      simp only [pu_bs]
      rw [h0.1, h0.2.1, h0.2.2, pu_if (by omega) (by omega), pb_hang hx.1 hx.2.1, pu_bs, pb_takeOff (by omega) hQ h0.2.2 (Nat.min_le_left _ _) (by omega), pu_bs, pu_sub (Nat.min_le_right _ _), pu_add]
      have hE : EncC a b (upd c j (nI (x.2.2 - min x.2.2 n))) 0 (p ++ [(x.1, x.2.1, x.2.2 - min x.2.2 n)] ++ r) := by
        intro i y hy
        rw [Nat.zero_add]
        by_cases ci : i = j
        · subst ci
          have : y = (x.1, x.2.1, x.2.2 - min x.2.2 n) := by
            rw [show p ++ [(x.1, x.2.1, x.2.2 - min x.2.2 n)] ++ r = p ++ (x.1, x.2.1, x.2.2 - min x.2.2 n) :: r by simp, List.getElem?_append_right (by omega), hp, Nat.sub_self] at hy
            exact (Option.some.inj hy).symm
          subst this
          exact ⟨h0.1, h0.2.1, pu_up⟩
        · have : (p ++ x :: r)[i]? = some y := by
            rw [show p ++ [(x.1, x.2.1, x.2.2 - min x.2.2 n)] ++ r = p ++ (x.1, x.2.1, x.2.2 - min x.2.2 n) :: r by simp] at hy
            by_cases cl : i < p.length
            · rw [List.getElem?_append_left cl] at hy ⊢; exact hy
            · rw [List.getElem?_append_right (by omega)] at hy ⊢
              obtain ⟨q, hq⟩ : ∃ q, i - p.length = q + 1 := ⟨i - p.length - 1, by omega⟩
              rw [hq] at hy ⊢
              exact hy
          have := he i y this
          rw [Nat.zero_add] at this
          rw [pu_un ci]
          exact this
      obtain ⟨a', b', c', e1, e2⟩ := pb_pressC hQ r (p ++ [(x.1, x.2.1, x.2.2 - min x.2.2 n)]) (j + 1) (n - min x.2.2 n) k _ (upd f (3 * x.1 + x.2.1) (f (3 * x.1 + x.2.1) + nI (min x.2.2 n))) hE (by
        intro y hy
        rcases List.mem_append.mp hy with hy | hy
        · rcases List.mem_append.mp hy with hy | hy
          · exact hs y (List.mem_append_left _ hy)
          · rw [List.mem_singleton.mp hy]; show x.2.2 - min x.2.2 n < 1000; omega
        · exact hs y (List.mem_append_right _ (List.mem_cons_of_mem _ hy))) (fun y hy => hk y (List.mem_cons_of_mem _ hy)) (by simp; omega) (by omega) (by omega) (by omega)
      have hS : sumS (p ++ x :: r) - min x.2.2 n = sumS (p ++ [(x.1, x.2.1, x.2.2 - min x.2.2 n)] ++ r) := by
        rw [hsum, sum_app, sumS_snoc]
        show _ = sumS p + (x.2.2 - min x.2.2 n) + sumS r
        omega
      have hA : p ++ prA (x :: r) n = p ++ [(x.1, x.2.1, x.2.2 - min x.2.2 n)] ++ prA r (n - min x.2.2 n) := by
        show p ++ (x.1, x.2.1, x.2.2 - min x.2.2 n) :: prA r (n - min x.2.2 n) = _
        simp
      have hLf : prL (x :: r) n f = prL r (n - min x.2.2 n) (upd f (3 * x.1 + x.2.1) (f (3 * x.1 + x.2.1) + nI (min x.2.2 n))) := by
        show (if n = 0 then f else _) = _
        rw [if_neg cn]
      rw [hS, hA, hLf]
      exact ⟨a', b', c', e1, e2⟩
theorem prS_0 (l : List pz_PT) : prS l 0 = l := by
  cases l <;> simp [prS]
theorem pb_press0 {k : Nat} {f g h : FN} (hk : 0 < k) : fX6_press_L3 k f g h (nI 0) = some (f, g, h) := by
  obtain ⟨k, rfl⟩ : ∃ j, k = j + 1 := ⟨k - 1, by omega⟩
  unfold fX6_press_L3
  rw [if_pos (by decide)]
/-- the model's posts, pressed -/
theorem pb_pressM : ∀ (l : List pz_PT) (n k : Nat) (f g h : FN), EncM f 0 l → h 5 = nI l.length → l.length ≤ 90 → (∀ x ∈ l, okP x ∧ x.2.2 < 1000) → n ≤ 1000 → l.length + 1 < k →
    ∃ f' h', fX6_press_L3 k f g h (nI n) = some (f', prL l n g, h') ∧ EncM f' 0 (prS l n) ∧ h' 5 = nI (prS l n).length ∧ ∀ j, j ≠ 5 → h' j = h j
  | l, 0, k + 1, f, g, h, he, hh, _, _, _, _ => by
    unfold fX6_press_L3
    rw [if_pos (by decide), prL_0, prS_0]
    exact ⟨f, h, rfl, he, hh, fun _ _ => rfl⟩
  | [], n + 1, k + 1, f, g, h, he, hh, _, _, hn, _ => by
    have c1 : ¬ nI (n + 1) ≤ 0 := by rw [show (0 : Int32) = nI 0 from rfl, pu_le (by omega) (by omega)]; omega
    unfold fX6_press_L3
    rw [if_neg c1, pc5, hh, if_pos (by decide)]
    exact ⟨f, h, rfl, he, hh, fun _ _ => rfl⟩
  | x :: l, n + 1, k + 1, f, g, h, he, hh, hl, hk, hn, hf => by
    have hl' : l.length + 1 ≤ 90 := hl
    have hf' : l.length + 1 + 1 < k + 1 := hf
    obtain ⟨hx, hxs⟩ := hk x List.mem_cons_self
    have hx1 := hx.1
    have hx2 := hx.2.1
    have hx3 := hx.2.2
    have h0 := he 0 x rfl
    have hh' : h 5 = nI (l.length + 1) := hh
    have c1 : ¬ nI (n + 1) ≤ 0 := by rw [show (0 : Int32) = nI 0 from rfl, pu_le (by omega) (by omega)]; omega
    have c2 : ¬ nI (l.length + 1) ≤ 0 := by rw [show (0 : Int32) = nI 0 from rfl, pu_le (by omega) (by omega)]; omega
    have p2 : ∀ F : FN, fX6_ps F 0 2 = some (F 2) := fun F => pb_ps (v := 0) (w := 2) (by omega)
    have p1 : ∀ F : FN, fX6_ps F 0 1 = some (F 1) := fun F => pb_ps (v := 0) (w := 1) (by omega)
    have p0 : ∀ F : FN, fX6_ps F 0 0 = some (F 0) := fun F => pb_ps (v := 0) (w := 0) (by omega)
    have g0 : f 0 = nI x.1 := h0.1
    have g1 : f 1 = nI x.2.1 := h0.2.1
    have g2 : f 2 = nI x.2.2 := h0.2.2
    unfold fX6_press_L3
    rw [if_neg c1, pc5, hh', if_neg c2, p2, p0, p1]
    simp only [pu_bs]
    rw [p2, pc2, pu_up, pu_up]
    simp only [pu_bs]
    rw [g0, g1, g2, pu_if (by omega) (by omega), show (3 : Int32) = nI 3 from rfl, pu_mul, pu_add, pu_ck (by omega) (by omega), pu_ck (by omega) (by omega), pu_sub (Nat.min_le_left _ _), pu_sub (Nat.min_le_right _ _), pu_tn (by omega), show (1 : Int32) = nI 1 from rfl, pu_sub (by omega), Nat.add_sub_cancel, pu_mul, pu_tn (by omega), pu_tn (by omega), show (0 : Int32) = nI 0 from rfl, pu_tn (by omega)]
    have hL : prL (x :: l) (n + 1) g = prL l (n + 1 - min x.2.2 (n + 1)) (upd g (3 * x.1 + x.2.1) (g (3 * x.1 + x.2.1) + nI (min x.2.2 (n + 1)))) := by
      show (if n + 1 = 0 then g else _) = _
      rw [if_neg (by omega)]
    have hS : prS (x :: l) (n + 1) = if x.2.2 ≤ n + 1 then prS l (n + 1 - x.2.2) else (x.1, x.2.1, x.2.2 - (n + 1)) :: l := by
      show (if n + 1 = 0 then x :: l else _) = _
      rw [if_neg (by omega)]
    by_cases c : x.2.2 ≤ n + 1
    · have c3 : nI (x.2.2 - min x.2.2 (n + 1)) ≤ nI 0 := by rw [pu_le (by omega) (by omega)]; omega
      rw [if_pos c3]
      have cc : ¬ nI 3 < 0 ∧ ¬ nI 0 < 0 ∧ ¬ nI (3 * l.length) < 0 ∧ (nI 3).toNatClampNeg + (nI (3 * l.length)).toNatClampNeg ≤ 270 ∧ (nI 0).toNatClampNeg + (nI (3 * l.length)).toNatClampNeg ≤ 270 := by
        rw [pu_tn (by omega), pu_tn (by omega), pu_tn (by omega)]
        refine ⟨by decide, by decide, ?_, by omega, by omega⟩
        rw [show (0 : Int32) = nI 0 from rfl, pu_lt (by omega) (by omega)]; omega
      unfold ckC
      rw [if_pos cc]
      obtain ⟨f', h', e1, e2, e3, e4⟩ := pb_pressM l (n + 1 - min x.2.2 (n + 1)) k (va_cpy (upd f 2 (nI (x.2.2 - min x.2.2 (n + 1)))) (upd f 2 (nI (x.2.2 - min x.2.2 (n + 1)))) 3 0 (3 * l.length)) (upd g (3 * x.1 + x.2.1) (g (3 * x.1 + x.2.1) + nI (min x.2.2 (n + 1)))) (upd h 5 (nI l.length)) (by
          intro i y hy
          have hlt := (List.getElem?_eq_some_iff.mp hy).1
          have := he (i + 1) y hy
          rw [Nat.zero_add] at this ⊢
          unfold va_cpy
          rw [if_pos (by omega), if_pos (by omega), if_pos (by omega), pu_un (by omega), pu_un (by omega), pu_un (by omega), show 3 + (3 * i - 0) = 3 * (i + 1) by omega, show 3 + (3 * i + 1 - 0) = 3 * (i + 1) + 1 by omega, show 3 + (3 * i + 2 - 0) = 3 * (i + 1) + 2 by omega]
          exact this) pu_up (by omega) (fun y hy => hk y (List.mem_cons_of_mem _ hy)) (by omega) (by omega)
      rw [hL, hS, if_pos c]
      rw [Nat.min_eq_left c] at e1 e2 e3 ⊢
      exact ⟨f', h', e1, e2, e3, fun j hj => by rw [e4 j hj, pu_un hj]⟩
    · have c3 : ¬ nI (x.2.2 - min x.2.2 (n + 1)) ≤ nI 0 := by rw [pu_le (by omega) (by omega)]; omega
      rw [if_neg c3]
      have hm : n + 1 - min x.2.2 (n + 1) = 0 := by omega
      have e2 : EncM (upd f 2 (nI (x.2.2 - min x.2.2 (n + 1)))) 0 ((x.1, x.2.1, x.2.2 - min x.2.2 (n + 1)) :: l) := by
        intro i y hy
        cases i with
        | zero =>
          cases hy
          refine ⟨?_, ?_, pu_up⟩
          · show upd f 2 (nI (x.2.2 - min x.2.2 (n + 1))) 0 = nI x.1
            rw [pu_un (by decide)]; exact g0
          · show upd f 2 (nI (x.2.2 - min x.2.2 (n + 1))) 1 = nI x.2.1
            rw [pu_un (by decide)]; exact g1
        | succ i =>
          have := he (i + 1) y hy
          rw [Nat.zero_add] at this ⊢
          rw [pu_un (by omega), pu_un (by omega), pu_un (by omega)]
          exact this
      rw [hL, hS, if_neg c, hm, prL_0, pb_press0 (by omega)]
      rw [show x.2.2 - min x.2.2 (n + 1) = x.2.2 - (n + 1) by omega] at e2 ⊢
      exact ⟨_, h, rfl, e2, hh, fun _ _ => rfl⟩
termination_by l n k => k
