/-! what holds between calls: of the class alone, and of the law's rows beside it -/
def CI (D N T F : Nat) (l : List pz_PT) (m : MS) : Prop := (m.day = nI D) ∧ (m.felts = nI F) ∧ (F ≤ 90) ∧ (m.nM = nI N) ∧ (N ≤ 5) ∧ (m.nT = nI T) ∧ (T ≤ 3) ∧ (∀ v, v < 4 → ∃ n, n ≤ 40 ∧ m.pulp v = nI n) ∧ (∀ v, v < 4 → ∃ n, n ≤ 99 ∧ m.beat v = nI n) ∧ (∀ v, v < 4 → m.pulp v = nI 0 → m.beat v = nI 0 ∧ m.sort v = -nI 1) ∧ (∀ v, v < 4 → m.pulp v ≠ nI 0 → ∃ n, n < 3 ∧ m.sort v = nI n) ∧ (∀ p, p < N → ∃ n, n ≤ 9 ∧ m.mark p = nI n) ∧ (∀ p, p < N → ∃ n, 1 ≤ n ∧ n ≤ 3 ∧ m.size p = nI n) ∧ (∀ p, p < N → ∃ n, n ≤ 50 ∧ m.worn p = nI n) ∧ (∀ t, t < T → ∃ n, 1 ≤ n ∧ n ≤ 12 ∧ m.skill t = nI n) ∧ (∀ t, t < T → m.vat t = -nI 1 ∨ ∃ v, v < 4 ∧ m.vat t = nI v) ∧ (∀ t, t < T → m.pair t = -nI 1 ∨ ∃ p, p < N ∧ m.pair t = nI p) ∧ (∀ t u, t < T → u < T → m.pair t = m.pair u → m.pair t = -nI 1 ∨ t = u) ∧ (∀ j, j < 7 → ∃ q, q ≤ 9 ∧ m.water j = nI q) ∧ (m.nQ = nI l.length) ∧ (m.allS = nI (sumS l)) ∧ (sumS l ≤ F) ∧ (∀ x ∈ l, okP x) ∧ (EncC m.pmark m.pgrade m.psheets 0 l) ∧ (∀ j, j < 30 → ∃ n, n ≤ 24 * D ∧ m.loft j = nI n)
theorem CI.day {D N T F : Nat} {l : List pz_PT} {m : MS} (H : CI D N T F l m) : m.day = nI D := H.1
theorem CI.fel {D N T F : Nat} {l : List pz_PT} {m : MS} (H : CI D N T F l m) : m.felts = nI F := H.2.1
theorem CI.Fle {D N T F : Nat} {l : List pz_PT} {m : MS} (H : CI D N T F l m) : F ≤ 90 := H.2.2.1
theorem CI.nM {D N T F : Nat} {l : List pz_PT} {m : MS} (H : CI D N T F l m) : m.nM = nI N := H.2.2.2.1
theorem CI.Nle {D N T F : Nat} {l : List pz_PT} {m : MS} (H : CI D N T F l m) : N ≤ 5 := H.2.2.2.2.1
theorem CI.nT {D N T F : Nat} {l : List pz_PT} {m : MS} (H : CI D N T F l m) : m.nT = nI T := H.2.2.2.2.2.1
theorem CI.Tle {D N T F : Nat} {l : List pz_PT} {m : MS} (H : CI D N T F l m) : T ≤ 3 := H.2.2.2.2.2.2.1
theorem CI.pu {D N T F : Nat} {l : List pz_PT} {m : MS} (H : CI D N T F l m) : ∀ v, v < 4 → ∃ n, n ≤ 40 ∧ m.pulp v = nI n := H.2.2.2.2.2.2.2.1
theorem CI.be {D N T F : Nat} {l : List pz_PT} {m : MS} (H : CI D N T F l m) : ∀ v, v < 4 → ∃ n, n ≤ 99 ∧ m.beat v = nI n := H.2.2.2.2.2.2.2.2.1
theorem CI.em {D N T F : Nat} {l : List pz_PT} {m : MS} (H : CI D N T F l m) : ∀ v, v < 4 → m.pulp v = nI 0 → m.beat v = nI 0 ∧ m.sort v = -nI 1 := H.2.2.2.2.2.2.2.2.2.1
theorem CI.so {D N T F : Nat} {l : List pz_PT} {m : MS} (H : CI D N T F l m) : ∀ v, v < 4 → m.pulp v ≠ nI 0 → ∃ n, n < 3 ∧ m.sort v = nI n := H.2.2.2.2.2.2.2.2.2.2.1
theorem CI.mk {D N T F : Nat} {l : List pz_PT} {m : MS} (H : CI D N T F l m) : ∀ p, p < N → ∃ n, n ≤ 9 ∧ m.mark p = nI n := H.2.2.2.2.2.2.2.2.2.2.2.1
theorem CI.sz {D N T F : Nat} {l : List pz_PT} {m : MS} (H : CI D N T F l m) : ∀ p, p < N → ∃ n, 1 ≤ n ∧ n ≤ 3 ∧ m.size p = nI n := H.2.2.2.2.2.2.2.2.2.2.2.2.1
theorem CI.wn {D N T F : Nat} {l : List pz_PT} {m : MS} (H : CI D N T F l m) : ∀ p, p < N → ∃ n, n ≤ 50 ∧ m.worn p = nI n := H.2.2.2.2.2.2.2.2.2.2.2.2.2.1
theorem CI.sk {D N T F : Nat} {l : List pz_PT} {m : MS} (H : CI D N T F l m) : ∀ t, t < T → ∃ n, 1 ≤ n ∧ n ≤ 12 ∧ m.skill t = nI n := H.2.2.2.2.2.2.2.2.2.2.2.2.2.2.1
theorem CI.vt {D N T F : Nat} {l : List pz_PT} {m : MS} (H : CI D N T F l m) : ∀ t, t < T → m.vat t = -nI 1 ∨ ∃ v, v < 4 ∧ m.vat t = nI v := H.2.2.2.2.2.2.2.2.2.2.2.2.2.2.2.1
theorem CI.pr {D N T F : Nat} {l : List pz_PT} {m : MS} (H : CI D N T F l m) : ∀ t, t < T → m.pair t = -nI 1 ∨ ∃ p, p < N ∧ m.pair t = nI p := H.2.2.2.2.2.2.2.2.2.2.2.2.2.2.2.2.1
theorem CI.un {D N T F : Nat} {l : List pz_PT} {m : MS} (H : CI D N T F l m) : ∀ t u, t < T → u < T → m.pair t = m.pair u → m.pair t = -nI 1 ∨ t = u := H.2.2.2.2.2.2.2.2.2.2.2.2.2.2.2.2.2.1
theorem CI.wa {D N T F : Nat} {l : List pz_PT} {m : MS} (H : CI D N T F l m) : ∀ j, j < 7 → ∃ q, q ≤ 9 ∧ m.water j = nI q := H.2.2.2.2.2.2.2.2.2.2.2.2.2.2.2.2.2.2.1
theorem CI.nQ {D N T F : Nat} {l : List pz_PT} {m : MS} (H : CI D N T F l m) : m.nQ = nI l.length := H.2.2.2.2.2.2.2.2.2.2.2.2.2.2.2.2.2.2.2.1
theorem CI.al {D N T F : Nat} {l : List pz_PT} {m : MS} (H : CI D N T F l m) : m.allS = nI (sumS l) := H.2.2.2.2.2.2.2.2.2.2.2.2.2.2.2.2.2.2.2.2.1
theorem CI.sl {D N T F : Nat} {l : List pz_PT} {m : MS} (H : CI D N T F l m) : sumS l ≤ F := H.2.2.2.2.2.2.2.2.2.2.2.2.2.2.2.2.2.2.2.2.2.1
theorem CI.ok {D N T F : Nat} {l : List pz_PT} {m : MS} (H : CI D N T F l m) : ∀ x ∈ l, okP x := H.2.2.2.2.2.2.2.2.2.2.2.2.2.2.2.2.2.2.2.2.2.2.1
theorem CI.ec {D N T F : Nat} {l : List pz_PT} {m : MS} (H : CI D N T F l m) : EncC m.pmark m.pgrade m.psheets 0 l := H.2.2.2.2.2.2.2.2.2.2.2.2.2.2.2.2.2.2.2.2.2.2.2.1
theorem CI.lo {D N T F : Nat} {l : List pz_PT} {m : MS} (H : CI D N T F l m) : ∀ j, j < 30 → ∃ n, n ≤ 24 * D ∧ m.loft j = nI n := H.2.2.2.2.2.2.2.2.2.2.2.2.2.2.2.2.2.2.2.2.2.2.2.2
def zl_C (m : MS) : Nat → Nat → Nat → Int32 := fun k j c => match k with
  | 0 => (match c with
    | 0 => m.pulp j
    | 1 => m.beat j
    | _ => m.sort j)
  | 1 => (match c with
    | 0 => m.mark j
    | 1 => m.size j
    | _ => m.worn j)
  | 2 => (match c with
    | 0 => m.skill j
    | 1 => m.vat j
    | _ => m.pair j)
  | 3 => (match c with
    | 0 => m.pmark j
    | 1 => m.pgrade j
    | _ => m.psheets j)
  | 4 => m.loft (3 * j + c)
  | 5 => m.rags c
  | _ => m.water c
def zl_z (N T Q : Nat) : Nat → Nat := fun k => match k with
  | 0 => 4
  | 1 => N
  | 2 => T
  | 3 => Q
  | 4 => 10
  | _ => 1
theorem CI.len {D N T F : Nat} {l : List pz_PT} {m : MS} (H : CI D N T F l m) : l.length ≤ F := Nat.le_trans (len_sum l H.ok) H.sl
/-- a team: without a vat, without a pair, or with both -/
theorem CI.team {D N T F : Nat} {l : List pz_PT} {m : MS} (H : CI D N T F l m) {t : Nat} (ht : t < T) : m.vat t = -nI 1 ∨ m.pair t = -nI 1 ∨ ∃ v p n b s w sk mk, v < 4 ∧ p < N ∧ m.vat t = nI v ∧ m.pair t = nI p ∧ m.pulp v = nI n ∧ n ≤ 40 ∧ m.beat v = nI b ∧ b ≤ 99 ∧ m.size p = nI s ∧ 1 ≤ s ∧ s ≤ 3 ∧ m.worn p = nI w ∧ w ≤ 50 ∧ m.skill t = nI sk ∧ 1 ≤ sk ∧ sk ≤ 12 ∧ m.mark p = nI mk ∧ mk ≤ 9 := by
  rcases H.vt t ht with h | ⟨v, hv, ev⟩
  · exact Or.inl h
  · rcases H.pr t ht with h | ⟨p, hp, ep⟩
    · exact Or.inr (Or.inl h)
    · obtain ⟨n, hn, en⟩ := H.pu v hv
      obtain ⟨b, hb, eb⟩ := H.be v hv
      obtain ⟨s, hs1, hs3, es⟩ := H.sz p hp
      obtain ⟨w, hw, ew⟩ := H.wn p hp
      obtain ⟨sk, hk1, hk2, ek⟩ := H.sk t ht
      obtain ⟨mk, hm, emk⟩ := H.mk p hp
      exact Or.inr (Or.inr ⟨v, p, n, b, s, w, sk, mk, hv, hp, ev, ep, en, hn, eb, hb, es, hs1, hs3, ew, hw, ek, hk1, hk2, emk, hm⟩)
theorem pu_min {a b : Nat} (ha : a < 2147483648) (hb : b < 2147483648) : (if nI a < nI b then nI a else nI b) = nI (min a b) := pu_if ha hb
theorem pu_ne1 {a : Nat} (ha : a < 2147483648) : ¬ nI a = -nI 1 := fun h => (pu_em ha).mp h
theorem pu_m1e : (-1 : Int32) = -nI 1 := by decide
/-- how many sheets a team would make, by the class -/
theorem CI.idleV {D N T F : Nat} {l : List pz_PT} {m : MS} (H : CI D N T F l m) {t : Nat} (ht : t < T) (h : m.vat t = -nI 1 ∨ m.pair t = -nI 1) : fX0_sheetsOf m.felts m.pulp m.beat m.nM m.size m.nT m.skill m.vat m.pair m.allS (nI t) = some (nI 0) := by
  unfold fX0_sheetsOf
  rw [H.nT, pb_vatOf ht H.Tle, pu_bs, pb_pairOf ht H.Tle, pu_bs, pu_m1e]
  by_cases c : m.vat t = -nI 1
  · rw [if_pos c]; rfl
  · rw [if_neg c, if_pos (h.resolve_left c)]; rfl
theorem CI.sheets {D N T F : Nat} {l : List pz_PT} {m : MS} (H : CI D N T F l m) {t v p n b s sk : Nat} (ht : t < T) (hv : v < 4) (hp : p < N) (ev : m.vat t = nI v) (ep : m.pair t = nI p) (en : m.pulp v = nI n) (hn : n ≤ 40) (eb : m.beat v = nI b) (hb : b ≤ 99) (es : m.size p = nI s) (hs1 : 1 ≤ s) (hs3 : s ≤ 3) (ek : m.skill t = nI sk) (hk : sk ≤ 12) : fX0_sheetsOf m.felts m.pulp m.beat m.nM m.size m.nT m.skill m.vat m.pair m.allS (nI t) = some (nI (if b < 30 then 0 else min (n / s) (min (F - sumS l) sk))) := by
  have h1 := H.Fle
  have h2 := H.sl
  have h3 := H.Nle
  have h4 := H.Tle
  have hq : n / s ≤ n := Nat.div_le_self _ _
  unfold fX0_sheetsOf fX0_freeFelts
  rw [H.nT, pb_vatOf ht H.Tle, pu_bs, pb_pairOf ht H.Tle, pu_bs, pu_m1e, ev, ep, if_neg (pu_ne1 (by omega)), if_neg (pu_ne1 (by omega)), pb_beatOf hv, pu_bs, eb, show (30 : Int32) = nI 30 from rfl]
  by_cases c : b < 30
  · rw [if_neg (by rw [pu_le (by omega) (by omega)]; omega), if_pos c]; rfl
  · rw [if_pos (by rw [pu_le (by omega) (by omega)]; omega), if_neg c, H.nM, pb_sizeOf hp H.Nle, pu_bs, es, show (1 : Int32) = nI 1 from rfl, if_pos (by rw [pu_le (by omega) (by omega)]; omega), pb_skillOf ht H.Tle, pu_bs, ek, H.fel, H.al, pu_sub H.sl, pu_bs, pb_pulpOf hv, pu_bs, en, pu_ckz (by omega) (by omega), pu_div (by omega) (by omega), pu_min (by omega) (by omega), pu_min (by omega) (by omega)]
def SR (m : MS) (N T Q : Nat) (G : FN) (F : Nat → Nat) (p : zs_H) (R : Nat → Nat → Nat) (K : Nat → Option zs_E) : Prop := (G 0 = m.day) ∧ (G 1 = m.coins) ∧ (G 2 = m.felts) ∧ (G 3 = m.made) ∧ (G 4 = m.worth) ∧ (zr p F (zl_z N T Q) R (zl_C m) K)
theorem SR.g0 {m : MS} {N T Q : Nat} {G : FN} {F : Nat → Nat} {p : zs_H} {R : Nat → Nat → Nat} {K : Nat → Option zs_E} (H : SR m N T Q G F p R K) : G 0 = m.day := H.1
theorem SR.g1 {m : MS} {N T Q : Nat} {G : FN} {F : Nat → Nat} {p : zs_H} {R : Nat → Nat → Nat} {K : Nat → Option zs_E} (H : SR m N T Q G F p R K) : G 1 = m.coins := H.2.1
theorem SR.g2 {m : MS} {N T Q : Nat} {G : FN} {F : Nat → Nat} {p : zs_H} {R : Nat → Nat → Nat} {K : Nat → Option zs_E} (H : SR m N T Q G F p R K) : G 2 = m.felts := H.2.2.1
theorem SR.g3 {m : MS} {N T Q : Nat} {G : FN} {F : Nat → Nat} {p : zs_H} {R : Nat → Nat → Nat} {K : Nat → Option zs_E} (H : SR m N T Q G F p R K) : G 3 = m.made := H.2.2.2.1
theorem SR.g4 {m : MS} {N T Q : Nat} {G : FN} {F : Nat → Nat} {p : zs_H} {R : Nat → Nat → Nat} {K : Nat → Option zs_E} (H : SR m N T Q G F p R K) : G 4 = m.worth := H.2.2.2.2.1
theorem SR.r {m : MS} {N T Q : Nat} {G : FN} {F : Nat → Nat} {p : zs_H} {R : Nat → Nat → Nat} {K : Nat → Option zs_E} (H : SR m N T Q G F p R K) : zr p F (zl_z N T Q) R (zl_C m) K := H.2.2.2.2.2
/-- the felts that are free, by the law's object -/
theorem zl_freeL {m : MS} {N T Q : Nat} {F : Nat → Nat} {p : zs_H} {R : Nat → Nat → Nat} {K : Nat → Option zs_E} (H : zr p F (zl_z N T Q) R (zl_C m) K) (hQ : Q ≤ 90) : ∀ (l : List pz_PT) (o a k : Nat), EncC m.pmark m.pgrade m.psheets o l → o + l.length = Q → l.length < k → sumS l ≤ a → fLX6_free_16 p (F 10) (nI Q) k (nI a) (nI o) = some (nI (a - sumS l))
  | [], o, a, k + 1, _, ho, _, _ => by
    have ho' : o = Q := ho
    rw [fLX6_free_16, if_pos (by rw [pu_le (by omega) (by omega)]; omega)]
    rfl
  | x :: l, o, a, k + 1, h, ho, hk, hs => by
    have ho' : o + (l.length + 1) = Q := ho
    have hk' : l.length + 1 < k + 1 := hk
    have hs' : x.2.2 + sumS l ≤ a := hs
    have h0 : m.psheets o = nI x.2.2 := (h 0 x rfl).2.2
    have e1 : zs_ldr p (F 10) (nI o) = some (R 3 o) := zr_ldr H (k := 3) (by omega) (show o < Q by omega) (show Q < 2147483648 by omega)
    have e2 : zs_ld p (R 3 o) 2 = some (m.psheets o) := zr_ld H (k := 3) (c := 2) (by omega) (show o < Q by omega) (by decide)
    rw [fLX6_free_16, if_neg (by rw [pu_le (by omega) (by omega)]; omega), e1, pu_bs, e2, pu_bs, h0, pu_sub (by omega), show (1 : Int32) = nI 1 from rfl, pu_add, zl_freeL H hQ l (o + 1) (a - x.2.2) k h.tail (by omega) (by omega) (by omega)]
    show some (nI (a - x.2.2 - sumS l)) = some (nI (a - (x.2.2 + sumS l)))
    rw [Nat.sub_sub]
theorem SR.free {D N T F0 : Nat} {l : List pz_PT} {m : MS} {G : FN} {F : Nat → Nat} {p : zs_H} {R : Nat → Nat → Nat} {K : Nat → Option zs_E} (C : CI D N T F0 l m) (H : SR m N T l.length G F p R K) : fX6_free G F p = some (nI (F0 - sumS l)) := by
  have h1 := C.Fle
  have h2 := C.len
  have e1 : zs_len p (F 10) = some (nI l.length) := zr_len H.r (k := 3) (by omega)
  unfold fX6_free
  rw [e1, pu_bs, H.g2, C.fel, show (0 : Int32) = nI 0 from rfl, zl_freeL H.r (by omega) l 0 F0 300 C.ec (by omega) (by omega) C.sl, pu_bs]
theorem SR.idle {D N T F0 : Nat} {l : List pz_PT} {m : MS} {G : FN} {F : Nat → Nat} {p : zs_H} {R : Nat → Nat → Nat} {K : Nat → Option zs_E} (C : CI D N T F0 l m) (H : SR m N T l.length G F p R K) {t : Nat} (ht : t < T) (h : m.vat t = -nI 1 ∨ m.pair t = -nI 1) : fX6_makes G F p (R 2 t) = some (nI 0) := by
  have e1 : zs_ld p (R 2 t) 1 = some (m.vat t) := zr_ld H.r (k := 2) (c := 1) (by omega) ht (by decide)
  have e2 : zs_ld p (R 2 t) 2 = some (m.pair t) := zr_ld H.r (k := 2) (c := 2) (by omega) ht (by decide)
  have hm : -nI 1 < nI 0 := by decide
  unfold fX6_makes
  rw [e1, pu_bs, show (0 : Int32) = nI 0 from rfl]
  rcases h with h | h
  · rw [h, if_pos hm]
  · by_cases c : m.vat t < nI 0
    · rw [if_pos c]
    · rw [if_neg c, e2, pu_bs, h, if_pos hm]
theorem SR.makes {D N T F0 : Nat} {l : List pz_PT} {m : MS} {G : FN} {F : Nat → Nat} {p : zs_H} {R : Nat → Nat → Nat} {K : Nat → Option zs_E} (C : CI D N T F0 l m) (H : SR m N T l.length G F p R K) {t v q n b s sk : Nat} (ht : t < T) (hv : v < 4) (hp : q < N) (ev : m.vat t = nI v) (ep : m.pair t = nI q) (en : m.pulp v = nI n) (hn : n ≤ 40) (eb : m.beat v = nI b) (hb : b ≤ 99) (es : m.size q = nI s) (hs1 : 1 ≤ s) (hs3 : s ≤ 3) (ek : m.skill t = nI sk) (hk : sk ≤ 12) : fX6_makes G F p (R 2 t) = some (nI (if b < 30 then 0 else min (n / s) (min (F0 - sumS l) sk))) := by
  have h1 := C.Fle
  have h2 := C.sl
  have h3 := C.Nle
  have h4 := C.Tle
  have hq : n / s ≤ n := Nat.div_le_self _ _
  have e1 : zs_ld p (R 2 t) 1 = some (m.vat t) := zr_ld H.r (k := 2) (c := 1) (by omega) ht (by decide)
  have e2 : zs_ld p (R 2 t) 2 = some (m.pair t) := zr_ld H.r (k := 2) (c := 2) (by omega) ht (by decide)
  have e0 : zs_ld p (R 2 t) 0 = some (m.skill t) := zr_ld H.r (k := 2) (c := 0) (by omega) ht (by decide)
  have e3 : zs_ldr p (F 7) (nI v) = some (R 0 v) := zr_ldr H.r (k := 0) (by omega) hv (show (4 : Nat) < 2147483648 by decide)
  have e4 : zs_ld p (R 0 v) 1 = some (m.beat v) := zr_ld H.r (k := 0) (c := 1) (by omega) hv (by decide)
  have e5 : zs_ld p (R 0 v) 0 = some (m.pulp v) := zr_ld H.r (k := 0) (c := 0) (by omega) hv (by decide)
  have e6 : zs_ldr p (F 8) (nI q) = some (R 1 q) := zr_ldr H.r (k := 1) (by omega) hp (show N < 2147483648 by omega)
  have e7 : zs_ld p (R 1 q) 1 = some (m.size q) := zr_ld H.r (k := 1) (c := 1) (by omega) hp (by decide)
  unfold fX6_makes
  rw [e1, pu_bs, show (0 : Int32) = nI 0 from rfl, ev, if_neg (by rw [pu_lt (by omega) (by omega)]; omega), e2, pu_bs, ep, if_neg (by rw [pu_lt (by omega) (by omega)]; omega), pu_bs, e3, pu_bs, e4, pu_bs, eb, show (30 : Int32) = nI 30 from rfl]
  by_cases c : b < 30
  · rw [if_neg (by rw [pu_le (by omega) (by omega)]; omega), if_pos c]
  · rw [if_pos (by rw [pu_le (by omega) (by omega)]; omega), if_neg c, pu_bs, e3, pu_bs, show nI 0 = (0 : Int32) from rfl, e5, pu_bs, pu_bs, e6, pu_bs, e7, pu_bs, en, es, pu_ckz (by omega) (by omega), H.free C, pu_bs, pu_bs, pu_div (by omega) (by omega)]
    by_cases c1 : n / s ≤ F0 - sumS l
    · rw [if_pos (by rw [pu_le (by omega) (by omega)]; exact c1), pu_bs, e0, pu_bs, ek]
      by_cases c2 : n / s ≤ sk
      · rw [if_pos (by rw [pu_le (by omega) (by omega)]; exact c2), show min (n / s) (min (F0 - sumS l) sk) = n / s by omega]
      · rw [if_neg (by rw [pu_le (by omega) (by omega)]; exact c2), pu_bs, show min (n / s) (min (F0 - sumS l) sk) = sk by omega]
    · rw [if_neg (by rw [pu_le (by omega) (by omega)]; exact c1), pu_bs, e0, pu_bs, ek]
      by_cases c2 : F0 - sumS l ≤ sk
      · rw [if_pos (by rw [pu_le (by omega) (by omega)]; exact c2), show min (n / s) (min (F0 - sumS l) sk) = F0 - sumS l by omega]
      · rw [if_neg (by rw [pu_le (by omega) (by omega)]; exact c2), pu_bs, show min (n / s) (min (F0 - sumS l) sk) = sk by omega]
