/-! a team's work: by the class, by the law's object, by the law's own count -/
def zl_TM (N T : Nat) (m : MS) (t v q n b s w sk mk : Nat) : Prop := (t < T) ∧ (v < 4) ∧ (q < N) ∧ (m.vat t = nI v) ∧ (m.pair t = nI q) ∧ (m.pulp v = nI n) ∧ (n ≤ 40) ∧ (m.beat v = nI b) ∧ (b ≤ 99) ∧ (m.size q = nI s) ∧ (1 ≤ s) ∧ (s ≤ 3) ∧ (m.worn q = nI w) ∧ (w ≤ 50) ∧ (m.skill t = nI sk) ∧ (1 ≤ sk) ∧ (sk ≤ 12) ∧ (m.mark q = nI mk) ∧ (mk ≤ 9)
theorem zl_TM.ht {N T : Nat} {m : MS} {t v q n b s w sk mk : Nat} (H : zl_TM N T m t v q n b s w sk mk) : t < T := H.1
theorem zl_TM.hv {N T : Nat} {m : MS} {t v q n b s w sk mk : Nat} (H : zl_TM N T m t v q n b s w sk mk) : v < 4 := H.2.1
theorem zl_TM.hq {N T : Nat} {m : MS} {t v q n b s w sk mk : Nat} (H : zl_TM N T m t v q n b s w sk mk) : q < N := H.2.2.1
theorem zl_TM.ev {N T : Nat} {m : MS} {t v q n b s w sk mk : Nat} (H : zl_TM N T m t v q n b s w sk mk) : m.vat t = nI v := H.2.2.2.1
theorem zl_TM.ep {N T : Nat} {m : MS} {t v q n b s w sk mk : Nat} (H : zl_TM N T m t v q n b s w sk mk) : m.pair t = nI q := H.2.2.2.2.1
theorem zl_TM.en {N T : Nat} {m : MS} {t v q n b s w sk mk : Nat} (H : zl_TM N T m t v q n b s w sk mk) : m.pulp v = nI n := H.2.2.2.2.2.1
theorem zl_TM.hn {N T : Nat} {m : MS} {t v q n b s w sk mk : Nat} (H : zl_TM N T m t v q n b s w sk mk) : n ≤ 40 := H.2.2.2.2.2.2.1
theorem zl_TM.eb {N T : Nat} {m : MS} {t v q n b s w sk mk : Nat} (H : zl_TM N T m t v q n b s w sk mk) : m.beat v = nI b := H.2.2.2.2.2.2.2.1
theorem zl_TM.hb {N T : Nat} {m : MS} {t v q n b s w sk mk : Nat} (H : zl_TM N T m t v q n b s w sk mk) : b ≤ 99 := H.2.2.2.2.2.2.2.2.1
theorem zl_TM.es {N T : Nat} {m : MS} {t v q n b s w sk mk : Nat} (H : zl_TM N T m t v q n b s w sk mk) : m.size q = nI s := H.2.2.2.2.2.2.2.2.2.1
theorem zl_TM.s1 {N T : Nat} {m : MS} {t v q n b s w sk mk : Nat} (H : zl_TM N T m t v q n b s w sk mk) : 1 ≤ s := H.2.2.2.2.2.2.2.2.2.2.1
theorem zl_TM.s3 {N T : Nat} {m : MS} {t v q n b s w sk mk : Nat} (H : zl_TM N T m t v q n b s w sk mk) : s ≤ 3 := H.2.2.2.2.2.2.2.2.2.2.2.1
theorem zl_TM.ew {N T : Nat} {m : MS} {t v q n b s w sk mk : Nat} (H : zl_TM N T m t v q n b s w sk mk) : m.worn q = nI w := H.2.2.2.2.2.2.2.2.2.2.2.2.1
theorem zl_TM.hw {N T : Nat} {m : MS} {t v q n b s w sk mk : Nat} (H : zl_TM N T m t v q n b s w sk mk) : w ≤ 50 := H.2.2.2.2.2.2.2.2.2.2.2.2.2.1
theorem zl_TM.ek {N T : Nat} {m : MS} {t v q n b s w sk mk : Nat} (H : zl_TM N T m t v q n b s w sk mk) : m.skill t = nI sk := H.2.2.2.2.2.2.2.2.2.2.2.2.2.2.1
theorem zl_TM.k1 {N T : Nat} {m : MS} {t v q n b s w sk mk : Nat} (H : zl_TM N T m t v q n b s w sk mk) : 1 ≤ sk := H.2.2.2.2.2.2.2.2.2.2.2.2.2.2.2.1
theorem zl_TM.k12 {N T : Nat} {m : MS} {t v q n b s w sk mk : Nat} (H : zl_TM N T m t v q n b s w sk mk) : sk ≤ 12 := H.2.2.2.2.2.2.2.2.2.2.2.2.2.2.2.2.1
theorem zl_TM.em {N T : Nat} {m : MS} {t v q n b s w sk mk : Nat} (H : zl_TM N T m t v q n b s w sk mk) : m.mark q = nI mk := H.2.2.2.2.2.2.2.2.2.2.2.2.2.2.2.2.2.1
theorem zl_TM.hm {N T : Nat} {m : MS} {t v q n b s w sk mk : Nat} (H : zl_TM N T m t v q n b s w sk mk) : mk ≤ 9 := H.2.2.2.2.2.2.2.2.2.2.2.2.2.2.2.2.2.2
theorem CI.teamT {D N T F : Nat} {l : List pz_PT} {m : MS} (H : CI D N T F l m) {t : Nat} (ht : t < T) : (m.vat t = -nI 1 ∨ m.pair t = -nI 1) ∨ ∃ v q n b s w sk mk, zl_TM N T m t v q n b s w sk mk := by
  rcases H.vt t ht with h | ⟨v, hv, ev⟩
  · exact Or.inl (Or.inl h)
  · rcases H.pr t ht with h | ⟨p, hp, ep⟩
    · exact Or.inl (Or.inr h)
    · obtain ⟨n, hn, en⟩ := H.pu v hv
      obtain ⟨b, hb, eb⟩ := H.be v hv
      obtain ⟨s, hs1, hs3, es⟩ := H.sz p hp
      obtain ⟨w, hw, ew⟩ := H.wn p hp
      obtain ⟨sk, hk1, hk2, ek⟩ := H.sk t ht
      obtain ⟨mk, hm, emk⟩ := H.mk p hp
      exact Or.inr ⟨v, p, n, b, s, w, sk, mk, ht, hv, hp, ev, ep, en, hn, eb, hb, es, hs1, hs3, ew, hw, ek, hk1, hk2, emk, hm⟩
def zl_g (m : MS) (v q : Nat) : Nat := grdF (m.beat v / 10 + ptsF (m.sort v) - m.worn q / 10)
def zl_mk (m : MS) (v q z n s w Q S : Nat) : MS := (MS.of m.day m.coins m.felts m.made (m.worth + nI (z * wtF (zl_g m v q))) m.rags m.water (upd m.pulp v (nI (n - z * s))) (if n = z * s then upd m.beat v (nI 0) else m.beat) (if n = z * s then upd m.sort v (-nI 1) else m.sort) m.nM m.mark m.size (upd m.worn q (nI (min (w + (z + 1) / 2) 50))) m.nT m.skill m.vat m.pair (nI (Q + 1)) (nI (S + z)) (upd m.pmark Q (m.mark q)) (upd m.pgrade Q (nI (zl_g m v q))) (upd m.psheets Q (nI z)) m.loft)
theorem zl_num {b n s f sk z : Nat} (hz : z = if b < 30 then 0 else min (n / s) (min f sk)) (h0 : z ≠ 0) : 30 ≤ b ∧ z * s ≤ n ∧ z ≤ f ∧ z ≤ sk := by
  by_cases c : b < 30
  · rw [if_pos c] at hz; exact absurd hz h0
  · rw [if_neg c] at hz
    have h1 : z ≤ n / s := by omega
    exact ⟨by omega, Nat.le_trans (Nat.mul_le_mul_right s h1) (Nat.div_mul_le_self n s), by omega, by omega⟩
/-- what stays the same while the teams work -/
def zl_K (m m2 : MS) : Prop := (m2.day = m.day) ∧ (m2.coins = m.coins) ∧ (m2.felts = m.felts) ∧ (m2.made = m.made) ∧ (m2.rags = m.rags) ∧ (m2.water = m.water) ∧ (m2.nM = m.nM) ∧ (m2.mark = m.mark) ∧ (m2.size = m.size) ∧ (m2.nT = m.nT) ∧ (m2.skill = m.skill) ∧ (m2.vat = m.vat) ∧ (m2.pair = m.pair) ∧ (m2.loft = m.loft) ∧ (∀ v, v < 4 → m2.pulp v ≠ nI 0 → m.pulp v ≠ nI 0 ∧ m2.beat v = m.beat v ∧ m2.sort v = m.sort v)
theorem zl_K.day {m m2 : MS} (H : zl_K m m2) : m2.day = m.day := H.1
theorem zl_K.coins {m m2 : MS} (H : zl_K m m2) : m2.coins = m.coins := H.2.1
theorem zl_K.felts {m m2 : MS} (H : zl_K m m2) : m2.felts = m.felts := H.2.2.1
theorem zl_K.made {m m2 : MS} (H : zl_K m m2) : m2.made = m.made := H.2.2.2.1
theorem zl_K.rags {m m2 : MS} (H : zl_K m m2) : m2.rags = m.rags := H.2.2.2.2.1
theorem zl_K.water {m m2 : MS} (H : zl_K m m2) : m2.water = m.water := H.2.2.2.2.2.1
theorem zl_K.nM {m m2 : MS} (H : zl_K m m2) : m2.nM = m.nM := H.2.2.2.2.2.2.1
theorem zl_K.mark {m m2 : MS} (H : zl_K m m2) : m2.mark = m.mark := H.2.2.2.2.2.2.2.1
theorem zl_K.size {m m2 : MS} (H : zl_K m m2) : m2.size = m.size := H.2.2.2.2.2.2.2.2.1
theorem zl_K.nT {m m2 : MS} (H : zl_K m m2) : m2.nT = m.nT := H.2.2.2.2.2.2.2.2.2.1
theorem zl_K.skill {m m2 : MS} (H : zl_K m m2) : m2.skill = m.skill := H.2.2.2.2.2.2.2.2.2.2.1
theorem zl_K.vat {m m2 : MS} (H : zl_K m m2) : m2.vat = m.vat := H.2.2.2.2.2.2.2.2.2.2.2.1
theorem zl_K.pair {m m2 : MS} (H : zl_K m m2) : m2.pair = m.pair := H.2.2.2.2.2.2.2.2.2.2.2.2.1
theorem zl_K.loft {m m2 : MS} (H : zl_K m m2) : m2.loft = m.loft := H.2.2.2.2.2.2.2.2.2.2.2.2.2.1
theorem zl_K.keep {m m2 : MS} (H : zl_K m m2) : ∀ v, v < 4 → m2.pulp v ≠ nI 0 → m.pulp v ≠ nI 0 ∧ m2.beat v = m.beat v ∧ m2.sort v = m.sort v := H.2.2.2.2.2.2.2.2.2.2.2.2.2.2
theorem zl_K.refl (m : MS) : zl_K m m := ⟨rfl, rfl, rfl, rfl, rfl, rfl, rfl, rfl, rfl, rfl, rfl, rfl, rfl, rfl, fun _ _ h => ⟨h, rfl, rfl⟩⟩
theorem zl_K.trans {a b c : MS} (h : zl_K a b) (g : zl_K b c) : zl_K a c := ⟨g.day.trans h.day, g.coins.trans h.coins, g.felts.trans h.felts, g.made.trans h.made, g.rags.trans h.rags, g.water.trans h.water, g.nM.trans h.nM, g.mark.trans h.mark, g.size.trans h.size, g.nT.trans h.nT, g.skill.trans h.skill, g.vat.trans h.vat, g.pair.trans h.pair, g.loft.trans h.loft, fun v hv hp => by
  obtain ⟨a1, a2, a3⟩ := g.keep v hv hp
  obtain ⟨b1, b2, b3⟩ := h.keep v hv a1
  exact ⟨b1, a2.trans b2, a3.trans b3⟩⟩
theorem zl_mkK {m : MS} {v q z n s w Q S : Nat} (hn : n ≤ 40) (en : m.pulp v = nI n) (h0 : z * s ≠ 0) : zl_K m (zl_mk m v q z n s w Q S) := ⟨rfl, rfl, rfl, rfl, rfl, rfl, rfl, rfl, rfl, rfl, rfl, rfl, rfl, rfl, fun u hu hp => by
  have hp' : upd m.pulp v (nI (n - z * s)) u ≠ nI 0 := hp
  show m.pulp u ≠ nI 0 ∧ (if n = z * s then upd m.beat v (nI 0) else m.beat) u = m.beat u ∧ (if n = z * s then upd m.sort v (-nI 1) else m.sort) u = m.sort u
  by_cases c : u = v
  · subst c
    rw [pu_up] at hp'
    have h1 : n ≠ z * s := fun e => hp' (by rw [← e, Nat.sub_self])
    rw [if_neg h1, if_neg h1, en]
    refine ⟨fun e => ?_, rfl, rfl⟩
    have := (pu_eq (by omega) (by omega)).mp e
    subst this
    exact hp' (by rw [Nat.zero_sub])
  · rw [pu_un c] at hp'
    refine ⟨hp', ?_, ?_⟩
    · split
      · exact pu_un c
      · rfl
    · split
      · exact pu_un c
      · rfl⟩
theorem CI.idleM {D N T F : Nat} {l : List pz_PT} {m : MS} (C : CI D N T F l m) {t : Nat} (h : fX0_sheetsOf m.felts m.pulp m.beat m.nM m.size m.nT m.skill m.vat m.pair m.allS (nI t) = some (nI 0)) (a : Int32) : fX0_makeSheets m.felts a m.worth m.pulp m.beat m.sort m.nM m.mark m.size m.worn m.nT m.skill m.vat m.pair m.nQ m.allS m.pmark m.pgrade m.psheets (nI t) = some (a, m.worth, m.pulp, m.beat, m.sort, m.worn, m.nQ, m.allS, m.pmark, m.pgrade, m.psheets) := by
  unfold fX0_makeSheets
  rw [h, pu_bs, if_neg (by decide)]
theorem CI.mkM {D N T F : Nat} {l : List pz_PT} {m : MS} (C : CI D N T F l m) {t v q n b s w sk mk z : Nat} (M : zl_TM N T m t v q n b s w sk mk) (hz : z = if b < 30 then 0 else min (n / s) (min (F - sumS l) sk)) (h0 : z ≠ 0) (a : Int32) : fX0_makeSheets m.felts a m.worth m.pulp m.beat m.sort m.nM m.mark m.size m.worn m.nT m.skill m.vat m.pair m.nQ m.allS m.pmark m.pgrade m.psheets (nI t) = some (a + nI z, (zl_mk m v q z n s w l.length (sumS l)).worth, (zl_mk m v q z n s w l.length (sumS l)).pulp, (zl_mk m v q z n s w l.length (sumS l)).beat, (zl_mk m v q z n s w l.length (sumS l)).sort, (zl_mk m v q z n s w l.length (sumS l)).worn, (zl_mk m v q z n s w l.length (sumS l)).nQ, (zl_mk m v q z n s w l.length (sumS l)).allS, (zl_mk m v q z n s w l.length (sumS l)).pmark, (zl_mk m v q z n s w l.length (sumS l)).pgrade, (zl_mk m v q z n s w l.length (sumS l)).psheets) := by
  obtain ⟨h30, hzs, hzf, hzk⟩ := zl_num hz h0
  have h12 := M.k12
  have hn := M.hn
  have hF := C.Fle
  have hS := C.sl
  have hQ : l.length < 90 := by have := len_sum l C.ok; omega
  unfold fX0_makeSheets fX0_gradeOf
  rw [C.sheets M.ht M.hv M.hq M.ev M.ep M.en M.hn M.eb M.hb M.es M.s1 M.s3 M.ek M.k12, ← hz, pu_bs, if_pos (by rw [show (1 : Int32) = nI 1 from rfl, pu_le (by omega) (by omega)]; omega), C.nT, pb_vatOf M.ht C.Tle, pu_bs, pb_pairOf M.ht C.Tle, pu_bs, M.ev, M.ep, pb_beatOf M.hv, pu_bs, pb_sortOf M.hv, pu_bs, pb_points, pu_bs, C.nM, pb_wornOf M.hq C.Nle, pu_bs, grdF_some, pu_bs, pb_markOf M.hq C.Nle, pu_bs, C.nQ, C.al, pb_add hQ, pu_bs, (pb_worth (grdF_le _)).1, pu_bs, pb_sizeOf M.hq C.Nle, pu_bs, M.es, pu_mul, pb_takeOut M.hv M.en (by omega) hzs, pu_bs, pb_wear M.hq C.Nle M.ew M.hw (by omega), pu_bs, pu_mul]
  unfold zl_mk zl_g
  by_cases c : n = z * s
  · rw [if_pos c, if_pos c, if_pos c, show n - z * s = 0 by omega]
    rfl
  · rw [if_neg c, if_neg c, if_neg c]
theorem CI.mkI {D N T F : Nat} {l : List pz_PT} {m : MS} (C : CI D N T F l m) {t v q n b s w sk mk z : Nat} (M : zl_TM N T m t v q n b s w sk mk) (hz : z = if b < 30 then 0 else min (n / s) (min (F - sumS l) sk)) (h0 : z ≠ 0) : CI D N T F (l ++ [(mk, zl_g m v q, z)]) (zl_mk m v q z n s w l.length (sumS l)) := by
  obtain ⟨h30, hzs, hzf, hzk⟩ := zl_num hz h0
  have h12 := M.k12
  have hn := M.hn
  have hS := C.sl
  have hs1 := M.s1
  have hzs1 : z * s ≠ 0 := by
    have := Nat.mul_pos (show 0 < z by omega) (show 0 < s by omega)
    omega
  refine ⟨C.day, C.fel, C.Fle, C.nM, C.Nle, C.nT, C.Tle, fun u hu => ?_, fun u hu => ?_, fun u hu hp => ?_, fun u hu hp => ?_, C.mk, C.sz, fun u hu => ?_, C.sk, C.vt, C.pr, C.un, C.wa, ?_, ?_, ?_, ?_, ?_, C.lo⟩
  · show ∃ x, x ≤ 40 ∧ upd m.pulp v (nI (n - z * s)) u = nI x
    by_cases c : u = v
    · subst c; rw [pu_up]; exact ⟨_, by omega, rfl⟩
    · rw [pu_un c]; exact C.pu u hu
  · show ∃ x, x ≤ 99 ∧ (if n = z * s then upd m.beat v (nI 0) else m.beat) u = nI x
    split
    · by_cases c : u = v
      · subst c; rw [pu_up]; exact ⟨0, by omega, rfl⟩
      · rw [pu_un c]; exact C.be u hu
    · exact C.be u hu
  · have hp' : upd m.pulp v (nI (n - z * s)) u = nI 0 := hp
    show (if n = z * s then upd m.beat v (nI 0) else m.beat) u = nI 0 ∧ (if n = z * s then upd m.sort v (-nI 1) else m.sort) u = -nI 1
    by_cases c : u = v
    · subst c
      rw [pu_up, pu_eq (by omega) (by omega)] at hp'
      have h1 : n = z * s := by omega
      rw [if_pos h1, if_pos h1, pu_up, pu_up]
      exact ⟨rfl, rfl⟩
    · rw [pu_un c] at hp'
      have := C.em u hu hp'
      split
      · rw [pu_un c, pu_un c]; exact this
      · exact this
  · have hp' : upd m.pulp v (nI (n - z * s)) u ≠ nI 0 := hp
    show ∃ x, x < 3 ∧ (if n = z * s then upd m.sort v (-nI 1) else m.sort) u = nI x
    obtain ⟨k1, k2, k3⟩ := (zl_mkK (q := q) (w := w) (Q := l.length) (S := sumS l) hn M.en hzs1).keep u hu hp'
    have k3' : (if n = z * s then upd m.sort v (-nI 1) else m.sort) u = m.sort u := k3
    rw [k3']
    exact C.so u hu k1
  · show ∃ x, x ≤ 50 ∧ upd m.worn q (nI (min (w + (z + 1) / 2) 50)) u = nI x
    by_cases c : u = q
    · subst c; rw [pu_up]; exact ⟨_, Nat.min_le_right _ _, rfl⟩
    · rw [pu_un c]; exact C.wn u hu
  · show nI (l.length + 1) = nI (l ++ [(mk, zl_g m v q, z)]).length
    rw [List.length_append]
    rfl
  · show nI (sumS l + z) = nI (sumS (l ++ [(mk, zl_g m v q, z)]))
    rw [sumS_snoc]
  · rw [sumS_snoc]
    show sumS l + z ≤ F
    omega
  · intro x hx
    rcases List.mem_append.mp hx with h | h
    · exact C.ok x h
    · rw [List.mem_singleton.mp h]
      exact ⟨M.hm, grdF_le _, by show 1 ≤ z; omega⟩
  · have h := C.ec.snoc (mk, zl_g m v q, z)
    show EncC (upd m.pmark l.length (m.mark q)) (upd m.pgrade l.length (nI (zl_g m v q))) (upd m.psheets l.length (nI z)) 0 (l ++ [(mk, zl_g m v q, z)])
    rw [M.em]
    exact h
theorem zl_grd (v : Int32) : (if 7 ≤ v then (if 12 ≤ v then (some 0 : Option Int32) else some 1) else some 2) = some (nI (grdF v)) := by
  have e7 : (7 ≤ v) ↔ ¬ v < 7 := Int32.not_lt.symm
  have e12 : (12 ≤ v) ↔ ¬ v < 12 := Int32.not_lt.symm
  have e : v < 7 → v < 12 := fun h => by
    rw [Int32.lt_iff_toInt_lt] at h ⊢
    rw [show (7 : Int32).toInt = 7 from by decide] at h
    rw [show (12 : Int32).toInt = 12 from by decide]
    omega
  unfold grdF
  by_cases a : v < 7
  · rw [if_neg (fun h => e7.mp h a), if_pos (e a), if_pos a]; rfl
  · rw [if_pos (e7.mpr a)]
    by_cases b : v < 12
    · rw [if_neg (fun h => e12.mp h b), if_pos b, if_neg a]; rfl
    · rw [if_pos (e12.mpr b), if_neg b]; rfl
theorem zl_pts {B W : Int32} {x : Nat} (hx : x < 3) : B + 6 - 3 * nI x - W = B + ptsF (nI x) - W := by
  have h : ptsF (nI x) = 6 + -(3 * nI x) := by
    rcases (show x = 0 ∨ x = 1 ∨ x = 2 by omega) with rfl | rfl | rfl <;> decide
  rw [h, ← Int32.add_assoc, ← Int32.sub_eq_add_neg]
theorem zl_CE {a b : MS} (h1 : a.pulp = b.pulp) (h2 : a.beat = b.beat) (h3 : a.sort = b.sort) (h4 : a.mark = b.mark) (h5 : a.size = b.size) (h6 : a.worn = b.worn) (h7 : a.skill = b.skill) (h8 : a.vat = b.vat) (h9 : a.pair = b.pair) (g1 : a.pmark = b.pmark) (g2 : a.pgrade = b.pgrade) (g3 : a.psheets = b.psheets) (g4 : a.loft = b.loft) (g5 : a.rags = b.rags) (g6 : a.water = b.water) : zl_C a = zl_C b := by
  unfold zl_C
  rw [h1, h2, h3, h4, h5, h6, h7, h8, h9, g1, g2, g3, g4, g5, g6]
/-- what the law's object does to the vat and the pair -/
theorem zl_tail {N T Q : Nat} {F : Nat → Nat} {R : Nat → Nat → Nat} {K : Nat → Option zs_E} {m : MS} {p5 : zs_H} {v q n s w z : Nat} (H6 : zr p5 F (zl_z N T Q) R (zl_C m) K) (hv : v < 4) (hq : q < N) (ew : m.worn q = nI w) : ∃ p6 p8 p9, zs_st p5 (R 0 v) 0 (nI (n - z * s)) = some p6 ∧ zs_ld p6 (R 0 v) 0 = some (nI (n - z * s)) ∧ (z * s ≤ n → n ≤ 40 → (if nI (n - z * s) = 0 then (zs_st p6 (R 0 v) 1 0).bind fun p44 => (zs_st p44 (R 0 v) 2 (-1)).bind fun p45 => some p45 else some p6) = some p8) ∧ zs_ld p8 (R 1 q) 2 = some (nI w) ∧ zs_st p8 (R 1 q) (nI 2) (nI (min (w + (z + 1) / 2) 50)) = some p9 ∧ zr p9 F (zl_z N T Q) R (zl_C (MS.of m.day m.coins m.felts m.made m.worth m.rags m.water (upd m.pulp v (nI (n - z * s))) (if n = z * s then upd m.beat v (nI 0) else m.beat) (if n = z * s then upd m.sort v (-nI 1) else m.sort) m.nM m.mark m.size (upd m.worn q (nI (min (w + (z + 1) / 2) 50))) m.nT m.skill m.vat m.pair m.nQ m.allS m.pmark m.pgrade m.psheets m.loft)) K := by
  obtain ⟨p6, s6, t6, H7⟩ := zr_st H6 (k := 0) (j := v) (c := 0) (v := nI (n - z * s)) (by omega) hv (by decide)
  rw [zc_pulp] at H7
  have e11 : zs_ld p6 (R 0 v) 0 = some (nI (n - z * s)) := (zr_ld H7 (k := 0) (j := v) (c := 0) (by omega) hv (by decide)).trans (congrArg some pu_up)
  by_cases c : n = z * s
  · obtain ⟨p7, s7, t7, H8⟩ := zr_st H7 (k := 0) (j := v) (c := 1) (v := nI 0) (by omega) hv (by decide)
    rw [zc_beat] at H8
    obtain ⟨p8, s8, t8, H9⟩ := zr_st H8 (k := 0) (j := v) (c := 2) (v := -nI 1) (by omega) hv (by decide)
    have H9' := zr_cC H9 (fun k j c _ _ hc => (zc_sort _ v (-nI 1) k j c hc).symm)
    obtain ⟨p9, s9, t9, H10⟩ := zr_st H9' (k := 1) (j := q) (c := 2) (v := nI (min (w + (z + 1) / 2) 50)) (by omega) hq (by decide)
    have H11 := zr_cC H10 (fun k j c _ _ hc => (zc_worn _ q _ k j c hc).symm)
    have s7' : zs_st p6 (R 0 v) 1 0 = some p7 := s7
    have s8' : zs_st p7 (R 0 v) 2 (-1) = some p8 := s8
    refine ⟨p6, p8, p9, s6, e11, fun _ _ => ?_, (zr_ld H9' (k := 1) (j := q) (c := 2) (by omega) hq (by decide)).trans (congrArg some ew), s9, ?_⟩
    · rw [if_pos (show nI (n - z * s) = 0 by rw [← c, Nat.sub_self]; rfl), s7', pu_bs, s8', pu_bs]
    · rw [if_pos c, if_pos c]
      exact H11
  · obtain ⟨p9, s9, t9, H10⟩ := zr_st H7 (k := 1) (j := q) (c := 2) (v := nI (min (w + (z + 1) / 2) 50)) (by omega) hq (by decide)
    have H11 := zr_cC H10 (fun k j c _ _ hc => (zc_worn _ q _ k j c hc).symm)
    refine ⟨p6, p6, p9, s6, e11, fun h1 h2 => ?_, (zr_ld H7 (k := 1) (j := q) (c := 2) (by omega) hq (by decide)).trans (congrArg some ew), s9, ?_⟩
    · rw [if_neg (show ¬ nI (n - z * s) = 0 from fun e => c (by have := (pu_eq (a := n - z * s) (b := 0) (by omega) (by omega)).mp e; omega))]
    · rw [if_neg c, if_neg c]
      exact H11
/-- a post more in the tables -/
theorem zl_postC {m : MS} {N T Q : Nat} {a b c : Int32} : ∀ k j d, k < 7 → j < zl_z N T (Q + 1) k → d < zr_w k → zl_C (MS.of m.day m.coins m.felts m.made m.worth m.rags m.water m.pulp m.beat m.sort m.nM m.mark m.size m.worn m.nT m.skill m.vat m.pair m.nQ m.allS (upd m.pmark Q a) (upd m.pgrade Q b) (upd m.psheets Q c) m.loft) k j d = (if k = 3 then (if j = zl_z N T Q 3 then upd (upd (upd (fun _ => 0) 0 a) 1 b) 2 c else zl_C m 3 j) else zl_C m k j) d := by
  intro k j d hk hj hd
  by_cases ck : k = 3
  · subst ck
    rw [if_pos rfl]
    by_cases cj : j = Q
    · subst cj
      rw [if_pos (show j = zl_z N T j 3 from rfl)]
      rcases d with _ | _ | _ | d
      · rw [pu_un (show (0 : Nat) ≠ 2 by decide), pu_un (show (0 : Nat) ≠ 1 by decide), pu_up]; exact pu_up
      · rw [pu_un (show (0 + 1 : Nat) ≠ 2 by decide)]
        exact Eq.trans pu_up pu_up.symm
      · exact Eq.trans pu_up pu_up.symm
      · exact absurd hd (by show ¬ (d + 1 + 1 + 1 < 3); omega)
    · rw [if_neg (show ¬ j = zl_z N T Q 3 from cj)]
      rcases d with _ | _ | d
      · exact pu_un cj
      · exact pu_un cj
      · exact pu_un cj
  · rw [if_neg ck]
    rcases k with _ | _ | _ | _ | _ | _ | k
    · rfl
    · rfl
    · rfl
    · exact absurd rfl ck
    all_goals rfl
theorem zl_zQ {N T Q : Nat} : ∀ k, k < 7 → zl_z N T (Q + 1) k = va_up (zl_z N T Q) 3 (Q + 1) k := by
  intro k hk
  by_cases c : k = 3
  · subst c; exact va_up_p.symm
  · rw [va_up_n c]
    rcases k with _ | _ | _ | _ | _ | k
    · rfl
    · rfl
    · rfl
    · exact absurd rfl c
    all_goals rfl
theorem SR.mk {D N T F0 : Nat} {l : List pz_PT} {m : MS} {G : FN} {F : Nat → Nat} {p : zs_H} {R : Nat → Nat → Nat} {K : Nat → Option zs_E} (C : CI D N T F0 l m) (H : SR m N T l.length G F p R K) {t v q n b s w sk mk z : Nat} (M : zl_TM N T m t v q n b s w sk mk) (hz : z = if b < 30 then 0 else min (n / s) (min (F0 - sumS l) sk)) (h0 : z ≠ 0) :
    ∃ G' F' p' R', (∀ k x, fLX6_pass_126 (F 9) (nI T) (k + 1) G F p x (nI t) = fLX6_pass_126 (F 9) (nI T) k G' F' p' (x + nI z) (nI (t + 1))) ∧ SR (zl_mk m v q z n s w l.length (sumS l)) N T (l.length + 1) G' F' p' R' K ∧ ∀ i, i ≠ 10 → F' i = F i := by
  obtain ⟨h30, hzs, hzf, hzk⟩ := zl_num hz h0
  have h12 := M.k12
  have hn := M.hn
  have hw := M.hw
  have hF := C.Fle
  have hS := C.sl
  have hT := C.Tle
  have hN := C.Nle
  have ht := M.ht
  have hv := M.hv
  have hq := M.hq
  have hs1 := M.s1
  have hs3 := M.s3
  have hQ : l.length < 90 := by have := len_sum l C.ok; omega
  have hzs1 : z * s ≠ 0 := by
    have := Nat.mul_pos (show 0 < z by omega) (show 0 < s by omega)
    omega
  obtain ⟨so, hso, eso⟩ := C.so v hv (by rw [M.en]; exact fun e => by have := (pu_eq (by omega) (by omega)).mp e; omega)
  have e0 : zs_ldr p (F 9) (nI t) = some (R 2 t) := zr_ldr H.r (k := 2) (by omega) ht (show T < 2147483648 by omega)
  have e1 : zs_ld p (R 2 t) 1 = some (m.vat t) := zr_ld H.r (k := 2) (c := 1) (by omega) ht (by decide)
  have e2 : zs_ld p (R 2 t) 2 = some (m.pair t) := zr_ld H.r (k := 2) (c := 2) (by omega) ht (by decide)
  have e3 : zs_ldr p (F 7) (nI v) = some (R 0 v) := zr_ldr H.r (k := 0) (by omega) hv (show (4 : Nat) < 2147483648 by decide)
  have e4 : zs_ldr p (F 8) (nI q) = some (R 1 q) := zr_ldr H.r (k := 1) (by omega) hq (show N < 2147483648 by omega)
  have e5 : zs_ld p (R 0 v) 1 = some (m.beat v) := zr_ld H.r (k := 0) (c := 1) (by omega) hv (by decide)
  have e6 : zs_ld p (R 0 v) 2 = some (m.sort v) := zr_ld H.r (k := 0) (c := 2) (by omega) hv (by decide)
  have e7 : zs_ld p (R 1 q) 2 = some (m.worn q) := zr_ld H.r (k := 1) (c := 2) (by omega) hq (by decide)
  obtain ⟨p1, n1, n2, H1⟩ := zr_nwi H.r (n := 3) (B := 3) (Nat.le_refl _) (by decide)
  have n1' : zs_nwi p 3 3 = some p1 := n1
  have e8 : zs_ld p1 (R 1 q) 0 = some (m.mark q) := zr_ld H1 (k := 1) (c := 0) (by omega) hq (by decide)
  obtain ⟨p2, s2, t2, H2⟩ := zr_kst H1 (q := p.1) (n := 3) (c := 0) (v := m.mark q) va_up_p (by omega) (by decide)
  have s2' : zs_st p1 p.1 0 (m.mark q) = some p2 := s2
  obtain ⟨p3, s3, t3, H3⟩ := zr_kst H2 (q := p.1) (n := 3) (c := 1) (v := nI (zl_g m v q)) va_up_p (by omega) (by decide)
  have s3' : zs_st p2 p.1 1 (nI (zl_g m v q)) = some p3 := s3
  obtain ⟨p4, s4, t4, H4⟩ := zr_kst H3 (q := p.1) (n := 3) (c := 2) (v := nI z) va_up_p (by omega) (by decide)
  have s4' : zs_st p3 p.1 2 (nI z) = some p4 := s4
  obtain ⟨p5, m1, m2, H5⟩ := zr_grow H4 (k := 3) (r := p.1) (by omega) va_up_p (show l.length + 1 ≤ 92 by omega)
  have m1' : fX6_more p4 (F 10) p.1 = some (p4.1, p5) := m1
  have H6 := zr_cK (K2 := K) (zr_cC (zr_cS H5 (s2 := zl_z N T (l.length + 1)) zl_zQ) (C2 := zl_C (MS.of m.day m.coins m.felts m.made m.worth m.rags m.water m.pulp m.beat m.sort m.nM m.mark m.size m.worn m.nT m.skill m.vat m.pair m.nQ m.allS (upd m.pmark l.length (m.mark q)) (upd m.pgrade l.length (nI (zl_g m v q))) (upd m.psheets l.length (nI z)) m.loft)) zl_postC) (fun r e hr => by
    have h1 := (zr_oth H.r hr).1
    rw [va_up_n (by omega), va_up_n (by omega), va_up_n (by omega), va_up_n (by omega), va_up_n (by omega), va_up_n (by omega)]
    exact hr)
  obtain ⟨p6, p8, p9, s6, e11, h8, e12, s9, H9⟩ := zl_tail (n := n) (s := s) (z := z) H6 hv hq M.ew
  have e9 : zs_ld p5 (R 0 v) 0 = some (m.pulp v) := zr_ld H6 (k := 0) (j := v) (c := 0) (by omega) hv (by decide)
  have e10 : zs_ld p5 (R 1 q) 1 = some (m.size q) := zr_ld H6 (k := 1) (j := q) (c := 1) (by omega) hq (by decide)
  have s6' : zs_st p5 (R 0 v) 0 (nI (n - z * s)) = some p6 := s6
  have e11' : zs_ld p6 (R 0 v) 0 = some (nI (n - z * s)) := e11
  have h8' : (if nI (n - z * s) = 0 then (zs_st p6 (R 0 v) 1 0).bind fun p44 => (zs_st p44 (R 0 v) 2 (-1)).bind fun p45 => some p45 else some p6) = some p8 := h8 hzs hn
  have e12' : zs_ld p8 (R 1 q) 2 = some (nI w) := e12
  have s9' : zs_st p8 (R 1 q) (nI 2) (nI (min (w + (z + 1) / 2) 50)) = some p9 := s9
  have hgr : (if 7 ≤ (((m.beat v / 10) + 6) - (3 * m.sort v)) - (m.worn q / 10) then (if 12 ≤ (((m.beat v / 10) + 6) - (3 * m.sort v)) - (m.worn q / 10) then (some 0 : Option Int32) else some 1) else some 2) = some (nI (zl_g m v q)) := by
    rw [zl_grd]
    unfold zl_g
    rw [eso, zl_pts hso]
  have H10 := zr_cC (C2 := zl_C (zl_mk m v q z n s w l.length (sumS l))) H9 (fun k j c _ _ _ => congrFun (congrFun (congrFun (zl_CE rfl rfl rfl rfl rfl rfl rfl rfl rfl rfl rfl rfl rfl rfl rfl) k) j) c)
  have main : ∀ k x, fLX6_pass_126 (F 9) (nI T) (k + 1) G F p x (nI t) = fLX6_pass_126 (F 9) (nI T) k (upd G 4 (G 4 + nI z * nI (wtF (zl_g m v q)))) (va_up F 10 p4.1) p9 (x + nI z) (nI (t + 1)) := by
    intro k x
    rw [fLX6_pass_126, if_neg (by rw [pu_le (by omega) (by omega)]; omega), e0, pu_bs, H.makes C M.ht M.hv M.hq M.ev M.ep M.en M.hn M.eb M.hb M.es M.s1 M.s3 M.ek M.k12, ← hz, pu_bs, if_neg (show ¬ nI z = 0 from fun e => h0 ((pu_eq (a := z) (b := 0) (by omega) (by omega)).mp e)), e1, pu_bs, M.ev, e3, pu_bs, e2, pu_bs, M.ep, e4, pu_bs, e5, pu_bs, e6, pu_bs, e7, pu_bs, hgr, pu_bs, n1', pu_bs, e8, pu_bs, s2', pu_bs, s3', pu_bs, s4', pu_bs, m1', pu_bs]
    dsimp only
    rw [e9, pu_bs, e10, pu_bs, M.en, M.es, pu_mul, pu_sub hzs, s6', pu_bs, e11', pu_bs, h8', pu_bs, e12', pu_bs, show (2 : Int32) = nI 2 from rfl, pu_div (by omega) (by omega), pu_mul, pu_sub (by omega), pu_add, pu_add, show (50 : Int32) = nI 50 from rfl, pu_min (by omega) (by omega), show w + z / 2 + (z - z / 2 * 2) = w + (z + 1) / 2 by omega, s9', pu_bs, (pb_worth (g := zl_g m v q) (grdF_le _)).2, pu_bs, pu_bs, show (1 : Int32) = nI 1 from rfl, pu_add]
  have g4 : upd G 4 (G 4 + nI z * nI (wtF (zl_g m v q))) 4 = m.worth + nI (z * wtF (zl_g m v q)) := by
    rw [pu_up, H.g4, pu_mul]
  exact ⟨_, _, _, _, main, ⟨(pu_un (by decide)).trans H.g0, (pu_un (by decide)).trans H.g1, (pu_un (by decide)).trans H.g2, (pu_un (by decide)).trans H.g3, g4, H10⟩, fun i hi => va_up_n hi⟩
theorem SR.rest {D N T F0 : Nat} {l : List pz_PT} {m : MS} {G : FN} {F : Nat → Nat} {p : zs_H} {R : Nat → Nat → Nat} {K : Nat → Option zs_E} (C : CI D N T F0 l m) (H : SR m N T l.length G F p R K) {t : Nat} (ht : t < T) (h : fX6_makes G F p (R 2 t) = some (nI 0)) (k : Nat) (x : Int32) : fLX6_pass_126 (F 9) (nI T) (k + 1) G F p x (nI t) = fLX6_pass_126 (F 9) (nI T) k G F p x (nI (t + 1)) := by
  have hT := C.Tle
  have e0 : zs_ldr p (F 9) (nI t) = some (R 2 t) := zr_ldr H.r (k := 2) (by omega) ht (show T < 2147483648 by omega)
  rw [fLX6_pass_126, if_neg (by rw [pu_le (by omega) (by omega)]; omega), e0, pu_bs, h, pu_bs, if_pos (show nI 0 = 0 from rfl), pu_bs, show (1 : Int32) = nI 1 from rfl, pu_add]
/-! the class's answers -/
theorem zx_told_0 {X : XT} {T t : Nat} (hT : X.1.nT = nI T) (ht : t < T) (h3 : T ≤ 3) : zx_told X (nI t) 0 = some (X.1.skill t) := by
  unfold zx_told fX5_told fX0_tellTeam
  rw [hT, pb_has3 ht h3, pu_bs, if_neg (show ¬ (1 : Int32) = 0 by decide), show fX5_isBelow (0 : Int32) 4 = some 1 from pb_in (v := 0) (b := 4) (by decide) (by decide), pu_bs, if_neg (show ¬ (1 : Int32) = 0 by decide), if_neg (show ¬ ((0 : Int32).toInt < 0 ∨ 2 < (0 : Int32).toInt) by decide), if_pos (show (0 : Int32).toInt = 0 by decide), pb_skillOf ht h3]
  rfl
theorem zx_told_1 {X : XT} {T t : Nat} (hT : X.1.nT = nI T) (ht : t < T) (h3 : T ≤ 3) : zx_told X (nI t) 1 = some (X.1.vat t) := by
  unfold zx_told fX5_told fX0_tellTeam
  rw [hT, pb_has3 ht h3, pu_bs, if_neg (show ¬ (1 : Int32) = 0 by decide), show fX5_isBelow (1 : Int32) 4 = some 1 from pb_in (v := 1) (b := 4) (by decide) (by decide), pu_bs, if_neg (show ¬ (1 : Int32) = 0 by decide), if_neg (show ¬ ((1 : Int32).toInt < 0 ∨ 2 < (1 : Int32).toInt) by decide), if_neg (show ¬ (1 : Int32).toInt = 0 by decide), if_pos (show (1 : Int32).toInt = 1 by decide), pb_vatOf ht h3]
  rfl
theorem zx_told_2 {X : XT} {T t : Nat} (hT : X.1.nT = nI T) (ht : t < T) (h3 : T ≤ 3) : zx_told X (nI t) 2 = some (X.1.pair t) := by
  unfold zx_told fX5_told fX0_tellTeam
  rw [hT, pb_has3 ht h3, pu_bs, if_neg (show ¬ (1 : Int32) = 0 by decide), show fX5_isBelow (2 : Int32) 4 = some 1 from pb_in (v := 2) (b := 4) (by decide) (by decide), pu_bs, if_neg (show ¬ (1 : Int32) = 0 by decide), if_neg (show ¬ ((2 : Int32).toInt < 0 ∨ 2 < (2 : Int32).toInt) by decide), if_neg (show ¬ (2 : Int32).toInt = 0 by decide), if_neg (show ¬ (2 : Int32).toInt = 1 by decide), pb_pairOf ht h3]
  rfl
theorem zx_mould_0 {X : XT} {N p : Nat} (hN : X.1.nM = nI N) (hp : p < N) (h5 : N ≤ 5) : zx_mould X (nI p) 0 = some (X.1.mark p) := by
  unfold zx_mould fX5_mould fX0_tellPair
  rw [hN, pb_has1 hp h5, pu_bs, if_neg (show ¬ (1 : Int32) = 0 by decide), show fX5_isBelow (0 : Int32) 4 = some 1 from pb_in (v := 0) (b := 4) (by decide) (by decide), pu_bs, if_neg (show ¬ (1 : Int32) = 0 by decide), if_neg (show ¬ ((0 : Int32).toInt < 0 ∨ 2 < (0 : Int32).toInt) by decide), if_pos (show (0 : Int32).toInt = 0 by decide), pb_markOf hp h5]
  rfl
theorem zx_mould_1 {X : XT} {N p : Nat} (hN : X.1.nM = nI N) (hp : p < N) (h5 : N ≤ 5) : zx_mould X (nI p) 1 = some (X.1.size p) := by
  unfold zx_mould fX5_mould fX0_tellPair
  rw [hN, pb_has1 hp h5, pu_bs, if_neg (show ¬ (1 : Int32) = 0 by decide), show fX5_isBelow (1 : Int32) 4 = some 1 from pb_in (v := 1) (b := 4) (by decide) (by decide), pu_bs, if_neg (show ¬ (1 : Int32) = 0 by decide), if_neg (show ¬ ((1 : Int32).toInt < 0 ∨ 2 < (1 : Int32).toInt) by decide), if_neg (show ¬ (1 : Int32).toInt = 0 by decide), if_pos (show (1 : Int32).toInt = 1 by decide), pb_sizeOf hp h5]
  rfl
theorem zx_mould_2 {X : XT} {N p : Nat} (hN : X.1.nM = nI N) (hp : p < N) (h5 : N ≤ 5) : zx_mould X (nI p) 2 = some (X.1.worn p) := by
  unfold zx_mould fX5_mould fX0_tellPair
  rw [hN, pb_has1 hp h5, pu_bs, if_neg (show ¬ (1 : Int32) = 0 by decide), show fX5_isBelow (2 : Int32) 4 = some 1 from pb_in (v := 2) (b := 4) (by decide) (by decide), pu_bs, if_neg (show ¬ (1 : Int32) = 0 by decide), if_neg (show ¬ ((2 : Int32).toInt < 0 ∨ 2 < (2 : Int32).toInt) by decide), if_neg (show ¬ (2 : Int32).toInt = 0 by decide), if_neg (show ¬ (2 : Int32).toInt = 1 by decide), pb_wornOf hp h5]
  rfl
/-! the law's own count of a day's sheets -/
def zl_E (N : Nat) (m : MS) (K : Nat → Option zs_E) (q13 q14 q16 : Nat) (B : FN) : Prop := (∃ f, K q13 = some (.inl (4, f)) ∧ ∀ v, v < 4 → f v = m.pulp v) ∧ (K q14 = some (.inl (4, B))) ∧ (∀ v, v < 4 → m.pulp v ≠ nI 0 → B v = m.beat v) ∧ (∃ f, K q16 = some (.inl (N, f)) ∧ ∀ j, j < N → f j = m.worn j) ∧ (q13 ≠ q14) ∧ (q13 ≠ q16) ∧ (q14 ≠ q16)
theorem zl_E.h13 {N : Nat} {m : MS} {K : Nat → Option zs_E} {q13 q14 q16 : Nat} {B : FN} (H : zl_E N m K q13 q14 q16 B) : ∃ f, K q13 = some (.inl (4, f)) ∧ ∀ v, v < 4 → f v = m.pulp v := H.1
theorem zl_E.h14 {N : Nat} {m : MS} {K : Nat → Option zs_E} {q13 q14 q16 : Nat} {B : FN} (H : zl_E N m K q13 q14 q16 B) : K q14 = some (.inl (4, B)) := H.2.1
theorem zl_E.hB {N : Nat} {m : MS} {K : Nat → Option zs_E} {q13 q14 q16 : Nat} {B : FN} (H : zl_E N m K q13 q14 q16 B) : ∀ v, v < 4 → m.pulp v ≠ nI 0 → B v = m.beat v := H.2.2.1
theorem zl_E.h16 {N : Nat} {m : MS} {K : Nat → Option zs_E} {q13 q14 q16 : Nat} {B : FN} (H : zl_E N m K q13 q14 q16 B) : ∃ f, K q16 = some (.inl (N, f)) ∧ ∀ j, j < N → f j = m.worn j := H.2.2.2.1
theorem zl_E.d1 {N : Nat} {m : MS} {K : Nat → Option zs_E} {q13 q14 q16 : Nat} {B : FN} (H : zl_E N m K q13 q14 q16 B) : q13 ≠ q14 := H.2.2.2.2.1
theorem zl_E.d2 {N : Nat} {m : MS} {K : Nat → Option zs_E} {q13 q14 q16 : Nat} {B : FN} (H : zl_E N m K q13 q14 q16 B) : q13 ≠ q16 := H.2.2.2.2.2.1
theorem zl_E.d3 {N : Nat} {m : MS} {K : Nat → Option zs_E} {q13 q14 q16 : Nat} {B : FN} (H : zl_E N m K q13 q14 q16 B) : q14 ≠ q16 := H.2.2.2.2.2.2
def zl_V (N T : Nat) (m x : MS) : Prop := (x.nT = nI T) ∧ (x.nM = nI N) ∧ (x.skill = m.skill) ∧ (x.vat = m.vat) ∧ (x.pair = m.pair) ∧ (x.size = m.size)
theorem zl_V.nT {N T : Nat} {m x : MS} (H : zl_V N T m x) : x.nT = nI T := H.1
theorem zl_V.nM {N T : Nat} {m x : MS} (H : zl_V N T m x) : x.nM = nI N := H.2.1
theorem zl_V.skill {N T : Nat} {m x : MS} (H : zl_V N T m x) : x.skill = m.skill := H.2.2.1
theorem zl_V.vat {N T : Nat} {m x : MS} (H : zl_V N T m x) : x.vat = m.vat := H.2.2.2.1
theorem zl_V.pair {N T : Nat} {m x : MS} (H : zl_V N T m x) : x.pair = m.pair := H.2.2.2.2.1
theorem zl_V.size {N T : Nat} {m x : MS} (H : zl_V N T m x) : x.size = m.size := H.2.2.2.2.2
theorem zl_len {p : zs_H} {F : Nat → Nat} {sz : Nat → Nat} {R : Nat → Nat → Nat} {Cc : Nat → Nat → Nat → Int32} {K : Nat → Option zs_E} {T : Nat} (H : zr p F sz R Cc K) (hs : sz 2 = T) : zs_len p (F 9) = some (nI T) := by
  have := zr_len H (k := 2) (by omega)
  rw [hs] at this
  exact this
theorem zl_expI {D N T F0 : Nat} {l : List pz_PT} {m : MS} {X : XT} {F : Nat → Nat} {p : zs_H} {sz : Nat → Nat} {R : Nat → Nat → Nat} {Cc : Nat → Nat → Nat → Int32} {K : Nat → Option zs_E} {q13 q14 q16 : Nat} (C : CI D N T F0 l m) (V : zl_V N T m X.1) (H : zr p F sz R Cc K) (hs : sz 2 = T) {t : Nat} (ht : t < T) (h : m.vat t = -nI 1 ∨ m.pair t = -nI 1) (k : Nat) (x a : Int32) : fLL_law_381 X F q13 q14 q16 (k + 1) p x a (nI t) = fLL_law_381 X F q13 q14 q16 k p x a (nI (t + 1)) := by
  have hT := C.Tle
  have hm : -nI 1 < nI 0 := by decide
  rw [fLL_law_381, zl_len H hs, pu_bs, if_neg (by rw [pu_le (by omega) (by omega)]; omega), zx_told_1 V.nT ht hT, pu_bs, zx_told_2 V.nT ht hT, pu_bs, V.vat, V.pair, show (0 : Int32) = nI 0 from rfl, show (1 : Int32) = nI 1 from rfl, pu_add]
  by_cases c : m.vat t < nI 0
  · rw [if_pos c, pu_bs]
  · rw [if_neg c]
    rcases h with h | h
    · exact absurd (by rw [h]; exact hm) c
    · rw [h, if_pos hm, pu_bs]
theorem zl_expM {D N T F0 : Nat} {l : List pz_PT} {m : MS} {X : XT} {F : Nat → Nat} {p : zs_H} {sz : Nat → Nat} {R : Nat → Nat → Nat} {Cc : Nat → Nat → Nat → Int32} {K : Nat → Option zs_E} {q13 q14 q16 : Nat} {B : FN} (C : CI D N T F0 l m) (V : zl_V N T m X.1) (E : zl_E N m K q13 q14 q16 B) (H : zr p F sz R Cc K) (hs : sz 2 = T) {t v q n b s w sk mk z : Nat} (M : zl_TM N T m t v q n b s w sk mk) (hz : z = if b < 30 then 0 else min (n / s) (min (F0 - sumS l) sk)) :
    ∃ p' K', (∀ k a, fLL_law_381 X F q13 q14 q16 (k + 1) p (nI (F0 - sumS l)) (nI a) (nI t) = fLL_law_381 X F q13 q14 q16 k p' (nI (F0 - sumS l - z)) (nI (a + z)) (nI (t + 1))) ∧ zr p' F sz R Cc K' ∧ (z = 0 → zl_E N m K' q13 q14 q16 B) ∧ (z ≠ 0 → zl_E N (zl_mk m v q z n s w l.length (sumS l)) K' q13 q14 q16 B) ∧ ∀ r, r ≠ q13 → r ≠ q16 → K' r = K r := by
  have h12 := M.k12
  have hn := M.hn
  have hw := M.hw
  have hF := C.Fle
  have hS := C.sl
  have hT := C.Tle
  have hN := C.Nle
  have ht := M.ht
  have hv := M.hv
  have hq := M.hq
  have hs1 := M.s1
  have hs3 := M.s3
  have hb := M.hb
  obtain ⟨f, f1, f2⟩ := E.h13
  obtain ⟨g, g1, g2⟩ := E.h16
  have k14 : zs_ld p q14 (nI v) = some (B v) := zr_kld H E.h14 hv (by decide)
  have k13 : zs_ld p q13 (nI v) = some (f v) := zr_kld H f1 hv (by decide)
  have fv : f v = nI n := (f2 v hv).trans M.en
  have same : z = 0 → (∀ k a, fLL_law_381 X F q13 q14 q16 (k + 1) p (nI (F0 - sumS l)) (nI a) (nI t) = fLL_law_381 X F q13 q14 q16 k p (nI (F0 - sumS l)) (nI a) (nI (t + 1))) → ∃ p' K', (∀ k a, fLL_law_381 X F q13 q14 q16 (k + 1) p (nI (F0 - sumS l)) (nI a) (nI t) = fLL_law_381 X F q13 q14 q16 k p' (nI (F0 - sumS l - z)) (nI (a + z)) (nI (t + 1))) ∧ zr p' F sz R Cc K' ∧ (z = 0 → zl_E N m K' q13 q14 q16 B) ∧ (z ≠ 0 → zl_E N (zl_mk m v q z n s w l.length (sumS l)) K' q13 q14 q16 B) ∧ ∀ r, r ≠ q13 → r ≠ q16 → K' r = K r := fun z0 h => ⟨p, K, fun k a => by rw [z0, Nat.sub_zero, Nat.add_zero]; exact h k a, H, fun _ => E, fun h2 => absurd z0 h2, fun _ _ _ => rfl⟩
  have start : ∀ k a, fLL_law_381 X F q13 q14 q16 (k + 1) p (nI (F0 - sumS l)) (nI a) (nI t) = _ := fun k a => by
    rw [fLL_law_381, zl_len H hs, pu_bs, if_neg (by rw [pu_le (by omega) (by omega)]; omega), zx_told_1 V.nT ht hT, pu_bs, zx_told_2 V.nT ht hT, pu_bs, V.vat, V.pair, M.ev, M.ep, show (0 : Int32) = nI 0 from rfl, show (1 : Int32) = nI 1 from rfl, pu_add, if_neg (show ¬ nI v < nI 0 by rw [pu_lt (by omega) (by omega)]; omega), if_neg (show ¬ nI q < nI 0 by rw [pu_lt (by omega) (by omega)]; omega), k14, pu_bs]
  by_cases c1 : B v < 30
  · refine same ?_ (fun k a => ?_)
    · by_cases c0 : m.pulp v = nI 0
      · have := (C.em v hv c0).1
        rw [M.eb, pu_eq (by omega) (by omega)] at this
        rw [hz, if_pos (by omega)]
      · rw [E.hB v hv c0, M.eb, show (30 : Int32) = nI 30 from rfl, pu_lt (by omega) (by omega)] at c1
        rw [hz, if_pos c1]
    · rw [start, if_pos c1, pu_bs]
  · by_cases c0 : n = 0
    · refine same ?_ (fun k a => ?_)
      · have := (C.em v hv (by rw [M.en, c0])).1
        rw [M.eb, pu_eq (by omega) (by omega)] at this
        rw [hz, if_pos (by omega)]
      · rw [start, if_neg c1, k13, pu_bs, fv, c0, if_pos rfl, pu_bs]
    · have hp0 : m.pulp v ≠ nI 0 := by rw [M.en]; exact fun e => c0 ((pu_eq (by omega) (by omega)).mp e)
      rw [E.hB v hv hp0, M.eb, show (30 : Int32) = nI 30 from rfl, pu_lt (by omega) (by omega)] at c1
      have hz2 : z = min (n / s) (min (F0 - sumS l) sk) := by rw [hz, if_neg c1]
      have hz3 : min (min (n / s) (F0 - sumS l)) sk = z := by rw [hz2, Nat.min_assoc]
      have hq3 : n / s ≤ n := Nat.div_le_self _ _
      have hzs : z * s ≤ n := Nat.le_trans (Nat.mul_le_mul_right s (show z ≤ n / s by omega)) (Nat.div_mul_le_self n s)
      obtain ⟨p1, s1, t1, H1⟩ := zr_kst H (q := q13) (n := 4) (c := v) (v := nI (n - z * s)) f1 hv (by decide)
      obtain ⟨p2, s2, t2, H2⟩ := zr_kst H1 (q := q16) (n := N) (c := q) (v := nI (min (w + (z + 1) / 2) 50)) (f := g) (by rw [va_up_n (Ne.symm E.d2)]; exact g1) hq (by omega)
      have k16 : zs_ld p1 q16 (nI q) = some (g q) := zr_kld H1 (f := g) (n := N) (by rw [va_up_n (Ne.symm E.d2)]; exact g1) hq (by omega)
      have gq : g q = nI w := (g2 q hq).trans M.ew
      have o14 : va_up (va_up K q13 (some (.inl (4, upd f v (nI (n - z * s)))))) q16 (some (.inl (N, upd g q (nI (min (w + (z + 1) / 2) 50))))) q14 = some (.inl (4, B)) := by rw [va_up_n E.d3, va_up_n (Ne.symm E.d1)]; exact E.h14
      have o13 : va_up (va_up K q13 (some (.inl (4, upd f v (nI (n - z * s)))))) q16 (some (.inl (N, upd g q (nI (min (w + (z + 1) / 2) 50))))) q13 = some (.inl (4, upd f v (nI (n - z * s)))) := by rw [va_up_n E.d2, va_up_p]
      have hpu : ∀ u, u < 4 → upd f v (nI (n - z * s)) u = upd m.pulp v (nI (n - z * s)) u := fun u hu => by
        by_cases c : u = v
        · subst c; rw [pu_up, pu_up]
        · rw [pu_un c, pu_un c]; exact f2 u hu
      have hwo : ∀ u, u < N → upd g q (nI (min (w + (z + 1) / 2) 50)) u = upd m.worn q (nI (min (w + (z + 1) / 2) 50)) u := fun u hu => by
        by_cases c : u = q
        · subst c; rw [pu_up, pu_up]
        · rw [pu_un c, pu_un c]; exact g2 u hu
      refine ⟨p2, _, fun k a => ?_, H2, fun z0 => ⟨⟨_, o13, fun u hu => ?_⟩, o14, E.hB, ⟨_, va_up_p, fun u hu => ?_⟩, E.d1, E.d2, E.d3⟩, fun z0 => ⟨⟨_, o13, hpu⟩, o14, fun u hu hp => ?_, ⟨_, va_up_p, hwo⟩, E.d1, E.d2, E.d3⟩, fun r r1 r2 => by rw [va_up_n r2, va_up_n r1]⟩
      · rw [start, if_neg (by rw [E.hB v hv hp0, M.eb, show (30 : Int32) = nI 30 from rfl, pu_lt (by omega) (by omega)]; exact c1), k13, pu_bs, fv, if_neg (fun e => c0 ((pu_eq (by omega) (by omega)).mp e)), show nI 0 = (0 : Int32) from rfl, zx_told_0 V.nT ht hT, pu_bs, pu_bs, show nI 1 = (1 : Int32) from rfl, zx_mould_1 V.nM hq hN, pu_bs, V.size, M.es, V.skill, M.ek, pu_ckz (by omega) (by omega), pu_bs, pu_bs, pu_div (by omega) (by omega), pu_min (by omega) (by omega), pu_min (by omega) (by omega), hz3, pu_mul, pu_sub hzs, s1, pu_bs, k16, pu_bs, gq, show (1 : Int32) = nI 1 from rfl, show (2 : Int32) = nI 2 from rfl, show (50 : Int32) = nI 50 from rfl, pu_add, pu_div (by omega) (by omega), pu_add, pu_min (by omega) (by omega), s2, pu_bs, pu_bs, pu_sub (by omega), pu_add]
      · rw [hpu u hu, z0, Nat.zero_mul, Nat.sub_zero]
        by_cases c : u = v
        · subst c; rw [pu_up, M.en]
        · rw [pu_un c]
      · rw [hwo u hu, z0, show min (w + (0 + 1) / 2) 50 = w by omega]
        by_cases c : u = q
        · subst c; rw [pu_up, M.ew]
        · rw [pu_un c]
      · have hzs1 : z * s ≠ 0 := by
          have := Nat.mul_pos (show 0 < z by omega) (show 0 < s by omega)
          omega
        obtain ⟨a1, a2, -⟩ := (zl_mkK (q := q) (w := w) (Q := l.length) (S := sumS l) hn M.en hzs1).keep u hu hp
        rw [a2]
        exact E.hB u hu a1
/-- all the teams' work of a day, by the class, by the law's object and by the law's count -/
theorem zl_teams {D N T F0 : Nat} (day : Int32) : ∀ (d t : Nat) (l : List pz_PT) (m : MS), CI D N T F0 l m → t + d = T → ∃ l2 m2 a, CI D N T F0 l2 m2 ∧ zl_K m m2 ∧
    (∀ k md, d < k → fX0_liveDay_L23 day m.felts m.nM m.mark m.size m.nT m.skill m.vat m.pair m.loft k md m.worth m.pulp m.beat m.sort m.worn m.nQ m.allS m.pmark m.pgrade m.psheets (nI t) = (fX0_pressPosts m2.nQ m2.allS m2.pmark m2.pgrade m2.psheets m.loft).bind fun z5 => some (day + 1, md + nI a, m2.worth, m2.pulp, m2.beat, m2.sort, m2.worn, z5.1, z5.2.1, z5.2.2.1, z5.2.2.2.1, z5.2.2.2.2.1, z5.2.2.2.2.2)) ∧
    (∀ G F p R K k x, SR m N T l.length G F p R K → d < k → ∃ G2 F2 p2 R2, fLX6_pass_126 (F 9) (nI T) k G F p x (nI t) = some (G2, F2, p2, x + nI a) ∧ SR m2 N T l2.length G2 F2 p2 R2 K ∧ ∀ i, i ≠ 10 → F2 i = F i) ∧
    (∀ (X : XT) F p sz R Cc K q13 q14 q16 B k a0, zl_V N T m X.1 → zl_E N m K q13 q14 q16 B → zr p F sz R Cc K → sz 2 = T → d < k → ∃ p2 K2, fLL_law_381 X F q13 q14 q16 k p (nI (F0 - sumS l)) (nI a0) (nI t) = some (p2, nI (F0 - sumS l2), nI (a0 + a)) ∧ zr p2 F sz R Cc K2 ∧ zl_E N m2 K2 q13 q14 q16 B ∧ ∀ r, r ≠ q13 → r ≠ q16 → K2 r = K r)
  | 0, t, l, m, C, ht => by
    have hT := C.Tle
    have hle : nI T ≤ nI t := by rw [pu_le (by omega) (by omega)]; omega
    refine ⟨l, m, 0, C, zl_K.refl m, fun k md hk => ?_, fun G F p R K k x H hk => ?_, fun X F p sz R Cc K q13 q14 q16 B k a0 V E H hs hk => ?_⟩
    · obtain ⟨k, rfl⟩ : ∃ k', k = k' + 1 := ⟨k - 1, by omega⟩
      rw [fX0_liveDay_L23, C.nT, if_pos hle, show md + nI 0 = md from Int32.add_zero md]
    · obtain ⟨k, rfl⟩ : ∃ k', k = k' + 1 := ⟨k - 1, by omega⟩
      exact ⟨G, F, p, R, by rw [fLX6_pass_126, if_pos hle, show x + nI 0 = x from Int32.add_zero x], H, fun _ _ => rfl⟩
    · obtain ⟨k, rfl⟩ : ∃ k', k = k' + 1 := ⟨k - 1, by omega⟩
      exact ⟨p, K, by rw [fLL_law_381, zl_len H hs, pu_bs, if_pos hle, Nat.add_zero], H, E, fun _ _ _ => rfl⟩
  | d + 1, t, l, m, C, ht => by
    have hT := C.Tle
    have ht2 : t < T := by omega
    have hle : ¬ nI T ≤ nI t := by rw [pu_le (by omega) (by omega)]; omega
    have rest : fX0_sheetsOf m.felts m.pulp m.beat m.nM m.size m.nT m.skill m.vat m.pair m.allS (nI t) = some (nI 0) → (∀ G F p R K, SR m N T l.length G F p R K → fX6_makes G F p (R 2 t) = some (nI 0)) → (∀ (X : XT) F p sz R Cc K q13 q14 q16 B, zl_V N T m X.1 → zl_E N m K q13 q14 q16 B → zr p F sz R Cc K → sz 2 = T → ∃ p2 K2, (∀ k a, fLL_law_381 X F q13 q14 q16 (k + 1) p (nI (F0 - sumS l)) (nI a) (nI t) = fLL_law_381 X F q13 q14 q16 k p2 (nI (F0 - sumS l)) (nI a) (nI (t + 1))) ∧ zr p2 F sz R Cc K2 ∧ zl_E N m K2 q13 q14 q16 B ∧ ∀ r, r ≠ q13 → r ≠ q16 → K2 r = K r) → ∃ l2 m2 a, CI D N T F0 l2 m2 ∧ zl_K m m2 ∧
    (∀ k md, d + 1 < k → fX0_liveDay_L23 day m.felts m.nM m.mark m.size m.nT m.skill m.vat m.pair m.loft k md m.worth m.pulp m.beat m.sort m.worn m.nQ m.allS m.pmark m.pgrade m.psheets (nI t) = (fX0_pressPosts m2.nQ m2.allS m2.pmark m2.pgrade m2.psheets m.loft).bind fun z5 => some (day + 1, md + nI a, m2.worth, m2.pulp, m2.beat, m2.sort, m2.worn, z5.1, z5.2.1, z5.2.2.1, z5.2.2.2.1, z5.2.2.2.2.1, z5.2.2.2.2.2)) ∧
    (∀ G F p R K k x, SR m N T l.length G F p R K → d + 1 < k → ∃ G2 F2 p2 R2, fLX6_pass_126 (F 9) (nI T) k G F p x (nI t) = some (G2, F2, p2, x + nI a) ∧ SR m2 N T l2.length G2 F2 p2 R2 K ∧ ∀ i, i ≠ 10 → F2 i = F i) ∧
    (∀ (X : XT) F p sz R Cc K q13 q14 q16 B k a0, zl_V N T m X.1 → zl_E N m K q13 q14 q16 B → zr p F sz R Cc K → sz 2 = T → d + 1 < k → ∃ p2 K2, fLL_law_381 X F q13 q14 q16 k p (nI (F0 - sumS l)) (nI a0) (nI t) = some (p2, nI (F0 - sumS l2), nI (a0 + a)) ∧ zr p2 F sz R Cc K2 ∧ zl_E N m2 K2 q13 q14 q16 B ∧ ∀ r, r ≠ q13 → r ≠ q16 → K2 r = K r) := fun g1 g2 g3 => by
      obtain ⟨l2, m2, a, c1, c2, c3, c4, c5⟩ := zl_teams day d (t + 1) l m C (by omega)
      refine ⟨l2, m2, a, c1, c2, fun k md hk => ?_, fun G F p R K k x H hk => ?_, fun X F p sz R Cc K q13 q14 q16 B k a0 V E H hs hk => ?_⟩
      · obtain ⟨k, rfl⟩ : ∃ k', k = k' + 1 := ⟨k - 1, by omega⟩
        rw [fX0_liveDay_L23, if_neg (by rw [C.nT]; exact hle), C.idleM g1 md, pu_bs, show nI t + 1 = nI (t + 1) from pu_add t 1]
        exact c3 k md (by omega)
      · obtain ⟨k, rfl⟩ : ∃ k', k = k' + 1 := ⟨k - 1, by omega⟩
        rw [SR.rest C H ht2 (g2 G F p R K H) k x]
        exact c4 G F p R K k x H (by omega)
      · obtain ⟨k, rfl⟩ : ∃ k', k = k' + 1 := ⟨k - 1, by omega⟩
        obtain ⟨p2, K2, b1, b2, b3, b4⟩ := g3 X F p sz R Cc K q13 q14 q16 B V E H hs
        obtain ⟨p3, K3, d1, d2, d3, d4⟩ := c5 X F p2 sz R Cc K2 q13 q14 q16 B k a0 V b3 b2 hs (by omega)
        exact ⟨p3, K3, by rw [b1]; exact d1, d2, d3, fun r r1 r2 => (d4 r r1 r2).trans (b4 r r1 r2)⟩
    rcases C.teamT ht2 with h | ⟨v, q, n, b, s, w, sk, mk, M⟩
    · exact rest (C.idleV ht2 h) (fun G F p R K H => SR.idle C H ht2 h) (fun X F p sz R Cc K q13 q14 q16 B V E H hs => ⟨p, K, fun k a => zl_expI C V H hs ht2 h k _ _, H, E, fun _ _ _ => rfl⟩)
    · obtain ⟨z, hz⟩ : ∃ z, z = if b < 30 then 0 else min (n / s) (min (F0 - sumS l) sk) := ⟨_, rfl⟩
      by_cases h0 : z = 0
      · refine rest ?_ (fun G F p R K H => ?_) (fun X F p sz R Cc K q13 q14 q16 B V E H hs => ?_)
        · rw [C.sheets M.ht M.hv M.hq M.ev M.ep M.en M.hn M.eb M.hb M.es M.s1 M.s3 M.ek M.k12, ← hz, h0]
        · rw [SR.makes C H M.ht M.hv M.hq M.ev M.ep M.en M.hn M.eb M.hb M.es M.s1 M.s3 M.ek M.k12, ← hz, h0]
        · obtain ⟨p2, K2, b1, b2, b3, b4, b5⟩ := zl_expM C V E H hs M hz
          exact ⟨p2, K2, fun k a => by have := b1 k a; rw [h0, Nat.sub_zero, Nat.add_zero] at this; exact this, b2, b3 h0, b5⟩
      · obtain ⟨h30, hzs, hzf, hzk⟩ := zl_num hz h0
        have hzs1 : z * s ≠ 0 := by
          have h1 := M.s1
          have := Nat.mul_pos (show 0 < z by omega) (show 0 < s by omega)
          omega
        have hlen : (l ++ [(mk, zl_g m v q, z)]).length = l.length + 1 := by rw [List.length_append]; rfl
        have hsum : sumS (l ++ [(mk, zl_g m v q, z)]) = sumS l + z := sumS_snoc l _
        obtain ⟨l2, m2, a, c1, c2, c3, c4, c5⟩ := zl_teams day d (t + 1) _ _ (C.mkI M hz h0) (by omega)
        have kk : zl_K m (zl_mk m v q z n s w l.length (sumS l)) := zl_mkK M.hn M.en hzs1
        refine ⟨l2, m2, z + a, c1, kk.trans c2, fun k md hk => ?_, fun G F p R K k x H hk => ?_, fun X F p sz R Cc K q13 q14 q16 B k a0 V E H hs hk => ?_⟩
        · obtain ⟨k, rfl⟩ : ∃ k', k = k' + 1 := ⟨k - 1, by omega⟩
          rw [fX0_liveDay_L23, if_neg (by rw [C.nT]; exact hle), C.mkM M hz h0 md, pu_bs, show nI t + 1 = nI (t + 1) from pu_add t 1, show nI (z + a) = nI z + nI a from (pu_add z a).symm, ← Int32.add_assoc]
          exact c3 k (md + nI z) (by omega)
        · obtain ⟨k, rfl⟩ : ∃ k', k = k' + 1 := ⟨k - 1, by omega⟩
          obtain ⟨G2, F2, p2, R2, b1, b2, b3⟩ := SR.mk C H M hz h0
          rw [← hlen] at b2
          obtain ⟨G3, F3, p3, R3, d1, d2, d3⟩ := c4 G2 F2 p2 R2 K k (x + nI z) b2 (by omega)
          rw [b3 9 (by decide)] at d1
          exact ⟨G3, F3, p3, R3, by rw [b1, d1, Int32.add_assoc, pu_add], d2, fun i hi => (d3 i hi).trans (b3 i hi)⟩
        · obtain ⟨k, rfl⟩ : ∃ k', k = k' + 1 := ⟨k - 1, by omega⟩
          obtain ⟨p2, K2, b1, b2, b3, b4, b5⟩ := zl_expM C V E H hs M hz
          obtain ⟨p3, K3, d1, d2, d3, d4⟩ := c5 X F p2 sz R Cc K2 q13 q14 q16 B k (a0 + z) ⟨V.nT, V.nM, V.skill, V.vat, V.pair, V.size⟩ (b4 h0) b2 hs (by omega)
          rw [hsum, ← Nat.sub_sub] at d1
          exact ⟨p3, K3, by rw [b1, d1, Nat.add_assoc], d2, d3, fun r r1 r2 => (d4 r r1 r2).trans (b5 r r1 r2)⟩
