def ptsF (s : Int32) : Int32 := if s = 0 then 6 else if s = 1 then 3 else 0
theorem pb_points {s : Int32} : fX0_pointsOf s = some (ptsF s) := by
  unfold fX0_pointsOf ptsF
  rw [show (3 : Int32) = nI 3 from rfl]
  rcases pu_isB (a := s) (b := 3) (by omega) with ⟨n, hn, rfl, h, -⟩ | ⟨h, -⟩
  · rw [h, pu_bs, if_neg (by decide), pu_ck hn (by omega), pu_tn (by omega)]
    rcases (show n = 0 ∨ n = 1 ∨ n = 2 by omega) with rfl | rfl | rfl <;> rfl
  · rw [h, pu_bs, if_pos rfl]
    rw [pu_below] at h
    by_cases c0 : s = 0
    · subst c0; exact absurd h (by decide)
    · by_cases c1 : s = 1
      · subst c1; exact absurd h (by decide)
      · rw [if_neg c0, if_neg c1]
def grdF (x : Int32) : Nat := if x < 12 then (if x < 7 then 2 else 1) else 0
theorem grdF_le (x : Int32) : grdF x ≤ 2 := by unfold grdF; (repeat' split) <;> omega
theorem grdF_some (x : Int32) : (if x < 12 then (if x < 7 then (some 2 : Option Int32) else some 1) else some 0) = some (nI (grdF x)) := by
  unfold grdF
  (repeat' split) <;> rfl
theorem pb_grade {N : Nat} {nM pairs : Int32} {pulp beat sort vats mark size worn mo : FN} (hv : RV pulp beat sort vats) (hm : pz_RM N nM mark size worn pairs mo) {v p : Nat} (h : v < 4) (hp : p < N) :
    ∃ g, g ≤ 2 ∧ fX0_gradeOf beat sort nM worn (nI v) (nI p) = some (nI g) ∧ fX6_grade vats mo (nI v) (nI p) = some (nI g) := by
  have hN := hm.le
  have e1 := hv.e1 v h
  have e2 := hv.e2 v h
  refine ⟨grdF ((beat v / 10 + ptsF (sort v)) - worn p / 10), grdF_le _, ?_, ?_⟩
  · unfold fX0_gradeOf
    rw [pb_beatOf h, hm.n, pb_sortOf h, pu_bs, pu_bs, pb_points, pu_bs, pb_wornOf hp hN, pu_bs, grdF_some]
  · unfold fX6_grade fX6_grade_L35
    rw [show (2 : Int32) = nI 2 from rfl, pb_va (by omega), show fX6_va vats (nI v) 1 = some (vats (3 * v + 1)) from pb_va (w := 1) (by omega), pu_bs, pu_bs, pb_mo (by omega), pu_bs, pu_bs, pu_bs, e1, e2, hm.e2 p (by omega), show nI 2 = (2 : Int32) from rfl, grdF_some, grdF_some, grdF_some]
    unfold ptsF
    by_cases c0 : sort v = 0
    · rw [if_pos c0, if_pos c0]
    · rw [if_neg c0, if_neg c0]
      by_cases c1 : sort v = 1
      · rw [if_pos c1, if_pos c1]
      · rw [if_neg c1, if_neg c1]
def wtF (g : Nat) : Nat := if g = 0 then 12 else if g = 1 then 7 else 3
theorem wtF_le (g : Nat) : wtF g ≤ 12 := by unfold wtF; (repeat' split) <;> omega
theorem pb_worth {g : Nat} (h : g ≤ 2) : fX5_worthOf (nI g) = some (nI (wtF g)) ∧ fX6_worth (nI g) = some (nI (wtF g)) := by
  rcases (show g = 0 ∨ g = 1 ∨ g = 2 by omega) with rfl | rfl | rfl <;> exact ⟨by decide, by decide⟩
abbrev MS : Type := (((((Int32 × Int32) × Int32) × ((Int32 × Int32) × FN)) × (((FN × FN) × FN) × ((FN × Int32) × FN))) × ((((FN × FN) × Int32) × ((FN × FN) × FN)) × (((Int32 × Int32) × FN) × ((FN × FN) × FN))))
abbrev MS.day (x : MS) : Int32 := x.1.1.1.1.1
abbrev MS.coins (x : MS) : Int32 := x.1.1.1.1.2
abbrev MS.felts (x : MS) : Int32 := x.1.1.1.2
abbrev MS.made (x : MS) : Int32 := x.1.1.2.1.1
abbrev MS.worth (x : MS) : Int32 := x.1.1.2.1.2
abbrev MS.rags (x : MS) : FN := x.1.1.2.2
abbrev MS.water (x : MS) : FN := x.1.2.1.1.1
abbrev MS.pulp (x : MS) : FN := x.1.2.1.1.2
abbrev MS.beat (x : MS) : FN := x.1.2.1.2
abbrev MS.sort (x : MS) : FN := x.1.2.2.1.1
abbrev MS.nM (x : MS) : Int32 := x.1.2.2.1.2
abbrev MS.mark (x : MS) : FN := x.1.2.2.2
abbrev MS.size (x : MS) : FN := x.2.1.1.1.1
abbrev MS.worn (x : MS) : FN := x.2.1.1.1.2
abbrev MS.nT (x : MS) : Int32 := x.2.1.1.2
abbrev MS.skill (x : MS) : FN := x.2.1.2.1.1
abbrev MS.vat (x : MS) : FN := x.2.1.2.1.2
abbrev MS.pair (x : MS) : FN := x.2.1.2.2
abbrev MS.nQ (x : MS) : Int32 := x.2.2.1.1.1
abbrev MS.allS (x : MS) : Int32 := x.2.2.1.1.2
abbrev MS.pmark (x : MS) : FN := x.2.2.1.2
abbrev MS.pgrade (x : MS) : FN := x.2.2.2.1.1
abbrev MS.psheets (x : MS) : FN := x.2.2.2.1.2
abbrev MS.loft (x : MS) : FN := x.2.2.2.2
abbrev MS.of (day : Int32) (coins : Int32) (felts : Int32) (made : Int32) (worth : Int32) (rags : FN) (water : FN) (pulp : FN) (beat : FN) (sort : FN) (nM : Int32) (mark : FN) (size : FN) (worn : FN) (nT : Int32) (skill : FN) (vat : FN) (pair : FN) (nQ : Int32) (allS : Int32) (pmark : FN) (pgrade : FN) (psheets : FN) (loft : FN) : MS := (((((day, coins), felts), ((made, worth), rags)), (((water, pulp), beat), ((sort, nM), mark))), ((((size, worn), nT), ((skill, vat), pair)), (((nQ, allS), pmark), ((pgrade, psheets), loft))))
abbrev OS : Type := ((((Int32 × Int32) × FN) × (FN × FN)) × ((FN × FN) × (FN × FN)))
abbrev OS.pairs (x : OS) : Int32 := x.1.1.1.1
abbrev OS.teams (x : OS) : Int32 := x.1.1.1.2
abbrev OS.water (x : OS) : FN := x.1.1.2
abbrev OS.vats (x : OS) : FN := x.1.2.1
abbrev OS.moulds (x : OS) : FN := x.1.2.2
abbrev OS.crews (x : OS) : FN := x.2.1.1
abbrev OS.posts (x : OS) : FN := x.2.1.2
abbrev OS.loft (x : OS) : FN := x.2.2.1
abbrev OS.nums (x : OS) : FN := x.2.2.2
abbrev OS.of (pairs : Int32) (teams : Int32) (water : FN) (vats : FN) (moulds : FN) (crews : FN) (posts : FN) (loft : FN) (nums : FN) : OS := ((((pairs, teams), water), (vats, moulds)), ((crews, posts), (loft, nums)))
/-- what holds between calls: D days, N pairs, T teams, F felts, W the worth, l the posts -/
def PInv (D N T F W : Nat) (l : List pz_PT) (m : MS) (o : OS) : Prop := (m.day = nI D) ∧ (o.nums 0 = nI D) ∧ (o.nums 1 = m.coins) ∧ (o.nums 3 = m.made) ∧ (m.worth = nI W) ∧ (o.nums 4 = nI W) ∧ (∀ j, j < 3 → o.nums (6 + j) = m.rags j) ∧ (∀ j, j < 7 → o.water j = m.water j) ∧ (∀ j, j < 7 → ∃ q, q ≤ 9 ∧ m.water j = nI q) ∧ (∀ j, j < 30 → o.loft j = m.loft j) ∧ (RV m.pulp m.beat m.sort o.vats) ∧ (pz_RM N m.nM m.mark m.size m.worn o.pairs o.moulds) ∧ (RT N T m.nT m.skill m.vat m.pair o.teams o.crews) ∧ (RQ F l m.felts m.nQ m.allS m.pmark m.pgrade m.psheets o.posts o.nums)
theorem PInv.day {D N T F W : Nat} {l : List pz_PT} {m : MS} {o : OS} (H : PInv D N T F W l m o) : m.day = nI D := H.1
theorem PInv.day' {D N T F W : Nat} {l : List pz_PT} {m : MS} {o : OS} (H : PInv D N T F W l m o) : o.nums 0 = nI D := H.2.1
theorem PInv.coins {D N T F W : Nat} {l : List pz_PT} {m : MS} {o : OS} (H : PInv D N T F W l m o) : o.nums 1 = m.coins := H.2.2.1
theorem PInv.made {D N T F W : Nat} {l : List pz_PT} {m : MS} {o : OS} (H : PInv D N T F W l m o) : o.nums 3 = m.made := H.2.2.2.1
theorem PInv.wth {D N T F W : Nat} {l : List pz_PT} {m : MS} {o : OS} (H : PInv D N T F W l m o) : m.worth = nI W := H.2.2.2.2.1
theorem PInv.wth' {D N T F W : Nat} {l : List pz_PT} {m : MS} {o : OS} (H : PInv D N T F W l m o) : o.nums 4 = nI W := H.2.2.2.2.2.1
theorem PInv.rags {D N T F W : Nat} {l : List pz_PT} {m : MS} {o : OS} (H : PInv D N T F W l m o) : ∀ j, j < 3 → o.nums (6 + j) = m.rags j := H.2.2.2.2.2.2.1
theorem PInv.water {D N T F W : Nat} {l : List pz_PT} {m : MS} {o : OS} (H : PInv D N T F W l m o) : ∀ j, j < 7 → o.water j = m.water j := H.2.2.2.2.2.2.2.1
theorem PInv.wle {D N T F W : Nat} {l : List pz_PT} {m : MS} {o : OS} (H : PInv D N T F W l m o) : ∀ j, j < 7 → ∃ q, q ≤ 9 ∧ m.water j = nI q := H.2.2.2.2.2.2.2.2.1
theorem PInv.loft {D N T F W : Nat} {l : List pz_PT} {m : MS} {o : OS} (H : PInv D N T F W l m o) : ∀ j, j < 30 → o.loft j = m.loft j := H.2.2.2.2.2.2.2.2.2.1
theorem PInv.rv {D N T F W : Nat} {l : List pz_PT} {m : MS} {o : OS} (H : PInv D N T F W l m o) : RV m.pulp m.beat m.sort o.vats := H.2.2.2.2.2.2.2.2.2.2.1
theorem PInv.rm {D N T F W : Nat} {l : List pz_PT} {m : MS} {o : OS} (H : PInv D N T F W l m o) : pz_RM N m.nM m.mark m.size m.worn o.pairs o.moulds := H.2.2.2.2.2.2.2.2.2.2.2.1
theorem PInv.rt {D N T F W : Nat} {l : List pz_PT} {m : MS} {o : OS} (H : PInv D N T F W l m o) : RT N T m.nT m.skill m.vat m.pair o.teams o.crews := H.2.2.2.2.2.2.2.2.2.2.2.2.1
theorem PInv.rq {D N T F W : Nat} {l : List pz_PT} {m : MS} {o : OS} (H : PInv D N T F W l m o) : RQ F l m.felts m.nQ m.allS m.pmark m.pgrade m.psheets o.posts o.nums := H.2.2.2.2.2.2.2.2.2.2.2.2.2
theorem EncC.snoc {a b c : FN} {l : List pz_PT} (h : EncC a b c 0 l) (x : pz_PT) : EncC (upd a l.length (nI x.1)) (upd b l.length (nI x.2.1)) (upd c l.length (nI x.2.2)) 0 (l ++ [x]) := by
  intro k y hy
  rw [Nat.zero_add]
  by_cases e : k < l.length
  · rw [List.getElem?_append_left e] at hy
    have := h k y hy
    rw [Nat.zero_add] at this
    rw [pu_un (by omega), pu_un (by omega), pu_un (by omega)]
    exact this
  · rw [List.getElem?_append_right (by omega)] at hy
    have hk : k = l.length := by
      obtain ⟨hlt, -⟩ := List.getElem?_eq_some_iff.mp hy
      simp at hlt
      omega
    subst hk
    rw [Nat.sub_self] at hy
    cases hy
    exact ⟨pu_up, pu_up, pu_up⟩
theorem EncM.snoc {f g : FN} {l : List pz_PT} (h : EncM f 0 l) (x : pz_PT) (hg : ∀ j, j < 3 * l.length → g j = f j) (h0 : g (3 * l.length) = nI x.1) (h1 : g (3 * l.length + 1) = nI x.2.1) (h2 : g (3 * l.length + 2) = nI x.2.2) : EncM g 0 (l ++ [x]) := by
  intro k y hy
  rw [Nat.zero_add]
  by_cases e : k < l.length
  · rw [List.getElem?_append_left e] at hy
    have := h k y hy
    rw [Nat.zero_add] at this
    rw [hg _ (by omega), hg _ (by omega), hg _ (by omega)]
    exact this
  · rw [List.getElem?_append_right (by omega)] at hy
    have hk : k = l.length := by
      obtain ⟨hlt, -⟩ := List.getElem?_eq_some_iff.mp hy
      simp at hlt
      omega
    subst hk
    rw [Nat.sub_self] at hy
    cases hy
    exact ⟨h0, h1, h2⟩
theorem sumS_snoc (l : List pz_PT) (x : pz_PT) : sumS (l ++ [x]) = sumS l + x.2.2 := by
  induction l with
  | nil => exact Nat.add_comm _ _
  | cons y l ih => show y.2.2 + sumS (l ++ [x]) = y.2.2 + sumS l + x.2.2; rw [ih, Nat.add_assoc]
theorem pz_RM.wear {N : Nat} {nM pairs : Int32} {mark size worn mo : FN} (H : pz_RM N nM mark size worn pairs mo) {p k : Nat} (hp : p < N) (hk : k ≤ 50) : pz_RM N nM mark size (upd worn p (nI k)) pairs (upd mo (3 * p + 2) (nI k)) :=
  ⟨(H.n),
   (H.n'),
   (H.le),
   (fun q hq => by rw [pu_un (by omega)]; exact H.e0 q hq),
   (fun q hq => by rw [pu_un (by omega)]; exact H.e1 q hq),
   (fun q hq => by
    by_cases c : q = p
    · subst c; rw [pu_up, pu_up]
    · rw [pu_un (by omega), pu_un c]; exact H.e2 q hq),
   (H.mr),
   (H.sz),
   (fun q hq => by
    by_cases c : q = p
    · subst c; rw [pu_up]; exact ⟨k, hk, rfl⟩
    · rw [pu_un c]; exact H.wn q hq),
   (fun q hq hq5 => by rw [pu_un (by omega)]; exact H.w0 q hq hq5)⟩
theorem pb_add {Q S k : Nat} {pm pg ps : FN} {a b : Int32} (h : Q < 90) : fX2_add (nI Q) (nI S) pm pg ps a b (nI k) = some (nI (Q + 1), nI (S + k), upd pm Q a, upd pg Q b, upd ps Q (nI k)) := by
  unfold fX2_add
  rw [show (90 : Int32) = nI 90 from rfl, if_neg (by rw [pu_le (by omega) (by omega)]; omega), pu_ck h (by omega), pu_ck h (by omega), pu_ck h (by omega), pu_tn (by omega), pu_add, show (1 : Int32) = nI 1 from rfl, pu_add]
theorem pb_wear {N p k wn : Nat} {worn : FN} (hp : p < N) (hN : N ≤ 5) (hw : worn p = nI wn) (hwn : wn ≤ 50) (hk : k ≤ 100) : fX1_wearBySheets (nI N) worn (nI p) (nI k) = some (upd worn p (nI (min (wn + (k + 1) / 2) 50))) := by
  unfold fX1_wearBySheets
  rw [pb_has1 hp hN, pu_bs, if_neg (by decide), pu_ck (by omega) (by omega), pu_ck (by omega) (by omega), pu_tn (by omega), hw, show (1 : Int32) = nI 1 from rfl, show (2 : Int32) = nI 2 from rfl, show (50 : Int32) = nI 50 from rfl, pu_add, pu_div (by omega) (by omega), pu_add, pu_if (by omega) (by omega)]
abbrev MS.made' (m : MS) (z : Int32 × Int32 × FN × FN × FN × FN × Int32 × Int32 × FN × FN × FN) : MS := (MS.of m.day m.coins m.felts (z.1) (z.2.1) m.rags m.water (z.2.2.1) (z.2.2.2.1) (z.2.2.2.2.1) m.nM m.mark m.size (z.2.2.2.2.2.1) m.nT m.skill m.vat m.pair (z.2.2.2.2.2.2.1) (z.2.2.2.2.2.2.2.1) (z.2.2.2.2.2.2.2.2.1) (z.2.2.2.2.2.2.2.2.2.1) (z.2.2.2.2.2.2.2.2.2.2) m.loft)
abbrev OS.made' (o : OS) (z : Int32 × FN × FN × FN × FN) : OS := (OS.of o.pairs o.teams o.water (z.2.1) (z.2.2.1) o.crews (z.2.2.2.1) o.loft (z.2.2.2.2))
theorem PInv.make {D N T F W : Nat} {l : List pz_PT} {m : MS} {o : OS} (H : PInv D N T F W l m o) {t : Nat} (ht : t < T) :
    ∃ z z' W' l', fX0_makeSheets m.felts m.made m.worth m.pulp m.beat m.sort m.nM m.mark m.size m.worn m.nT m.skill m.vat m.pair m.nQ m.allS m.pmark m.pgrade m.psheets (nI t) = some z ∧ fX6_make o.vats o.moulds o.crews o.posts o.nums (nI t) = some z' ∧ PInv D N T F W' l' (m.made' z) (o.made' z') ∧ z.1 = m.made + z'.1 ∧ W ≤ W' ∧ W' ≤ W + 144 := by
  obtain ⟨k, h1, h2, h12, hF, hp⟩ := pb_makes H.rv H.rm H.rt H.rq ht
  have hTle := H.rt.le
  have hNle := H.rm.le
  have hFle := H.rq.le
  have hlen := H.rq.len
  have hls := len_sum l H.rq.ok
  unfold fX0_makeSheets fX6_make
  rw [h1, h2, pu_bs, pu_bs]
  simp only [pu_lit]
  by_cases c : 1 ≤ k
  · have c1 : nI 1 ≤ nI k := (pu_le (by omega) (by omega)).mpr c
    have c0 : ¬ nI k = nI 0 := fun q => by rw [pu_eq (by omega) (by omega)] at q; omega
    obtain ⟨v, p, n, s, hv, hpN, ev, ep, en, hn, es, hs1, hs3, hks⟩ := hp c
    obtain ⟨g, hg, g1, g2⟩ := pb_grade H.rv H.rm hv hpN
    obtain ⟨w1, w2⟩ := pb_worth hg
    obtain ⟨mk, hmk, emk⟩ := H.rm.mr p (by omega)
    obtain ⟨wn, hwn, ewn⟩ := H.rm.wn p (by omega)
    have hQ : l.length < 90 := by omega
    have hks' : k * s ≤ 40 := by omega
    have A : (if nI 1 ≤ nI k then (fX3_vatOf m.nT m.vat (nI t)).bind fun z3 => (fX3_pairOf m.nT m.pair (nI t)).bind fun z4 => (fX0_gradeOf m.beat m.sort m.nM m.worn z3 z4).bind fun z5 => (fX1_markOf m.nM m.mark z4).bind fun z6 => (fX2_add m.nQ m.allS m.pmark m.pgrade m.psheets z6 z5 (nI k)).bind fun z7 => (fX5_worthOf z5).bind fun z8 => (fX1_sizeOf m.nM m.size z4).bind fun z9 => (fX4_takeOut m.pulp m.beat m.sort z3 (nI k * z9)).bind fun z10 => (fX1_wearBySheets m.nM m.worn z4 (nI k)).bind fun z11 => some (m.made + nI k, m.worth + (nI k * z8), z10.1, z10.2.1, z10.2.2, z11, z7.1, z7.2.1, z7.2.2.1, z7.2.2.2.1, z7.2.2.2.2) else some (m.made, m.worth, m.pulp, m.beat, m.sort, m.worn, m.nQ, m.allS, m.pmark, m.pgrade, m.psheets))
        = some (m.made + nI k, nI (W + k * wtF g), (if n = k * s then upd m.pulp v 0 else upd m.pulp v (nI (n - k * s))), (if n = k * s then upd m.beat v 0 else m.beat), (if n = k * s then upd m.sort v (-1) else m.sort), upd m.worn p (nI (min (wn + (k + 1) / 2) 50)), nI (l.length + 1), nI (sumS l + k), upd m.pmark l.length (nI mk), upd m.pgrade l.length (nI g), upd m.psheets l.length (nI k)) := by
      rw [if_pos c1, H.rt.n, pb_vatOf ht hTle, pu_bs, pb_pairOf ht hTle, pu_bs, ev, ep, g1, pu_bs, H.rm.n, pb_markOf hpN hNle, pu_bs, emk, H.rq.n, H.rq.s, pb_add hQ, pu_bs, w1, pu_bs, pb_sizeOf hpN hNle, pu_bs, es, pu_mul, pb_takeOut hv en (by omega) hks, pu_bs, pb_wear hpN hNle ewn hwn (by omega), pu_bs, H.wth, pu_mul, pu_add]
      by_cases e : n = k * s
      · simp only [if_pos e]
      · simp only [if_neg e]
    have B : (if nI k = nI 0 then some (nI 0, o.vats, o.moulds, o.posts, o.nums) else (fX6_cr o.crews (nI t) (nI 1)).bind fun z3 => (fX6_cr o.crews (nI t) (nI 2)).bind fun z4 => (fX6_grade o.vats o.moulds z3 z4).bind fun z5 => (fX6_mo o.moulds z4 (nI 0)).bind fun z7 => ckC (nI 0) (nI 3 * (o.nums (nI 5).toNatClampNeg)) (nI 3) 3 270 ((fX6_va o.vats z3 (nI 0)).bind fun z15 => (fX6_mo o.moulds z4 (nI 1)).bind fun z16 => (fX6_va o.vats z3 (nI 1)).bind fun z17 => (fX6_va o.vats z3 (nI 2)).bind fun z18 => (fX6_let o.vats z3 (z15 - (nI k * z16)) z17 z18).bind fun z19 => (fX6_mo o.moulds z4 (nI 2)).bind fun z20 => ckI ((nI 3 * z4) + nI 2) 15 ((fX6_worth z5).bind fun z25 => some (nI k, z19, upd o.moulds ((nI 3 * z4) + nI 2).toNatClampNeg (if (z20 + ((nI k + nI 1) / nI 2)) < nI 50 then (z20 + ((nI k + nI 1) / nI 2)) else nI 50), va_cpy (upd (upd (upd (fun _ => nI 0) (nI 0).toNatClampNeg z7) (nI 1).toNatClampNeg z5) (nI 2).toNatClampNeg (nI k)) o.posts (nI 0).toNatClampNeg (nI 3 * (o.nums (nI 5).toNatClampNeg)).toNatClampNeg (nI 3).toNatClampNeg, upd (upd (upd o.nums (nI 5).toNatClampNeg ((o.nums (nI 5).toNatClampNeg) + nI 1)) (nI 3).toNatClampNeg (((upd o.nums (nI 5).toNatClampNeg ((o.nums (nI 5).toNatClampNeg) + nI 1)) (nI 3).toNatClampNeg) + nI k)) (nI 4).toNatClampNeg (((upd (upd o.nums (nI 5).toNatClampNeg ((o.nums (nI 5).toNatClampNeg) + nI 1)) (nI 3).toNatClampNeg (((upd o.nums (nI 5).toNatClampNeg ((o.nums (nI 5).toNatClampNeg) + nI 1)) (nI 3).toNatClampNeg) + nI k)) (nI 4).toNatClampNeg) + (nI k * z25))))))
        = some (nI k, (if n = k * s then letF o.vats v (nI 0) 0 (-1) else letF o.vats v (nI (n - k * s)) (m.beat v) (m.sort v)), upd o.moulds (3 * p + 2) (nI (min (wn + (k + 1) / 2) 50)), va_cpy (upd (upd (upd (fun _ => nI 0) 0 (nI mk)) 1 (nI g)) 2 (nI k)) o.posts 0 (3 * l.length) 3, upd (upd (upd o.nums 5 (nI (l.length + 1))) 3 (m.made + nI k)) 4 (nI (W + k * wtF g))) := by
      have d5 : (nI 5).toNatClampNeg = 5 := pu_tn (by omega)
      have d4 : (nI 4).toNatClampNeg = 4 := pu_tn (by omega)
      have d3 : (nI 3).toNatClampNeg = 3 := pu_tn (by omega)
      have d2 : (nI 2).toNatClampNeg = 2 := pu_tn (by omega)
      have d1 : (nI 1).toNatClampNeg = 1 := pu_tn (by omega)
      have d0 : (nI 0).toNatClampNeg = 0 := pu_tn (by omega)
      rw [if_neg c0, pb_cr (by omega), pu_bs, pb_cr (by omega), pu_bs, H.rt.e1 t ht, H.rt.e2 t ht, ev, ep, g2, pu_bs, pb_mo (by omega), pu_bs, Nat.add_zero, H.rm.e0 p (by omega), emk, d5, d4, d3, d2, d1, d0, H.rq.n', pu_mul]
      have cc : ¬ nI 0 < 0 ∧ ¬ nI (3 * l.length) < 0 ∧ ¬ nI 3 < 0 ∧ (nI 0).toNatClampNeg + (nI 3).toNatClampNeg ≤ 3 ∧ (nI (3 * l.length)).toNatClampNeg + (nI 3).toNatClampNeg ≤ 270 := by
        rw [d0, d3, pu_tn (by omega)]
        refine ⟨by decide, ?_, by decide, by omega, by omega⟩
        rw [show (0 : Int32) = nI 0 from rfl, pu_lt (by omega) (by omega)]; omega
      unfold ckC
      rw [if_pos cc, pb_va (by omega), pu_bs, pb_mo (by omega), pu_bs, pb_va (by omega), pu_bs, pb_va (by omega), pu_bs, Nat.add_zero, H.rv.e0 v hv, H.rv.e1 v hv, H.rv.e2 v hv, en, H.rm.e1 p (by omega), es, pu_mul, pu_sub hks, pb_let hv (by omega), pu_bs, pb_mo (by omega), pu_bs, H.rm.e2 p (by omega), ewn, pu_mul, pu_add, pu_ck (by omega) (by omega), w2, pu_bs, pu_tn (by omega), pu_tn (by omega), pu_add, pu_div (by omega) (by omega), pu_add, pu_if (by omega) (by omega), pu_add, pu_un (by decide), pu_un (by decide), pu_un (by decide), H.made, H.wth', pu_mul, pu_add]
      by_cases e : n = k * s
      · rw [if_pos (by omega), if_pos (by omega), if_pos e, e, Nat.sub_self]
      · rw [if_neg (by omega), if_neg (by omega), if_neg e]
    refine ⟨_, _, W + k * wtF g, l ++ [(mk, g, k)], A, B, ?_, rfl, ?_⟩
    · refine ⟨(H.day), ?_, ?_, ?_, (rfl), ?_, ?_, (H.water), (H.wle), (H.loft), ?_, (H.rm.wear hpN (by omega)), (H.rt), ?_⟩
      · show upd (upd (upd o.nums 5 (nI (l.length + 1))) 3 (m.made + nI k)) 4 (nI (W + k * wtF g)) 0 = nI D
        rw [pu_un (by decide), pu_un (by decide), pu_un (by decide)]; exact H.day'
      · show upd (upd (upd o.nums 5 (nI (l.length + 1))) 3 (m.made + nI k)) 4 (nI (W + k * wtF g)) 1 = m.coins
        rw [pu_un (by decide), pu_un (by decide), pu_un (by decide)]; exact H.coins
      · show upd (upd (upd o.nums 5 (nI (l.length + 1))) 3 (m.made + nI k)) 4 (nI (W + k * wtF g)) 3 = m.made + nI k
        rw [pu_un (by decide), pu_up]
      · show upd (upd (upd o.nums 5 (nI (l.length + 1))) 3 (m.made + nI k)) 4 (nI (W + k * wtF g)) 4 = _
        rw [pu_up]
      · intro j hj
        show upd (upd (upd o.nums 5 (nI (l.length + 1))) 3 (m.made + nI k)) 4 (nI (W + k * wtF g)) (6 + j) = _
        rw [pu_un (by omega), pu_un (by omega), pu_un (by omega)]; exact H.rags j hj
      · show RV (if n = k * s then upd m.pulp v 0 else upd m.pulp v (nI (n - k * s))) (if n = k * s then upd m.beat v 0 else m.beat) (if n = k * s then upd m.sort v (-1) else m.sort) (if n = k * s then letF o.vats v (nI 0) 0 (-1) else letF o.vats v (nI (n - k * s)) (m.beat v) (m.sort v))
        by_cases e : n = k * s
        · rw [if_pos e, if_pos e, if_pos e, if_pos e]
          exact H.rv.set (n := 0) (k := 0) (by omega) (by omega) (-1)
        · rw [if_neg e, if_neg e, if_neg e, if_neg e]
          obtain ⟨_, _, _, h⟩ := H.rv.letp (v := v) (n := n - k * s) hv (by omega)
          exact h
      · have hl : (l ++ [(mk, g, k)]).length = l.length + 1 := by simp
        refine ⟨(H.rq.f), ?_, (H.rq.le), ?_, ?_, ?_, ?_, ?_, (H.rq.ec.snoc (mk, g, k)), (H.rq.em.snoc (mk, g, k) ?_ ?_ ?_ ?_)⟩
        · show upd (upd (upd o.nums 5 (nI (l.length + 1))) 3 (m.made + nI k)) 4 (nI (W + k * wtF g)) 2 = _
          rw [pu_un (by decide), pu_un (by decide), pu_un (by decide)]; exact H.rq.f'
        · rw [hl]
        · show upd (upd (upd o.nums 5 (nI (l.length + 1))) 3 (m.made + nI k)) 4 (nI (W + k * wtF g)) 5 = _
          rw [hl, pu_un (by decide), pu_un (by decide), pu_up]
        · rw [sumS_snoc]
        · rw [sumS_snoc]; show sumS l + k ≤ F; omega
        · intro x hx
          rcases List.mem_append.mp hx with hx | hx
          · exact H.rq.ok x hx
          · rw [List.mem_singleton.mp hx]; exact ⟨hmk, hg, c⟩
        · intro j hj
          show va_cpy (upd (upd (upd (fun _ => nI 0) 0 (nI mk)) 1 (nI g)) 2 (nI k)) o.posts 0 (3 * l.length) 3 j = o.posts j
          unfold va_cpy
          rw [if_neg (by omega)]
        · show va_cpy (upd (upd (upd (fun _ => nI 0) 0 (nI mk)) 1 (nI g)) 2 (nI k)) o.posts 0 (3 * l.length) 3 (3 * l.length) = nI mk
          unfold va_cpy
          rw [if_pos (by omega), Nat.sub_self, pu_un (by decide), pu_un (by decide), pu_up]
        · show va_cpy (upd (upd (upd (fun _ => nI 0) 0 (nI mk)) 1 (nI g)) 2 (nI k)) o.posts 0 (3 * l.length) 3 (3 * l.length + 1) = nI g
          unfold va_cpy
          rw [if_pos (by omega), show 0 + (3 * l.length + 1 - 3 * l.length) = 1 by omega, pu_un (by decide), pu_up]
        · show va_cpy (upd (upd (upd (fun _ => nI 0) 0 (nI mk)) 1 (nI g)) 2 (nI k)) o.posts 0 (3 * l.length) 3 (3 * l.length + 2) = nI k
          unfold va_cpy
          rw [if_pos (by omega), show 0 + (3 * l.length + 2 - 3 * l.length) = 2 by omega, pu_up]
    · have hw : k * wtF g ≤ 12 * 12 := Nat.mul_le_mul h12 (wtF_le g)
      omega
  · have hk : k = 0 := by omega
    subst hk
    have q0 : ¬ nI 1 ≤ nI 0 := by decide
    have q1 : nI 0 = nI 0 := rfl
    refine ⟨_, _, W, l, if_neg q0, if_pos q1, H, ?_, by omega⟩
    show m.made = m.made + nI 0
    rw [← show (0 : Int32) = nI 0 from rfl, Int32.add_zero]
