theorem pb_holders {N T : Nat} {nT teams : Int32} {skill vat pair cr : FN} (H : RT N T nT skill vat pair teams cr) (x : Int32) : ∀ (d j k k' : Nat), j + d = T → d < k → d < k' →
    ∃ r, fX3_holderOf_L9 nT pair x k (nI j) = some r ∧ fX6_holder_L2 teams cr x k' (nI j) = some r ∧ (r = -nI 1 ∨ ∃ t, t < T ∧ r = nI t)
  | 0, j, k + 1, k' + 1, hj, _, _ => by
    have hT := H.le
    have ct : nI T ≤ nI j := by rw [pu_le (by omega) (by omega)]; omega
    refine ⟨-nI 1, ?_, ?_, .inl rfl⟩
    · unfold fX3_holderOf_L9
      rw [H.n, if_pos ct]; rfl
    · unfold fX6_holder_L2
      rw [H.n', if_pos ct]; rfl
  | d + 1, j, k + 1, k' + 1, hj, hk, hk' => by
    have hT := H.le
    have ct : ¬ nI T ≤ nI j := by rw [pu_le (by omega) (by omega)]; omega
    obtain ⟨r, e1, e2, e3⟩ := pb_holders H x d (j + 1) k k' (by omega) (by omega) (by omega)
    unfold fX3_holderOf_L9 fX6_holder_L2
    rw [H.n] at e1
    rw [H.n'] at e2
    rw [H.n, H.n', if_neg ct, if_neg ct, pb_pairOf (by omega) hT, show (2 : Int32) = nI 2 from rfl, pb_cr (by omega), pu_bs, pu_bs, H.e2 j (by omega), show (1 : Int32) = nI 1 from rfl, pu_add]
    by_cases c : pair j = x
    · rw [if_pos c, if_pos c]
      exact ⟨nI j, rfl, rfl, .inr ⟨j, by omega, rfl⟩⟩
    · rw [if_neg c, if_neg c]
      exact ⟨r, e1, e2, e3⟩
theorem pb_holder {N T p : Nat} {nT teams : Int32} {skill vat pair cr : FN} (H : RT N T nT skill vat pair teams cr) (hp : p < 2147483648) :
    ∃ r, fX3_holderOf nT pair (nI p) = some r ∧ fX6_holder teams cr (nI p) = some r ∧ (r = -nI 1 ∨ ∃ t, t < T ∧ r = nI t) := by
  have hT := H.le
  obtain ⟨r, e1, e2, e3⟩ := pb_holders H (nI p) T 0 300 300 (by omega) (by omega) (by omega)
  refine ⟨r, ?_, e2, e3⟩
  unfold fX3_holderOf
  have c : ¬ nI p = -1 := fun h => (pu_em hp).mp h
  rw [if_neg c]
  exact e1
theorem PInv.tellPair {D N T F W p w : Nat} {l : List pz_PT} {m : MS} {o : OS} (H : PInv D N T F W l m o) (hp : p < N) (hw : w < 4) :
    ∃ r, fX0_tellPair m.nM m.mark m.size m.worn m.nT m.pair (nI p) (nI w) = some r ∧ fX6_pairTold o.teams o.moulds o.crews (nI p) (nI w) = some r := by
  have hN := H.rm.le
  obtain ⟨r, e1, e2, -⟩ := pb_holder H.rt (p := p) (by omega)
  rcases (show w = 0 ∨ w = 1 ∨ w = 2 ∨ w = 3 by omega) with rfl | rfl | rfl | rfl
  · refine ⟨m.mark p, ?_, ?_⟩
    · show (fX1_markOf m.nM m.mark (nI p)).bind (fun z4 => some z4) = _
      rw [H.rm.n, pb_markOf hp hN]; rfl
    · show (fX6_mo o.moulds (nI p) (nI 0)).bind (fun z3 => some z3) = _
      rw [pb_mo (by omega), Nat.add_zero, H.rm.e0 p (by omega)]; rfl
  · refine ⟨m.size p, ?_, ?_⟩
    · show (fX1_sizeOf m.nM m.size (nI p)).bind (fun z4 => some z4) = _
      rw [H.rm.n, pb_sizeOf hp hN]; rfl
    · show (fX6_mo o.moulds (nI p) (nI 1)).bind (fun z3 => some z3) = _
      rw [pb_mo (by omega), H.rm.e1 p (by omega)]; rfl
  · refine ⟨m.worn p, ?_, ?_⟩
    · show (fX1_wornOf m.nM m.worn (nI p)).bind (fun z4 => some z4) = _
      rw [H.rm.n, pb_wornOf hp hN]; rfl
    · show (fX6_mo o.moulds (nI p) (nI 2)).bind (fun z3 => some z3) = _
      rw [pb_mo (by omega), H.rm.e2 p (by omega)]; rfl
  · refine ⟨r, ?_, ?_⟩
    · show (fX3_holderOf m.nT m.pair (nI p)).bind (fun z4 => some z4) = _
      rw [e1]; rfl
    · show (fX6_holder o.teams o.crews (nI p)).bind (fun z3 => some z3) = _
      rw [e2]; rfl
theorem PInv.tellTeam {D N T F W t w : Nat} {l : List pz_PT} {m : MS} {o : OS} (H : PInv D N T F W l m o) (ht : t < T) (hw : w < 4) :
    ∃ r, fX0_tellTeam m.felts m.pulp m.beat m.nM m.size m.nT m.skill m.vat m.pair m.allS (nI t) (nI w) = some r ∧ fX6_teamTold o.vats o.moulds o.crews o.posts o.nums (nI t) (nI w) = some r := by
  have hT := H.rt.le
  obtain ⟨z, e1, e2, -⟩ := pb_makes H.rv H.rm H.rt H.rq ht
  rcases (show w = 0 ∨ w = 1 ∨ w = 2 ∨ w = 3 by omega) with rfl | rfl | rfl | rfl
  · refine ⟨m.skill t, ?_, ?_⟩
    · show (fX3_skillOf m.nT m.skill (nI t)).bind (fun z4 => some z4) = _
      rw [H.rt.n, pb_skillOf ht hT]; rfl
    · show (fX6_cr o.crews (nI t) (nI 0)).bind (fun z3 => some z3) = _
      rw [pb_cr (by omega), Nat.add_zero, H.rt.e0 t ht]; rfl
  · refine ⟨m.vat t, ?_, ?_⟩
    · show (fX3_vatOf m.nT m.vat (nI t)).bind (fun z4 => some z4) = _
      rw [H.rt.n, pb_vatOf ht hT]; rfl
    · show (fX6_cr o.crews (nI t) (nI 1)).bind (fun z3 => some z3) = _
      rw [pb_cr (by omega), H.rt.e1 t ht]; rfl
  · refine ⟨m.pair t, ?_, ?_⟩
    · show (fX3_pairOf m.nT m.pair (nI t)).bind (fun z4 => some z4) = _
      rw [H.rt.n, pb_pairOf ht hT]; rfl
    · show (fX6_cr o.crews (nI t) (nI 2)).bind (fun z3 => some z3) = _
      rw [pb_cr (by omega), H.rt.e2 t ht]; rfl
  · refine ⟨nI z, ?_, ?_⟩
    · show (fX0_sheetsOf m.felts m.pulp m.beat m.nM m.size m.nT m.skill m.vat m.pair m.allS (nI t)).bind (fun z4 => some z4) = _
      rw [e1]; rfl
    · show (fX6_makes o.vats o.moulds o.crews o.posts o.nums (nI t)).bind (fun z3 => some z3) = _
      rw [e2]; rfl
abbrev T24 : Type := Int32 × Int32 × Int32 × Int32 × Int32 × FN × FN × FN × FN × FN × Int32 × FN × FN × FN × Int32 × FN × FN × FN × Int32 × Int32 × FN × FN × FN × FN
theorem PInv.ripes {N T F v q : Nat} (hv : v < 4) (th : Int32) (r9 r10 r11 r12 r13 r14 : FN) : ∀ (d j k k' D W : Nat) (l : List pz_PT) (m : MS) (o : OS), PInv D N T F W l m o → D + d < 1000000 → j + d = 61 → d < k → d < k' →
    ∃ (r : Int32) (y : T24), fX5_ripe_L50 (nI v) (nI q) k m.day m.coins m.felts m.made m.worth m.rags m.water m.pulp m.beat m.sort m.nM m.mark m.size m.worn m.nT m.skill m.vat m.pair m.nQ m.allS m.pmark m.pgrade m.psheets m.loft (nI j) = some (.inl (r, y)) ∧ fX6_ripe_L42 o.teams o.water o.crews (nI v) (nI q) k' th o.vats o.moulds o.posts o.loft o.nums (nI j) r9 r10 r11 r12 r13 r14 = some (r, th, r9, r10, r11, r12, r13, r14)
  | 0, j, k + 1, k' + 1, D, W, l, m, o, H, _, hj, _, _ => by
    have ct : nI 60 < nI j := by rw [pu_lt (by omega) (by omega)]; omega
    have cl : ¬ nI j ≤ nI 60 := by rw [pu_le (by omega) (by omega)]; omega
    refine ⟨-1, (m.day, m.coins, m.felts, m.made, m.worth, m.rags, m.water, m.pulp, m.beat, m.sort, m.nM, m.mark, m.size, m.worn, m.nT, m.skill, m.vat, m.pair, m.nQ, m.allS, m.pmark, m.pgrade, m.psheets, m.loft), ?_, ?_⟩
    · unfold fX5_ripe_L50
      rw [show (60 : Int32) = nI 60 from rfl, if_pos ct]
    · unfold fX6_ripe_L42
      rw [show (60 : Int32) = nI 60 from rfl, if_pos ct, if_neg cl]
  | d + 1, j, k + 1, k' + 1, D, W, l, m, o, H, hD, hj, hk, hk' => by
    have ct : ¬ nI 60 < nI j := by rw [pu_lt (by omega) (by omega)]; omega
    have cl : nI j ≤ nI 60 := by rw [pu_le (by omega) (by omega)]; omega
    have e := H.rv.e1 v hv
    unfold fX5_ripe_L50 fX6_ripe_L42
    rw [show (60 : Int32) = nI 60 from rfl, if_neg ct, if_neg ct, pb_beatOf hv, show (1 : Int32) = nI 1 from rfl, pb_va (by omega), pu_bs, pu_bs, e]
    by_cases c : m.beat v < nI q
    · have c' : ¬ nI q ≤ m.beat v := by rw [Int32.le_iff_toInt_le]; rw [Int32.lt_iff_toInt_lt] at c; omega
      rw [if_pos c, if_neg c']
      obtain ⟨z, z', W', l', e1, e2, e3, e4, e5⟩ := H.dayOn (by omega)
      obtain ⟨r, y, g1, g2⟩ := PInv.ripes (q := q) hv th r9 r10 r11 r12 r13 r14 d (j + 1) k k' (D + 1) W' l' (m.dayed z) (o.dayed z') e3 (by omega) (by omega) (by omega) (by omega)
      rw [e1, e2, pu_bs, pu_bs, pu_add]
      exact ⟨r, y, g1, g2⟩
    · have c' : nI q ≤ m.beat v := by rw [Int32.le_iff_toInt_le]; rw [Int32.lt_iff_toInt_lt] at c; omega
      rw [if_neg c, if_pos c', if_pos cl]
      exact ⟨nI j, (m.day, m.coins, m.felts, m.made, m.worth, m.rags, m.water, m.pulp, m.beat, m.sort, m.nM, m.mark, m.size, m.worn, m.nT, m.skill, m.vat, m.pair, m.nQ, m.allS, m.pmark, m.pgrade, m.psheets, m.loft), rfl, rfl⟩
theorem RT.at {N T t : Nat} {nT teams : Int32} {skill vat pair cr : FN} (H : RT N T nT skill vat pair teams cr) {x : Int32} (hx : x = -nI 1 ∨ ∃ v, v < 4 ∧ x = nI v) : RT N T nT skill (upd vat t x) pair teams (upd cr (3 * t + 1) x) :=
  ⟨(H.n),
   (H.n'),
   (H.le),
   (fun s hs => by rw [pu_un (by omega)]; exact H.e0 s hs),
   (fun s hs => by
    by_cases c : s = t
    · subst c; rw [pu_up, pu_up]
    · rw [pu_un (by omega), pu_un c]; exact H.e1 s hs),
   (fun s hs => by rw [pu_un (by omega)]; exact H.e2 s hs),
   (H.sk),
   (fun s hs => by
    by_cases c : s = t
    · subst c; rw [pu_up]; exact hx
    · rw [pu_un c]; exact H.vt s hs),
   (H.pr)⟩
theorem RT.hs {N T t : Nat} {nT teams : Int32} {skill vat pair cr : FN} (H : RT N T nT skill vat pair teams cr) {x : Int32} (hx : x = -nI 1 ∨ ∃ p, p < N ∧ x = nI p) : RT N T nT skill vat (upd pair t x) teams (upd cr (3 * t + 2) x) :=
  ⟨(H.n),
   (H.n'),
   (H.le),
   (fun s hs => by rw [pu_un (by omega)]; exact H.e0 s hs),
   (fun s hs => by rw [pu_un (by omega)]; exact H.e1 s hs),
   (fun s hs => by
    by_cases c : s = t
    · subst c; rw [pu_up, pu_up]
    · rw [pu_un (by omega), pu_un c]; exact H.e2 s hs),
   (H.sk),
   (H.vt),
   (fun s hs => by
    by_cases c : s = t
    · subst c; rw [pu_up]; exact hx
    · rw [pu_un c]; exact H.pr s hs)⟩
theorem pb_send {T t : Nat} {vat pair : FN} {x y : Int32} (ht : t < T) (hT : T ≤ 3) : fX3_send (nI T) vat pair (nI t) x y = some (upd vat t x, upd pair t y) := by
  unfold fX3_send
  rw [pb_has3 ht hT, pu_bs, if_neg (by decide), pu_ck (by omega) (by omega), pu_ck (by omega) (by omega), pu_tn (by omega)]
theorem PInv.wdw {D N T F W t v : Nat} {l : List pz_PT} {m : MS} {o : OS} (H : PInv D N T F W l m o) (hD : D < 1000000) (hW : W < 2000000000) (ht : t < T) (hv : v < 4) :
    ∃ A z' y, A ≤ 432 ∧ fX5_worthOfDayWith m.day m.coins m.felts m.made m.worth m.rags m.water m.pulp m.beat m.sort m.nM m.mark m.size m.worn m.nT m.skill m.vat m.pair m.nQ m.allS m.pmark m.pgrade m.psheets m.loft (nI t) (nI v) (m.pair t) = some (nI A, (y : T24)) ∧ fX6_dayOn o.teams o.water o.vats o.moulds (upd o.crews (3 * t + 1) (nI v)) o.posts o.loft o.nums = some z' ∧ z'.2.2.2.2.2 4 = nI (W + A) := by
  have H' : PInv D N T F W l (MS.of m.day m.coins m.felts m.made m.worth m.rags m.water m.pulp m.beat m.sort m.nM m.mark m.size m.worn m.nT m.skill (upd m.vat t (nI v)) m.pair m.nQ m.allS m.pmark m.pgrade m.psheets m.loft) (OS.of o.pairs o.teams o.water o.vats o.moulds (upd o.crews (3 * t + 1) (nI v)) o.posts o.loft o.nums) := ⟨H.day, H.day', H.coins, H.made, H.wth, H.wth', H.rags, H.water, H.wle, H.loft, H.rv, H.rm, (H.rt.at (.inr ⟨v, hv, rfl⟩)), H.rq⟩
  obtain ⟨z, z', W', l', e1, e2, e3, e4, e5⟩ := H'.dayOn hD
  have hw : z.2.2.1 = nI W' := e3.wth
  have hT := H.rt.le
  refine ⟨W' - W, z', (z.1, m.coins, m.felts, z.2.1, z.2.2.1, m.rags, m.water, z.2.2.2.1, z.2.2.2.2.1, z.2.2.2.2.2.1, m.nM, m.mark, m.size, z.2.2.2.2.2.2.1, m.nT, m.skill, upd m.vat t (nI v), m.pair, z.2.2.2.2.2.2.2.1, z.2.2.2.2.2.2.2.2.1, z.2.2.2.2.2.2.2.2.2.1, z.2.2.2.2.2.2.2.2.2.2.1, z.2.2.2.2.2.2.2.2.2.2.2.1, z.2.2.2.2.2.2.2.2.2.2.2.2), by omega, ?_, e2, ?_⟩
  · show (fX3_send m.nT m.vat m.pair (nI t) (nI v) (m.pair t)).bind (fun z2 => (fX0_liveDay m.day m.felts m.made m.worth m.water m.pulp m.beat m.sort m.nM m.mark m.size m.worn m.nT m.skill z2.1 z2.2 m.nQ m.allS m.pmark m.pgrade m.psheets m.loft).bind fun z3 => some (z3.2.2.1 - m.worth, z3.1, m.coins, m.felts, z3.2.1, z3.2.2.1, m.rags, m.water, z3.2.2.2.1, z3.2.2.2.2.1, z3.2.2.2.2.2.1, m.nM, m.mark, m.size, z3.2.2.2.2.2.2.1, m.nT, m.skill, z2.1, z2.2, z3.2.2.2.2.2.2.2.1, z3.2.2.2.2.2.2.2.2.1, z3.2.2.2.2.2.2.2.2.2.1, z3.2.2.2.2.2.2.2.2.2.2.1, z3.2.2.2.2.2.2.2.2.2.2.2.1, z3.2.2.2.2.2.2.2.2.2.2.2.2)) = _
    rw [H.rt.n, pb_send ht hT, pu_bs, pu_self, ← H.rt.n]
    have e1' : fX0_liveDay m.day m.felts m.made m.worth m.water m.pulp m.beat m.sort m.nM m.mark m.size m.worn m.nT m.skill (upd m.vat t (nI v)) m.pair m.nQ m.allS m.pmark m.pgrade m.psheets m.loft = some z := e1
    show (fX0_liveDay m.day m.felts m.made m.worth m.water m.pulp m.beat m.sort m.nM m.mark m.size m.worn m.nT m.skill (upd m.vat t (nI v)) m.pair m.nQ m.allS m.pmark m.pgrade m.psheets m.loft).bind _ = _
    rw [e1', pu_bs, H.wth, hw, pu_sub (by omega)]
  · rw [show W + (W' - W) = W' by omega]
    exact e3.wth'
abbrev MS.ofT (y : T24) : MS := (MS.of (y.1) (y.2.1) (y.2.2.1) (y.2.2.2.1) (y.2.2.2.2.1) (y.2.2.2.2.2.1) (y.2.2.2.2.2.2.1) (y.2.2.2.2.2.2.2.1) (y.2.2.2.2.2.2.2.2.1) (y.2.2.2.2.2.2.2.2.2.1) (y.2.2.2.2.2.2.2.2.2.2.1) (y.2.2.2.2.2.2.2.2.2.2.2.1) (y.2.2.2.2.2.2.2.2.2.2.2.2.1) (y.2.2.2.2.2.2.2.2.2.2.2.2.2.1) (y.2.2.2.2.2.2.2.2.2.2.2.2.2.2.1) (y.2.2.2.2.2.2.2.2.2.2.2.2.2.2.2.1) (y.2.2.2.2.2.2.2.2.2.2.2.2.2.2.2.2.1) (y.2.2.2.2.2.2.2.2.2.2.2.2.2.2.2.2.2.1) (y.2.2.2.2.2.2.2.2.2.2.2.2.2.2.2.2.2.2.1) (y.2.2.2.2.2.2.2.2.2.2.2.2.2.2.2.2.2.2.2.1) (y.2.2.2.2.2.2.2.2.2.2.2.2.2.2.2.2.2.2.2.2.1) (y.2.2.2.2.2.2.2.2.2.2.2.2.2.2.2.2.2.2.2.2.2.1) (y.2.2.2.2.2.2.2.2.2.2.2.2.2.2.2.2.2.2.2.2.2.2.1) (y.2.2.2.2.2.2.2.2.2.2.2.2.2.2.2.2.2.2.2.2.2.2.2))
theorem PInv.advises {D N T F W t : Nat} {l : List pz_PT} {m : MS} {o : OS} (H : PInv D N T F W l m o) (hD : D < 1000000) (hW : W < 2000000000) (ht : t < T) (th : Int32) : ∀ (d j k k' A b : Nat) (τ : MS), j + d = 4 → d < k → d < k' → A ≤ 432 →
    ∃ (r : Int32) (y : T24), fX5_advise_L57 m.day m.coins m.felts m.made m.worth m.rags m.water m.pulp m.beat m.sort m.nM m.mark m.size m.worn m.nT m.skill m.vat m.pair m.nQ m.allS m.pmark m.pgrade m.psheets m.loft (nI t) k τ.day τ.coins τ.felts τ.made τ.worth τ.rags τ.water τ.pulp τ.beat τ.sort τ.nM τ.mark τ.size τ.worn τ.nT τ.skill τ.vat τ.pair τ.nQ τ.allS τ.pmark τ.pgrade τ.psheets τ.loft (m.pair t) (nI b) (nI A) (nI j) = some (.inl (r, y)) ∧ fX6_advise_L44 o.teams o.water (nI t) k' th o.vats o.moulds o.crews o.posts o.loft o.nums (nI b) (nI (W + A)) (nI j) o.vats o.moulds o.crews o.posts o.loft o.nums = some (r, th, o.vats, o.moulds, o.crews, o.posts, o.loft, o.nums)
  | 0, j, k + 1, k' + 1, A, b, τ, hj, _, _, hA => by
    have ct : nI 4 ≤ nI j := by rw [pu_le (by omega) (by omega)]; omega
    refine ⟨nI b, (τ.day, τ.coins, τ.felts, τ.made, τ.worth, τ.rags, τ.water, τ.pulp, τ.beat, τ.sort, τ.nM, τ.mark, τ.size, τ.worn, τ.nT, τ.skill, τ.vat, τ.pair, τ.nQ, τ.allS, τ.pmark, τ.pgrade, τ.psheets, τ.loft), ?_, ?_⟩
    · unfold fX5_advise_L57
      rw [show (4 : Int32) = nI 4 from rfl, if_pos ct]
    · unfold fX6_advise_L44
      rw [show (4 : Int32) = nI 4 from rfl, if_pos ct]
  | d + 1, j, k + 1, k' + 1, A, b, τ, hj, hk, hk', hA => by
    have hT := H.rt.le
    have ct : ¬ nI 4 ≤ nI j := by rw [pu_le (by omega) (by omega)]; omega
    obtain ⟨B, z', y, hB, e1, e2, e3⟩ := H.wdw hD hW ht (v := j) (by omega)
    unfold fX5_advise_L57 fX6_advise_L44
    rw [pc4, show (4 : Int32) = nI 4 from rfl, if_neg ct, if_neg ct, e1, show (3 : Int32) = nI 3 from rfl, show (1 : Int32) = nI 1 from rfl, pu_mul, pu_add, pu_add, pu_ck (by omega) (by omega), pu_tn (by omega), e2]
    simp only [pu_bs]
    rw [e3]
    by_cases c : B ≤ A
    · have c1 : nI B ≤ nI A := (pu_le (by omega) (by omega)).mpr c
      have c2 : ¬ nI (W + A) < nI (W + B) := by rw [pu_lt (by omega) (by omega)]; omega
      rw [if_pos c1, if_neg c2]
      exact PInv.advises H hD hW ht th d (j + 1) k k' A b (MS.ofT y) (by omega) (by omega) (by omega) hA
    · have c1 : ¬ nI B ≤ nI A := fun h => c ((pu_le (by omega) (by omega)).mp h)
      have c2 : nI (W + A) < nI (W + B) := by rw [pu_lt (by omega) (by omega)]; omega
      rw [if_neg c1, if_pos c2]
      exact PInv.advises H hD hW ht th d (j + 1) k k' B j (MS.ofT y) (by omega) (by omega) (by omega) hB
