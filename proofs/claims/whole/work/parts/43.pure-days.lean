theorem pu_xor (a b : Nat) : nI a ^^^ nI b = nI (a ^^^ b) := by
  apply Int32.toBitVec.inj
  rw [Int32.toBitVec_xor]
  exact (BitVec.ofNat_xor (w := 32) (x := a) (y := b)).symm
theorem pb_floorMod {D : Nat} (h : D < 1000000) : fJ9_floorMod_7cf53 (nI D) 7 = some (nI (D % 7)) := by
  have hx : D ^^^ 7 < 2 ^ 20 := Nat.xor_lt_two_pow (by omega) (by decide)
  unfold fJ9_floorMod_7cf53
  rw [show (7 : Int32) = nI 7 from rfl, pu_ckz (by omega) (by omega), pu_xor, if_pos (by rw [show (0 : Int32) = nI 0 from rfl, pu_le (by omega) (by omega)]; omega), pu_div (by omega) (by omega), pu_mul, pu_sub (by omega), show D - D / 7 * 7 = D % 7 by omega]
abbrev MS.dayed (m : MS) (z : Int32 × Int32 × Int32 × FN × FN × FN × FN × Int32 × Int32 × FN × FN × FN × FN) : MS := (MS.of (z.1) m.coins m.felts (z.2.1) (z.2.2.1) m.rags m.water (z.2.2.2.1) (z.2.2.2.2.1) (z.2.2.2.2.2.1) m.nM m.mark m.size (z.2.2.2.2.2.2.1) m.nT m.skill m.vat m.pair (z.2.2.2.2.2.2.2.1) (z.2.2.2.2.2.2.2.2.1) (z.2.2.2.2.2.2.2.2.2.1) (z.2.2.2.2.2.2.2.2.2.2.1) (z.2.2.2.2.2.2.2.2.2.2.2.1) (z.2.2.2.2.2.2.2.2.2.2.2.2))
abbrev OS.dayed (o : OS) (z : Int32 × FN × FN × FN × FN × FN) : OS := (OS.of o.pairs o.teams o.water (z.2.1) (z.2.2.1) o.crews (z.2.2.2.1) (z.2.2.2.2.1) (z.2.2.2.2.2))
theorem PInv.press {D N T F W : Nat} {l : List pz_PT} {m : MS} {o : OS} (H : PInv D N T F W l m o) (x1 : Int32) :
    ∃ z z' l', (fX0_pressPosts m.nQ m.allS m.pmark m.pgrade m.psheets m.loft).bind (fun z5 => some (m.day + 1, m.made, m.worth, m.pulp, m.beat, m.sort, m.worn, z5.1, z5.2.1, z5.2.2.1, z5.2.2.2.1, z5.2.2.2.2.1, z5.2.2.2.2.2)) = some z ∧ (fX6_press o.posts o.loft o.nums).bind (fun z3 => some (x1, o.vats, o.moulds, z3.1, z3.2.1, upd z3.2.2 (0 : Int32).toNatClampNeg ((z3.2.2 (0 : Int32).toNatClampNeg) + 1))) = some z' ∧ PInv (D + 1) N T F W l' (m.dayed z) (o.dayed z') ∧ z.2.1 = m.made ∧ z'.1 = x1 := by
  have hlen := H.rq.len
  have hle := H.rq.le
  have hs := H.rq.sle
  have hb : ∀ x ∈ l, x.2.2 < 1000 := fun x hx => by
    have : ∀ (l : List pz_PT), x ∈ l → x.2.2 ≤ sumS l := by
      intro l
      induction l with
      | nil => intro h; exact absurd h List.not_mem_nil
      | cons y l ih =>
        intro h
        show x.2.2 ≤ y.2.2 + sumS l
        rcases List.mem_cons.mp h with rfl | h
        · omega
        · have := ih h; omega
    have := this l hx
    omega
  obtain ⟨a', b', c', e1, e2⟩ := pb_pressC (Q := l.length) (by omega) (a := m.pmark) (b := m.pgrade) l [] 0 24 300 m.psheets m.loft H.rq.ec hb H.rq.ok rfl (Nat.zero_add _) (by omega) (by omega)
  obtain ⟨f', h', g1, g2, g3, g4⟩ := pb_pressM l 24 300 o.posts o.loft o.nums H.rq.em H.rq.n' (by omega) (fun x hx => ⟨H.rq.ok x hx, hb x hx⟩) (by omega) (by omega)
  rw [show ([] : List pz_PT) ++ prA l 24 = prA l 24 from rfl, fil_prA l 24 H.rq.ok] at e1 e2
  have hsum : sumS (prS l 24) = sumS (prA l 24) := by rw [← fil_prA l 24 H.rq.ok, sum_fil]
  have E1 : fX0_pressPosts m.nQ m.allS m.pmark m.pgrade m.psheets m.loft = some (nI (prS l 24).length, nI (sumS (prA l 24)), a', b', c', prL l 24 m.loft) := by
    unfold fX0_pressPosts
    rw [H.rq.n, H.rq.s]
    exact e1
  have G1 : fX6_press o.posts o.loft o.nums = some (f', prL l 24 o.loft, h') := g1
  rw [E1, G1, pu_bs, pu_bs]
  refine ⟨_, _, prS l 24, rfl, rfl, ?_, rfl, rfl⟩
  have n0 : ∀ j, j ≠ 0 → j ≠ 5 → upd h' (0 : Int32).toNatClampNeg (h' (0 : Int32).toNatClampNeg + 1) j = o.nums j := fun j hj hj5 => by
    rw [pc0, pu_un hj, g4 j hj5]
  refine ⟨?_, ?_, ((n0 1 (by decide) (by decide)).trans H.coins), ((n0 3 (by decide) (by decide)).trans H.made), (H.wth), ((n0 4 (by decide) (by decide)).trans H.wth'), (fun j hj => (n0 (6 + j) (by omega) (by omega)).trans (H.rags j hj)), (H.water), (H.wle), (prL_congr l 24 o.loft m.loft H.rq.ok H.loft), (H.rv), (H.rm), (H.rt), ?_⟩
  · show m.day + 1 = nI (D + 1)
    rw [H.day, show (1 : Int32) = nI 1 from rfl, pu_add]
  · show upd h' (0 : Int32).toNatClampNeg (h' (0 : Int32).toNatClampNeg + 1) 0 = nI (D + 1)
    rw [pc0, pu_up, g4 0 (by decide), H.day', show (1 : Int32) = nI 1 from rfl, pu_add]
  · refine ⟨(H.rq.f), ((n0 2 (by decide) (by decide)).trans H.rq.f'), (H.rq.le), (rfl), ?_, ?_, ?_, (ok_prS l 24 H.rq.ok), (e2), (g2)⟩
    · show upd h' (0 : Int32).toNatClampNeg (h' (0 : Int32).toNatClampNeg + 1) 5 = _
      rw [pc0, pu_un (by decide), g3]
    · rw [hsum]
    · rw [hsum]; have := sum_prA l 24; omega
theorem PInv.teams {D N T F : Nat} : ∀ (d t k k' W : Nat) (l : List pz_PT) (m : MS) (o : OS) (x1 : Int32), PInv D N T F W l m o → t + d = T → d < k → d < k' →
    ∃ z z' W' l', fX0_liveDay_L23 m.day m.felts m.nM m.mark m.size m.nT m.skill m.vat m.pair m.loft k m.made m.worth m.pulp m.beat m.sort m.worn m.nQ m.allS m.pmark m.pgrade m.psheets (nI t) = some z ∧ fX6_dayOn_L8 o.teams o.crews o.loft k' o.vats o.moulds o.posts o.nums x1 (nI t) = some z' ∧ PInv (D + 1) N T F W' l' (m.dayed z) (o.dayed z') ∧ z.2.1 + x1 = m.made + z'.1 ∧ W ≤ W' ∧ W' ≤ W + 144 * d
  | 0, t, k + 1, k' + 1, W, l, m, o, x1, H, hd, _, _ => by
    have hT := H.rt.le
    obtain ⟨z, z', l', e1, e2, e3, e4, e5⟩ := H.press x1
    refine ⟨z, z', W, l', ?_, ?_, e3, by rw [e4, e5], by omega⟩
    · unfold fX0_liveDay_L23
      rw [H.rt.n, if_pos (by rw [pu_le (by omega) (by omega)]; omega)]
      exact e1
    · unfold fX6_dayOn_L8
      rw [H.rt.n', if_pos (by rw [pu_le (by omega) (by omega)]; omega)]
      exact e2
  | d + 1, t, k + 1, k' + 1, W, l, m, o, x1, H, hd, hk, hk' => by
    have hT := H.rt.le
    obtain ⟨z, z', W', l', e1, e2, e3, e4, e5⟩ := H.make (t := t) (by omega)
    obtain ⟨y, y', W'', l'', g1, g2, g3, g4, g5⟩ := PInv.teams d (t + 1) k k' W' l' (m.made' z) (o.made' z') (x1 + z'.1) e3 (by omega) (by omega) (by omega)
    have ct : ¬ nI T ≤ nI t := by rw [pu_le (by omega) (by omega)]; omega
    refine ⟨y, y', W'', l'', ?_, ?_, g3, ?_, by omega⟩
    · unfold fX0_liveDay_L23
      rw [H.rt.n, if_neg ct, ← H.rt.n, e1, pu_bs, show (1 : Int32) = nI 1 from rfl, pu_add]
      exact g1
    · unfold fX6_dayOn_L8
      rw [H.rt.n', if_neg ct, e2, pu_bs, show (1 : Int32) = nI 1 from rfl, pu_add, ← H.rt.n']
      exact g2
    · have g4' : y.2.1 + (x1 + z'.1) = z.1 + y'.1 := g4
      rw [e4] at g4'
      have : y.2.1 + x1 + z'.1 = m.made + y'.1 + z'.1 := by
        rw [Int32.add_assoc, g4', Int32.add_assoc, Int32.add_assoc, Int32.add_comm z'.1]
      have h2 := congrArg (fun q => q - z'.1) this
      simp only [Int32.add_sub_cancel] at h2
      exact h2
theorem PInv.dayOn {D N T F W : Nat} {l : List pz_PT} {m : MS} {o : OS} (H : PInv D N T F W l m o) (hD : D < 1000000) :
    ∃ z z' W' l', fX0_liveDay m.day m.felts m.made m.worth m.water m.pulp m.beat m.sort m.nM m.mark m.size m.worn m.nT m.skill m.vat m.pair m.nQ m.allS m.pmark m.pgrade m.psheets m.loft = some z ∧ fX6_dayOn o.teams o.water o.vats o.moulds o.crews o.posts o.loft o.nums = some z' ∧ PInv (D + 1) N T F W' l' (m.dayed z) (o.dayed z') ∧ z.2.1 = m.made + z'.1 ∧ W ≤ W' ∧ W' ≤ W + 432 := by
  have hT := H.rt.le
  obtain ⟨q, hq, eq⟩ := H.wle (D % 7) (by omega)
  have ew : o.water (D % 7) = nI q := by rw [H.water _ (by omega), eq]
  obtain ⟨b', f', g1, g2, g3⟩ := pb_beat (w := o.water) (nums := o.nums) H.day' hD ew hq H.rv
  have H' : PInv D N T F W l (MS.of m.day m.coins m.felts m.made m.worth m.rags m.water m.pulp (b') m.sort m.nM m.mark m.size m.worn m.nT m.skill m.vat m.pair m.nQ m.allS m.pmark m.pgrade m.psheets m.loft) (OS.of o.pairs o.teams o.water (f') o.moulds o.crews o.posts o.loft o.nums) := ⟨H.day, H.day', H.coins, H.made, H.wth, H.wth', H.rags, H.water, H.wle, H.loft, (g3), H.rm, H.rt, H.rq⟩
  obtain ⟨z, z', W', l', e1, e2, e3, e4, e5⟩ := PInv.teams T 0 300 4 W l _ _ 0 H' (by omega) (by omega) (by omega)
  refine ⟨z, z', W', l', ?_, ?_, e3, ?_, by omega⟩
  · unfold fX0_liveDay
    rw [H.day, pb_floorMod hD, pu_bs, pu_ck (by omega) (by omega), pu_tn (by omega), eq, g1, pu_bs, ← H.day]
    exact e1
  · unfold fX6_dayOn
    rw [g2, pu_bs]
    exact e2
  · rw [Int32.add_zero] at e4
    exact e4
theorem PInv.days {N T F n : Nat} (hn : n ≤ 40) : ∀ (d j k k' D W : Nat) (l : List pz_PT) (m : MS) (o : OS) (x : Int32), PInv D N T F W l m o → D + d < 1000000 → j + d = n → d < k → d < k' →
    ∃ z z' W' l', fX0_liveDays_L2 m.felts m.water m.nM m.mark m.size m.nT m.skill m.vat m.pair (nI n) k m.day m.made m.worth m.pulp m.beat m.sort m.worn m.nQ m.allS m.pmark m.pgrade m.psheets m.loft (nI j) = some z ∧ fX6_daysOn_L4 o.teams o.water o.crews (nI n) k' o.vats o.moulds o.posts o.loft o.nums x (nI j) = some z' ∧ PInv (D + d) N T F W' l' (m.dayed z) (o.dayed z') ∧ z.2.1 + x = m.made + z'.1 ∧ W ≤ W' ∧ W' ≤ W + 432 * d
  | 0, j, k + 1, k' + 1, D, W, l, m, o, x, H, _, hj, _, _ => by
    refine ⟨(m.day, m.made, m.worth, m.pulp, m.beat, m.sort, m.worn, m.nQ, m.allS, m.pmark, m.pgrade, m.psheets, m.loft), (x, o.vats, o.moulds, o.posts, o.loft, o.nums), W, l, ?_, ?_, H, rfl, by omega⟩
    · unfold fX0_liveDays_L2
      rw [if_pos (by rw [pu_le (by omega) (by omega)]; omega)]
    · unfold fX6_daysOn_L4
      rw [if_pos (by rw [pu_le (by omega) (by omega)]; omega)]
  | d + 1, j, k + 1, k' + 1, D, W, l, m, o, x, H, hD, hj, hk, hk' => by
    obtain ⟨z, z', W', l', e1, e2, e3, e4, e5⟩ := H.dayOn (by omega)
    obtain ⟨y, y', W'', l'', g1, g2, g3, g4, g5⟩ := PInv.days hn d (j + 1) k k' (D + 1) W' l' (m.dayed z) (o.dayed z') (x + z'.1) e3 (by omega) (by omega) (by omega) (by omega)
    have ct : ¬ nI n ≤ nI j := by rw [pu_le (by omega) (by omega)]; omega
    rw [show D + 1 + d = D + (d + 1) by omega] at g3
    refine ⟨y, y', W'', l'', ?_, ?_, g3, ?_, by omega⟩
    · unfold fX0_liveDays_L2
      rw [if_neg ct, e1, pu_bs, show (1 : Int32) = nI 1 from rfl, pu_add]
      exact g1
    · unfold fX6_daysOn_L4
      rw [if_neg ct, e2, pu_bs, show (1 : Int32) = nI 1 from rfl, pu_add]
      exact g2
    · have g4' : y.2.1 + (x + z'.1) = z.2.1 + y'.1 := g4
      rw [e4] at g4'
      have : y.2.1 + x + z'.1 = m.made + y'.1 + z'.1 := by
        rw [Int32.add_assoc, g4', Int32.add_assoc, Int32.add_assoc, Int32.add_comm z'.1]
      have h2 := congrArg (fun q => q - z'.1) this
      simp only [Int32.add_sub_cancel] at h2
      exact h2
theorem PInv.daysOn {D N T F W n : Nat} {l : List pz_PT} {m : MS} {o : OS} (H : PInv D N T F W l m o) (hn : n ≤ 40) (hD : D + n < 1000000) :
    ∃ z z' W' l', fX0_liveDays m.day m.felts m.made m.worth m.water m.pulp m.beat m.sort m.nM m.mark m.size m.worn m.nT m.skill m.vat m.pair m.nQ m.allS m.pmark m.pgrade m.psheets m.loft (nI n) = some z ∧ fX6_daysOn o.teams o.water o.vats o.moulds o.crews o.posts o.loft o.nums (nI n) = some z' ∧ PInv (D + n) N T F W' l' (m.dayed z) (o.dayed z') ∧ z.2.1 = m.made + z'.1 ∧ W ≤ W' ∧ W' ≤ W + 432 * n := by
  obtain ⟨z, z', W', l', e1, e2, e3, e4, e5⟩ := PInv.days hn n 0 64 41 D W l m o 0 H hD (by omega) (by omega) (by omega)
  rw [Int32.add_zero] at e4
  exact ⟨z, z', W', l', e1, e2, e3, e4, e5⟩
theorem pb_hangs {f g : FN} (h : ∀ j, j < 30 → g j = f j) : ∀ (d j k k' : Nat) (x : Int32), j + d = 30 → d < k → d < k' → ∃ r, fX0_allHanging_L4 f k x (nI j) = some r ∧ fX6_counted_L111 g k' x (nI 30) (nI j) = some r
  | 0, j, k + 1, k' + 1, x, hj, _, _ => by
    refine ⟨x, ?_, ?_⟩
    · unfold fX0_allHanging_L4
      rw [show (30 : Int32) = nI 30 from rfl, if_pos (by rw [pu_le (by omega) (by omega)]; omega)]
    · unfold fX6_counted_L111
      rw [if_pos (by rw [pu_le (by omega) (by omega)]; omega)]
  | d + 1, j, k + 1, k' + 1, x, hj, hk, hk' => by
    obtain ⟨r, e1, e2⟩ := pb_hangs h d (j + 1) k k' (x + f j) (by omega) (by omega) (by omega)
    have ct : ¬ nI 30 ≤ nI j := by rw [pu_le (by omega) (by omega)]; omega
    refine ⟨r, ?_, ?_⟩
    · unfold fX0_allHanging_L4
      rw [show (30 : Int32) = nI 30 from rfl, if_neg ct, pu_ck (by omega) (by omega), pu_tn (by omega), show (1 : Int32) = nI 1 from rfl, pu_add]
      exact e1
    · unfold fX6_counted_L111
      rw [if_neg ct, pu_ck (by omega) (by omega), pu_tn (by omega), show (1 : Int32) = nI 1 from rfl, pu_add, h j (by omega)]
      exact e2
theorem pb_pulps {p b s f : FN} (H : RV p b s f) : ∀ (d j k k' : Nat) (x : Int32), j + d = 4 → d < k → d < k' → ∃ r, fX4_allPulp_L4 p k x (nI j) = some r ∧ fX6_counted_L139 f k' x (nI j) = some r
  | 0, j, k + 1, k' + 1, x, hj, _, _ => by
    have ct : nI 4 ≤ nI j := by rw [pu_le (by omega) (by omega)]; omega
    refine ⟨x, ?_, ?_⟩
    · unfold fX4_allPulp_L4
      rw [show (4 : Int32) = nI 4 from rfl, if_pos ct]
    · unfold fX6_counted_L139
      rw [show (4 : Int32) = nI 4 from rfl, if_pos ct]
  | d + 1, j, k + 1, k' + 1, x, hj, hk, hk' => by
    obtain ⟨r, e1, e2⟩ := pb_pulps H d (j + 1) k k' (x + p j) (by omega) (by omega) (by omega)
    have ct : ¬ nI 4 ≤ nI j := by rw [pu_le (by omega) (by omega)]; omega
    refine ⟨r, ?_, ?_⟩
    · unfold fX4_allPulp_L4
      rw [show (4 : Int32) = nI 4 from rfl, if_neg ct, pu_ck (by omega) (by omega), pu_tn (by omega), show (1 : Int32) = nI 1 from rfl, pu_add]
      exact e1
    · unfold fX6_counted_L139
      rw [show (4 : Int32) = nI 4 from rfl, if_neg ct, show (0 : Int32) = nI 0 from rfl, pb_va (by omega), pu_bs, show (1 : Int32) = nI 1 from rfl, pu_add, Nat.add_zero, H.e0 j (by omega)]
      exact e2
set_option maxRecDepth 100000 in
/-- what count tells: one number, on both sides -/
theorem PInv.tell {D N T F W n : Nat} {l : List pz_PT} {m : MS} {o : OS} (H : PInv D N T F W l m o) (hn : n < 12) :
    ∃ r, fX0_tell m.day m.coins m.felts m.made m.worth m.rags m.pulp m.nQ m.allS m.loft (nI n) = some r ∧ fX6_counted o.vats o.posts o.loft o.nums (nI n) = some r := by
  have hp : ∀ j, j < 3 → fX0_poundsOf m.rags (nI (9 + j) - 9) = some (m.rags j) ∧ ckI ((6 + nI (9 + j)) - 9) 9 (some (o.nums ((6 + nI (9 + j)) - 9).toNatClampNeg)) = some (m.rags j) := by
    intro j hj
    rw [show (9 : Int32) = nI 9 from rfl, show (6 : Int32) = nI 6 from rfl, pu_sub (by omega), pu_add, pu_sub (by omega), pu_ck (by omega) (by omega), pu_tn (by omega), show 9 + j - 9 = j by omega, show 6 + (9 + j) - 9 = 6 + j by omega, H.rags j hj]
    unfold fX0_poundsOf
    rw [show (3 : Int32) = nI 3 from rfl, pb_in hj (by omega), pu_bs, if_neg (by decide), pu_ck hj (by omega), pu_tn (by omega)]
    exact ⟨rfl, rfl⟩
  obtain ⟨r1, h1, h2⟩ : ∃ r, fX0_freeFelts m.felts m.allS = some r ∧ fX6_free o.posts o.nums = some r := ⟨nI (F - sumS l), H.rq.free⟩
  obtain ⟨r2, h3, h4⟩ := pb_hangs H.loft 30 0 300 300 0 rfl (by omega) (by omega)
  obtain ⟨r3, h5, h6⟩ := pb_pulps H.rv 4 0 300 300 0 rfl (by omega) (by omega)
  rcases (show n = 0 ∨ n = 1 ∨ n = 2 ∨ n = 3 ∨ n = 4 ∨ n = 5 ∨ n = 6 ∨ n = 7 ∨ n = 8 ∨ n = 9 ∨ n = 10 ∨ n = 11 by omega) with rfl | rfl | rfl | rfl | rfl | rfl | rfl | rfl | rfl | rfl | rfl | rfl
  · exact ⟨m.day, rfl, congrArg some (H.day'.trans H.day.symm)⟩
  · exact ⟨m.coins, rfl, congrArg some H.coins⟩
  · exact ⟨m.felts, rfl, congrArg some (H.rq.f'.trans H.rq.f.symm)⟩
  · refine ⟨r1, ?_, ?_⟩
    · show (fX0_freeFelts m.felts m.allS).bind (fun z7 => some z7) = some r1
      rw [h1]; rfl
    · show (fX6_free o.posts o.nums).bind (fun z10 => some z10) = some r1
      rw [h2]; rfl
  · exact ⟨m.made, rfl, congrArg some H.made⟩
  · exact ⟨m.worth, rfl, congrArg some (H.wth'.trans H.wth.symm)⟩
  · exact ⟨m.nQ, rfl, congrArg some (H.rq.n'.trans H.rq.n.symm)⟩
  · refine ⟨r2, ?_, h4⟩
    show (fX0_allHanging_L4 m.loft 300 0 0).bind (fun z12 => some z12) = some r2
    rw [show fX0_allHanging_L4 m.loft 300 0 0 = some r2 from h3]; rfl
  · refine ⟨r3, ?_, h6⟩
    show (fX4_allPulp_L4 m.pulp 300 0 0).bind (fun z12 => some z12) = some r3
    rw [show fX4_allPulp_L4 m.pulp 300 0 0 = some r3 from h5]; rfl
  · refine ⟨m.rags 0, ?_, (hp 0 (by omega)).2⟩
    show (fX0_poundsOf m.rags (nI 9 - 9)).bind (fun z2 => some z2) = _
    rw [(hp 0 (by omega)).1]; rfl
  · refine ⟨m.rags 1, ?_, (hp 1 (by omega)).2⟩
    show (fX0_poundsOf m.rags (nI 10 - 9)).bind (fun z2 => some z2) = _
    rw [(hp 1 (by omega)).1]; rfl
  · refine ⟨m.rags 2, ?_, (hp 2 (by omega)).2⟩
    show (fX0_poundsOf m.rags (nI 11 - 9)).bind (fun z2 => some z2) = _
    rw [(hp 2 (by omega)).1]; rfl
