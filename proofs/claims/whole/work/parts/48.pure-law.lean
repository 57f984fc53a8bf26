theorem nan_all : ∀ N : Fin 5, ∀ s : Fin 251, FP.ddiv (FP.i2d (nI s.val)) (FP.i2d (nI (N.val + 1))) &&& 0x7fffffffffffffff ≤ 0x7ff0000000000000 := by decide +kernel
theorem nan_ok (s N : Nat) (hs : s ≤ 250) (h0 : 0 < N) (h5 : N ≤ 5) : FP.ddiv (FP.i2d (nI s)) (FP.i2d (nI N)) &&& 0x7fffffffffffffff ≤ 0x7ff0000000000000 := by
  have h := nan_all ⟨N - 1, by omega⟩ ⟨s, by omega⟩
  have e : N - 1 + 1 = N := by omega
  simp only [e] at h
  exact h
theorem mean_go {D N T F W : Nat} {l : List pz_PT} {m : MS} {o : OS} (H : PInv D N T F W l m o) (hN0 : 0 < N) (th : Int32) : ∀ (d j k k' s : Nat), j + d = N → d < k → d < k' → s ≤ 50 * j →
    ∃ z, fX5_mean_L21 m.nM m.worn k (nI N) (nI s) (nI j) = some z ∧ fX6_mean_L9 o.pairs o.moulds k' th (nI s) (nI j) = some (z, th)
  | 0, j, k + 1, k' + 1, s, hj, _, _, hs => by
    have hN := H.rm.le
    have ct : nI N ≤ nI j := by rw [pu_le (by omega) (by omega)]; omega
    have c0 : ¬ nI N = 0 := fun x => by have := (pu_eq (b := 0) (by omega) (by omega)).mp x; omega
    have hn := nan_ok s N (by omega) hN0 hN
    refine ⟨FP.ddiv (FP.i2d (nI s)) (FP.i2d (nI N)), ?_, ?_⟩
    · rw [fX5_mean_L21, if_pos ct]
      exact if_pos hn
    · rw [fX6_mean_L9, H.rm.n', if_pos ct, if_neg c0]
      exact if_pos hn
  | d + 1, j, k + 1, k' + 1, s, hj, hk, hk', hs => by
    have hN := H.rm.le
    have ct : ¬ nI N ≤ nI j := by rw [pu_le (by omega) (by omega)]; omega
    obtain ⟨w, hw, ew⟩ := H.rm.wn j (by omega)
    obtain ⟨z, e1, e2⟩ := mean_go H hN0 th d (j + 1) k k' (s + w) (by omega) (by omega) (by omega) (by omega)
    rw [H.rm.n] at e1
    rw [H.rm.n'] at e2
    refine ⟨z, ?_, ?_⟩
    · rw [fX5_mean_L21, if_neg ct, H.rm.n, pb_wornOf (by omega) hN, pu_bs, ew, pu_add, pz_k1, pu_add]
      exact e1
    · rw [fX6_mean_L9, H.rm.n', if_neg ct, pz_k2, pb_mo (by omega), pu_bs, H.rm.e2 j (by omega), ew, pu_add, pz_k1, pu_add]
      exact e2
theorem op_mean {k : Nat} {m : MS} {o : OS} (h : pz_St k m o) : ∃ z, fX5_mean m.nM m.worn = some z ∧ fX6_mean o.pairs o.moulds = some (z, 0) ∧ pz_St (k + 1) m o := by
  obtain ⟨D, N, T, F, W, l, H, h1, h2⟩ := id h
  have hN := H.rm.le
  by_cases c : N = 0
  · subst c
    refine ⟨FP.dconst0, ?_, ?_, h.up⟩
    · unfold fX5_mean
      rw [H.rm.n]
      exact if_pos rfl
    · unfold fX6_mean
      rw [fX6_mean_L9, H.rm.n', if_pos (by decide), if_pos (by decide)]
  · have c0 : ¬ nI N = 0 := fun x => by have := (pu_eq (b := 0) (by omega) (by omega)).mp x; omega
    obtain ⟨z, e1, e2⟩ := mean_go H (by omega) 0 N 0 300 300 0 (by omega) (by omega) (by omega) (by omega)
    refine ⟨z, ?_, e2, h.up⟩
    unfold fX5_mean
    rw [H.rm.n] at e1 ⊢
    rw [if_neg c0]
    exact e1
theorem fin1 {a c : Int32} {u v : Int64} {R : Option Int32} (h3 : a = c) (h4 : c = 0 → lg_cmp u v = 0) (hR : R = some 1) : ((fX6_thrown a).bind fun w => if w = c then if c = 0 then if lg_cmp u v = 0 then R else some 0 else R else some 0) = some 1 := by
  show (if a = c then if c = 0 then if lg_cmp u v = 0 then R else some 0 else R else some 0) = some 1
  rw [if_pos h3]
  by_cases h : c = 0
  · rw [if_pos h, if_pos (h4 h)]; exact hR
  · rw [if_neg h]; exact hR
theorem fin2 {p : Prop} [Decidable p] {R S : Option Int32} (hR : R = some 1) : (if p then R else if p then S else if p then S else R) = some 1 := by
  by_cases h : p
  · rw [if_pos h]; exact hR
  · rw [if_neg h, if_neg h, if_neg h]; exact hR
theorem ck1 {α : Type} {i L : Nat} {k : Option α} (h : i + 1 < L) (hL : L ≤ 2048) : ckI (nI i + 1) L k = k := by
  rw [pz_k1, pu_add, pu_ck h (by omega)]
theorem ck2 {α : Type} {i L : Nat} {k : Option α} (h : i + 2 < L) (hL : L ≤ 2048) : ckI (nI i + 2) L k = k := by
  rw [pz_k2, pu_add, pu_ck h (by omega)]
theorem ck3 {α : Type} {i L : Nat} {k : Option α} (h : i + 3 < L) (hL : L ≤ 2048) : ckI (nI i + 3) L k = k := by
  rw [pz_k3, pu_add, pu_ck h (by omega)]
theorem pz_ends {i L : Nat} (hi : i ≤ 2048) (hL : L ≤ 2048) : (Int32.ofNat L - 4 < nI i) ↔ L < i + 4 := by
  have e : (Int32.ofNat L - 4).toInt = (L : Int) - 4 := by
    by_cases c : 4 ≤ L
    · show (nI L - nI 4).toInt = _
      rw [pu_sub c, pu_ti (by omega)]; omega
    · rcases (show L = 0 ∨ L = 1 ∨ L = 2 ∨ L = 3 by omega) with rfl | rfl | rfl | rfl <;> decide
  rw [Int32.lt_iff_toInt_lt, e, pu_ti (by omega)]
  omega
theorem law_go {L : Nat} (hL : L ≤ 2048) (xs : FN) : ∀ (k i c : Nat) (m t : MS) (o : OS) (th : Int32) (lo : Nat → Int64) (x4 : Int32), x4 = nI i → pz_St c m o → i = 4 * c → i ≤ L → L + 4 ≤ i + 4 * k →
    fL_law_L23 L xs k m.day m.coins m.felts m.made m.worth m.rags m.water m.pulp m.beat m.sort m.nM m.mark m.size m.worn m.nT m.skill m.vat m.pair m.nQ m.allS m.pmark m.pgrade m.psheets m.loft t.day t.coins t.felts t.made t.worth t.rags t.water t.pulp t.beat t.sort t.nM t.mark t.size t.worn t.nT t.skill t.vat t.pair t.nQ t.allS t.pmark t.pgrade t.psheets t.loft th o.pairs o.teams o.water o.vats o.moulds o.crews o.posts o.loft o.nums lo x4 = some 1
  | 0, i, c, m, t, o, th, lo, x4, hx, hS, hi, hiL, hk => absurd hk (by omega)
  | k + 1, i, c, m, t, o, th, lo, x4, hx, hS, hi, hiL, hk => by
    subst hx
    have ih := law_go hL xs k
    unfold fL_law_L23
    by_cases ce : L < i + 4
    · exact if_pos ((pz_ends (by omega) hL).mpr ce)
    have go : ∀ (m' t' : MS) (o' : OS) (th' : Int32) (lo' : Nat → Int64), pz_St (c + 1) m' o' → fL_law_L23 L xs k m'.day m'.coins m'.felts m'.made m'.worth m'.rags m'.water m'.pulp m'.beat m'.sort m'.nM m'.mark m'.size m'.worn m'.nT m'.skill m'.vat m'.pair m'.nQ m'.allS m'.pmark m'.pgrade m'.psheets m'.loft t'.day t'.coins t'.felts t'.made t'.worth t'.rags t'.water t'.pulp t'.beat t'.sort t'.nM t'.mark t'.size t'.worn t'.nT t'.skill t'.vat t'.pair t'.nQ t'.allS t'.pmark t'.pgrade t'.psheets t'.loft th' o'.pairs o'.teams o'.water o'.vats o'.moulds o'.crews o'.posts o'.loft o'.nums lo' (nI i + 4) = some 1 :=
      fun m' t' o' th' lo' h' => ih (i + 4) (c + 1) m' t' o' th' lo' (nI i + 4) (pu_add i 4) h' (by omega) (by omega) (by omega)
    clear ih
    refine (if_neg (fun h => ce ((pz_ends (by omega) hL).mp h))).trans ?_
    refine (pu_ck (by omega) (by omega)).trans ?_
    by_cases cd : ((xs (nI i).toNatClampNeg &&& 31).toInt < 0 ∨ 20 < (xs (nI i).toNatClampNeg &&& 31).toInt)
    · refine (if_pos cd).trans ?_
      exact go m t o th lo hS.up
    refine (if_neg cd).trans ?_
    by_cases c0 : (xs (nI i).toNatClampNeg &&& 31).toInt = 0
    · refine (if_pos c0).trans ?_
      obtain ⟨z, y, e1, e2, e3, e4, e5⟩ := op_buy hS (xs (nI i + 1).toNatClampNeg) (xs (nI i + 2).toNatClampNeg) lo
      refine (ck1 (by omega) hL).trans ?_
      refine (ck2 (by omega) hL).trans ?_
      refine (congrArg (fun q => Option.bind q _) e1).trans ?_
      refine (ck1 (by omega) hL).trans ?_
      refine (ck2 (by omega) hL).trans ?_
      refine (congrArg (fun q => Option.bind q _) e2).trans ?_
      exact fin1 e3 e4 (go (MS.of m.day (z.2.1) (z.2.2.1) m.made m.worth (z.2.2.2.1) m.water m.pulp m.beat m.sort m.nM m.mark m.size m.worn m.nT m.skill m.vat m.pair m.nQ m.allS m.pmark m.pgrade m.psheets m.loft) t (OS.of o.pairs o.teams o.water o.vats o.moulds o.crews o.posts o.loft (y.2.2)) y.2.1 z.2.2.2.2 e5)
    refine (if_neg c0).trans ?_
    by_cases c1 : (xs (nI i).toNatClampNeg &&& 31).toInt = 1
    · refine (if_pos c1).trans ?_
      obtain ⟨z, y, e1, e2, e3, e4, e5⟩ := op_sell hS (xs (nI i + 1).toNatClampNeg) (xs (nI i + 2).toNatClampNeg) (xs (nI i + 3).toNatClampNeg) lo
      refine (ck1 (by omega) hL).trans ?_
      refine (ck2 (by omega) hL).trans ?_
      refine (ck3 (by omega) hL).trans ?_
      refine (congrArg (fun q => Option.bind q _) e1).trans ?_
      refine (ck1 (by omega) hL).trans ?_
      refine (ck2 (by omega) hL).trans ?_
      refine (ck3 (by omega) hL).trans ?_
      refine (congrArg (fun q => Option.bind q _) e2).trans ?_
      exact fin1 e3 e4 (go (MS.of m.day (z.2.1) m.felts m.made m.worth m.rags m.water m.pulp m.beat m.sort m.nM m.mark m.size m.worn m.nT m.skill m.vat m.pair m.nQ m.allS m.pmark m.pgrade m.psheets (z.2.2.1)) t (OS.of o.pairs o.teams o.water o.vats o.moulds o.crews o.posts (y.2.2.1) (y.2.2.2)) y.2.1 z.2.2.2 e5)
    refine (if_neg c1).trans ?_
    by_cases c2 : (xs (nI i).toNatClampNeg &&& 31).toInt = 2
    · refine (if_pos c2).trans ?_
      obtain ⟨z, y, e1, e2, e3, e4, e5⟩ := op_fill hS (xs (nI i + 1).toNatClampNeg) (xs (nI i + 2).toNatClampNeg) (xs (nI i + 3).toNatClampNeg) lo
      refine (ck1 (by omega) hL).trans ?_
      refine (ck2 (by omega) hL).trans ?_
      refine (ck3 (by omega) hL).trans ?_
      refine (congrArg (fun q => Option.bind q _) e1).trans ?_
      refine (ck1 (by omega) hL).trans ?_
      refine (ck2 (by omega) hL).trans ?_
      refine (ck3 (by omega) hL).trans ?_
      refine (congrArg (fun q => Option.bind q _) e2).trans ?_
      exact fin1 e3 e4 (go (MS.of m.day m.coins m.felts m.made m.worth (z.2.1) m.water (z.2.2.1) (z.2.2.2.1) (z.2.2.2.2.1) m.nM m.mark m.size m.worn m.nT m.skill m.vat m.pair m.nQ m.allS m.pmark m.pgrade m.psheets m.loft) t (OS.of o.pairs o.teams o.water (y.2.2.1) o.moulds o.crews o.posts o.loft (y.2.2.2)) y.2.1 z.2.2.2.2.2 e5)
    refine (if_neg c2).trans ?_
    by_cases c3 : (xs (nI i).toNatClampNeg &&& 31).toInt = 3
    · refine (if_pos c3).trans ?_
      obtain ⟨z, y, e1, e2, e3, e4, e5⟩ := op_drain hS (xs (nI i + 1).toNatClampNeg) lo
      refine (ck1 (by omega) hL).trans ?_
      refine (congrArg (fun q => Option.bind q _) e1).trans ?_
      refine (ck1 (by omega) hL).trans ?_
      refine (congrArg (fun q => Option.bind q _) e2).trans ?_
      exact fin1 e3 e4 (go (MS.of m.day m.coins m.felts m.made m.worth m.rags m.water (z.2.1) (z.2.2.1) (z.2.2.2.1) m.nM m.mark m.size m.worn m.nT m.skill m.vat m.pair m.nQ m.allS m.pmark m.pgrade m.psheets m.loft) t (OS.of o.pairs o.teams o.water (y.2.2) o.moulds o.crews o.posts o.loft o.nums) y.2.1 z.2.2.2.2 e5)
    refine (if_neg c3).trans ?_
    by_cases c4 : (xs (nI i).toNatClampNeg &&& 31).toInt = 4
    · refine (if_pos c4).trans ?_
      obtain ⟨z, y, e1, e2, e3, e4, e5⟩ := op_pair hS (xs (nI i + 1).toNatClampNeg) (xs (nI i + 2).toNatClampNeg) lo
      refine (ck1 (by omega) hL).trans ?_
      refine (ck2 (by omega) hL).trans ?_
      refine (congrArg (fun q => Option.bind q _) e1).trans ?_
      refine (ck1 (by omega) hL).trans ?_
      refine (ck2 (by omega) hL).trans ?_
      refine (congrArg (fun q => Option.bind q _) e2).trans ?_
      exact fin1 e3 e4 (go (MS.of m.day m.coins m.felts m.made m.worth m.rags m.water m.pulp m.beat m.sort (z.2.1) (z.2.2.1) (z.2.2.2.1) (z.2.2.2.2.1) m.nT m.skill m.vat m.pair m.nQ m.allS m.pmark m.pgrade m.psheets m.loft) t (OS.of (y.2.2.1) o.teams o.water o.vats (y.2.2.2) o.crews o.posts o.loft o.nums) y.2.1 z.2.2.2.2.2 e5)
    refine (if_neg c4).trans ?_
    by_cases c5 : (xs (nI i).toNatClampNeg &&& 31).toInt = 5
    · refine (if_pos c5).trans ?_
      obtain ⟨z, y, e1, e2, e3, e4, e5⟩ := op_wire hS (xs (nI i + 1).toNatClampNeg) lo
      refine (ck1 (by omega) hL).trans ?_
      refine (congrArg (fun q => Option.bind q _) e1).trans ?_
      refine (ck1 (by omega) hL).trans ?_
      refine (congrArg (fun q => Option.bind q _) e2).trans ?_
      exact fin1 e3 e4 (go (MS.of m.day (z.2.1) m.felts m.made m.worth m.rags m.water m.pulp m.beat m.sort m.nM m.mark m.size (z.2.2.1) m.nT m.skill m.vat m.pair m.nQ m.allS m.pmark m.pgrade m.psheets m.loft) t (OS.of o.pairs o.teams o.water o.vats (y.2.2.1) o.crews o.posts o.loft (y.2.2.2)) y.2.1 z.2.2.2 e5)
    refine (if_neg c5).trans ?_
    by_cases c6 : (xs (nI i).toNatClampNeg &&& 31).toInt = 6
    · refine (if_pos c6).trans ?_
      obtain ⟨z, y, e1, e2, e3, e4, e5⟩ := op_team hS (xs (nI i + 1).toNatClampNeg) lo
      refine (ck1 (by omega) hL).trans ?_
      refine (congrArg (fun q => Option.bind q _) e1).trans ?_
      refine (ck1 (by omega) hL).trans ?_
      refine (congrArg (fun q => Option.bind q _) e2).trans ?_
      exact fin1 e3 e4 (go (MS.of m.day m.coins m.felts m.made m.worth m.rags m.water m.pulp m.beat m.sort m.nM m.mark m.size m.worn (z.2.1) (z.2.2.1) (z.2.2.2.1) (z.2.2.2.2.1) m.nQ m.allS m.pmark m.pgrade m.psheets m.loft) t (OS.of o.pairs (y.2.2.1) o.water o.vats o.moulds (y.2.2.2) o.posts o.loft o.nums) y.2.1 z.2.2.2.2.2 e5)
    refine (if_neg c6).trans ?_
    by_cases c7 : (xs (nI i).toNatClampNeg &&& 31).toInt = 7
    · refine (if_pos c7).trans ?_
      obtain ⟨z, y, e1, e2, e3, e4, e5⟩ := op_place hS (xs (nI i + 1).toNatClampNeg) (xs (nI i + 2).toNatClampNeg) (xs (nI i + 3).toNatClampNeg) lo
      refine (ck1 (by omega) hL).trans ?_
      refine (ck2 (by omega) hL).trans ?_
      refine (ck3 (by omega) hL).trans ?_
      refine (congrArg (fun q => Option.bind q _) e1).trans ?_
      refine (ck1 (by omega) hL).trans ?_
      refine (ck2 (by omega) hL).trans ?_
      refine (ck3 (by omega) hL).trans ?_
      refine (congrArg (fun q => Option.bind q _) e2).trans ?_
      exact fin1 e3 e4 (go (MS.of m.day m.coins m.felts m.made m.worth m.rags m.water m.pulp m.beat m.sort m.nM m.mark m.size m.worn m.nT m.skill (z.2.1) (z.2.2.1) m.nQ m.allS m.pmark m.pgrade m.psheets m.loft) t (OS.of o.pairs o.teams o.water o.vats o.moulds (y.2.2) o.posts o.loft o.nums) y.2.1 z.2.2.2 e5)
    refine (if_neg c7).trans ?_
    by_cases c8 : (xs (nI i).toNatClampNeg &&& 31).toInt = 8
    · refine (if_pos c8).trans ?_
      obtain ⟨z, y, e1, e2, e3, e4, e5⟩ := op_setWater hS (xs (nI i + 1).toNatClampNeg) (xs (nI i + 2).toNatClampNeg) lo
      refine (ck1 (by omega) hL).trans ?_
      refine (ck2 (by omega) hL).trans ?_
      refine (congrArg (fun q => Option.bind q _) e1).trans ?_
      refine (ck1 (by omega) hL).trans ?_
      refine (ck2 (by omega) hL).trans ?_
      refine (congrArg (fun q => Option.bind q _) e2).trans ?_
      exact fin1 e3 e4 (go (MS.of m.day m.coins m.felts m.made m.worth m.rags (z.2.1) m.pulp m.beat m.sort m.nM m.mark m.size m.worn m.nT m.skill m.vat m.pair m.nQ m.allS m.pmark m.pgrade m.psheets m.loft) t (OS.of o.pairs o.teams (y.2.2) o.vats o.moulds o.crews o.posts o.loft o.nums) y.2.1 z.2.2 e5)
    refine (if_neg c8).trans ?_
    by_cases c9 : (xs (nI i).toNatClampNeg &&& 31).toInt = 9
    · refine (if_pos c9).trans ?_
      obtain ⟨z, y, e1, e2, e3, e4, e5⟩ := op_about hS (xs (nI i + 1).toNatClampNeg) (xs (nI i + 2).toNatClampNeg) lo
      refine (ck1 (by omega) hL).trans ?_
      refine (ck2 (by omega) hL).trans ?_
      refine (congrArg (fun q => Option.bind q _) e1).trans ?_
      refine (ck1 (by omega) hL).trans ?_
      refine (ck2 (by omega) hL).trans ?_
      refine (congrArg (fun q => Option.bind q _) e2).trans ?_
      exact fin1 e3 e4 (go m t o y.2 z.2 e5)
    refine (if_neg c9).trans ?_
    by_cases c10 : (xs (nI i).toNatClampNeg &&& 31).toInt = 10
    · refine (if_pos c10).trans ?_
      obtain ⟨z, y, e1, e2, e3, e4, e5⟩ := op_mould hS (xs (nI i + 1).toNatClampNeg) (xs (nI i + 2).toNatClampNeg) lo
      refine (ck1 (by omega) hL).trans ?_
      refine (ck2 (by omega) hL).trans ?_
      refine (congrArg (fun q => Option.bind q _) e1).trans ?_
      refine (ck1 (by omega) hL).trans ?_
      refine (ck2 (by omega) hL).trans ?_
      refine (congrArg (fun q => Option.bind q _) e2).trans ?_
      exact fin1 e3 e4 (go m t o y.2 z.2 e5)
    refine (if_neg c10).trans ?_
    by_cases c11 : (xs (nI i).toNatClampNeg &&& 31).toInt = 11
    · refine (if_pos c11).trans ?_
      obtain ⟨z, y, e1, e2, e3, e4, e5⟩ := op_told hS (xs (nI i + 1).toNatClampNeg) (xs (nI i + 2).toNatClampNeg) lo
      refine (ck1 (by omega) hL).trans ?_
      refine (ck2 (by omega) hL).trans ?_
      refine (congrArg (fun q => Option.bind q _) e1).trans ?_
      refine (ck1 (by omega) hL).trans ?_
      refine (ck2 (by omega) hL).trans ?_
      refine (congrArg (fun q => Option.bind q _) e2).trans ?_
      exact fin1 e3 e4 (go m t o y.2 z.2 e5)
    refine (if_neg c11).trans ?_
    by_cases c12 : (xs (nI i).toNatClampNeg &&& 31).toInt = 12
    · refine (if_pos c12).trans ?_
      obtain ⟨z, y, e1, e2, e3, e4, e5⟩ := op_post hS (xs (nI i + 1).toNatClampNeg) (xs (nI i + 2).toNatClampNeg) lo
      refine (ck1 (by omega) hL).trans ?_
      refine (ck2 (by omega) hL).trans ?_
      refine (congrArg (fun q => Option.bind q _) e1).trans ?_
      refine (ck1 (by omega) hL).trans ?_
      refine (ck2 (by omega) hL).trans ?_
      refine (congrArg (fun q => Option.bind q _) e2).trans ?_
      exact fin1 e3 e4 (go m t o y.2 z.2 e5)
    refine (if_neg c12).trans ?_
    by_cases c13 : (xs (nI i).toNatClampNeg &&& 31).toInt = 13
    · refine (if_pos c13).trans ?_
      obtain ⟨z, y, e1, e2, e3, e4, e5⟩ := op_loft hS (xs (nI i + 1).toNatClampNeg) (xs (nI i + 2).toNatClampNeg) lo
      refine (ck1 (by omega) hL).trans ?_
      refine (ck2 (by omega) hL).trans ?_
      refine (congrArg (fun q => Option.bind q _) e1).trans ?_
      refine (ck1 (by omega) hL).trans ?_
      refine (ck2 (by omega) hL).trans ?_
      refine (congrArg (fun q => Option.bind q _) e2).trans ?_
      exact fin1 e3 e4 (go m t o y.2 z.2 e5)
    refine (if_neg c13).trans ?_
    by_cases c14 : (xs (nI i).toNatClampNeg &&& 31).toInt = 14
    · refine (if_pos c14).trans ?_
      obtain ⟨z, y, e1, e2, e3, e4, e5⟩ := op_count hS (xs (nI i + 1).toNatClampNeg) lo
      refine (ck1 (by omega) hL).trans ?_
      refine (congrArg (fun q => Option.bind q _) e1).trans ?_
      refine (ck1 (by omega) hL).trans ?_
      refine (congrArg (fun q => Option.bind q _) e2).trans ?_
      exact fin1 e3 e4 (go m t o y.2 z.2 e5)
    refine (if_neg c14).trans ?_
    by_cases c15 : (xs (nI i).toNatClampNeg &&& 31).toInt = 15
    · refine (if_pos c15).trans ?_
      obtain ⟨z, y, e1, e2, e3, e4, e5⟩ := op_pass hS (by omega) (xs (nI i + 1).toNatClampNeg) lo
      refine (ck1 (by omega) hL).trans ?_
      refine (congrArg (fun q => Option.bind q _) e1).trans ?_
      refine (ck1 (by omega) hL).trans ?_
      refine (congrArg (fun q => Option.bind q _) e2).trans ?_
      exact fin1 e3 e4 (go (m.dayed (z.2.1, z.2.2.1, z.2.2.2.1, z.2.2.2.2.1, z.2.2.2.2.2.1, z.2.2.2.2.2.2.1, z.2.2.2.2.2.2.2.1, z.2.2.2.2.2.2.2.2.1, z.2.2.2.2.2.2.2.2.2.1, z.2.2.2.2.2.2.2.2.2.2.1, z.2.2.2.2.2.2.2.2.2.2.2.1, z.2.2.2.2.2.2.2.2.2.2.2.2.1, z.2.2.2.2.2.2.2.2.2.2.2.2.2.1)) t (OS.of o.pairs o.teams o.water (y.2.2.1) (y.2.2.2.1) o.crews (y.2.2.2.2.1) (y.2.2.2.2.2.1) (y.2.2.2.2.2.2)) y.2.1 z.2.2.2.2.2.2.2.2.2.2.2.2.2.2 e5)
    refine (if_neg c15).trans ?_
    by_cases c16 : (xs (nI i).toNatClampNeg &&& 31).toInt = 16
    · refine (if_pos c16).trans ?_
      obtain ⟨z, y, e1, e2, e3, e4, e5⟩ := op_ripe hS (by omega) t (xs (nI i + 1).toNatClampNeg) (xs (nI i + 2).toNatClampNeg) lo
      refine (ck1 (by omega) hL).trans ?_
      refine (ck2 (by omega) hL).trans ?_
      refine (congrArg (fun q => Option.bind q _) e1).trans ?_
      refine (ck1 (by omega) hL).trans ?_
      refine (ck2 (by omega) hL).trans ?_
      refine (congrArg (fun q => Option.bind q _) e2).trans ?_
      exact fin1 e3 e4 (go m (MS.of (z.2.1) (z.2.2.1) (z.2.2.2.1) (z.2.2.2.2.1) (z.2.2.2.2.2.1) (z.2.2.2.2.2.2.1) (z.2.2.2.2.2.2.2.1) (z.2.2.2.2.2.2.2.2.1) (z.2.2.2.2.2.2.2.2.2.1) (z.2.2.2.2.2.2.2.2.2.2.1) (z.2.2.2.2.2.2.2.2.2.2.2.1) (z.2.2.2.2.2.2.2.2.2.2.2.2.1) (z.2.2.2.2.2.2.2.2.2.2.2.2.2.1) (z.2.2.2.2.2.2.2.2.2.2.2.2.2.2.1) (z.2.2.2.2.2.2.2.2.2.2.2.2.2.2.2.1) (z.2.2.2.2.2.2.2.2.2.2.2.2.2.2.2.2.1) (z.2.2.2.2.2.2.2.2.2.2.2.2.2.2.2.2.2.1) (z.2.2.2.2.2.2.2.2.2.2.2.2.2.2.2.2.2.2.1) (z.2.2.2.2.2.2.2.2.2.2.2.2.2.2.2.2.2.2.2.1) (z.2.2.2.2.2.2.2.2.2.2.2.2.2.2.2.2.2.2.2.2.1) (z.2.2.2.2.2.2.2.2.2.2.2.2.2.2.2.2.2.2.2.2.2.1) (z.2.2.2.2.2.2.2.2.2.2.2.2.2.2.2.2.2.2.2.2.2.2.1) (z.2.2.2.2.2.2.2.2.2.2.2.2.2.2.2.2.2.2.2.2.2.2.2.1) (z.2.2.2.2.2.2.2.2.2.2.2.2.2.2.2.2.2.2.2.2.2.2.2.2.1)) (OS.of o.pairs o.teams o.water (y.2.2.1) (y.2.2.2.1) (y.2.2.2.2.1) (y.2.2.2.2.2.1) (y.2.2.2.2.2.2.1) (y.2.2.2.2.2.2.2)) y.2.1 z.2.2.2.2.2.2.2.2.2.2.2.2.2.2.2.2.2.2.2.2.2.2.2.2.2 e5)
    refine (if_neg c16).trans ?_
    by_cases c17 : (xs (nI i).toNatClampNeg &&& 31).toInt = 17
    · refine (if_pos c17).trans ?_
      obtain ⟨z, y, e1, e2, e3, e4, e5⟩ := op_foresee hS (by omega) t (xs (nI i + 1).toNatClampNeg) (xs (nI i + 2).toNatClampNeg) lo
      refine (ck1 (by omega) hL).trans ?_
      refine (ck2 (by omega) hL).trans ?_
      refine (congrArg (fun q => Option.bind q _) e1).trans ?_
      refine (ck1 (by omega) hL).trans ?_
      refine (ck2 (by omega) hL).trans ?_
      refine (congrArg (fun q => Option.bind q _) e2).trans ?_
      exact fin1 e3 e4 (go m (MS.of (z.2.1) (z.2.2.1) (z.2.2.2.1) (z.2.2.2.2.1) (z.2.2.2.2.2.1) (z.2.2.2.2.2.2.1) (z.2.2.2.2.2.2.2.1) (z.2.2.2.2.2.2.2.2.1) (z.2.2.2.2.2.2.2.2.2.1) (z.2.2.2.2.2.2.2.2.2.2.1) (z.2.2.2.2.2.2.2.2.2.2.2.1) (z.2.2.2.2.2.2.2.2.2.2.2.2.1) (z.2.2.2.2.2.2.2.2.2.2.2.2.2.1) (z.2.2.2.2.2.2.2.2.2.2.2.2.2.2.1) (z.2.2.2.2.2.2.2.2.2.2.2.2.2.2.2.1) (z.2.2.2.2.2.2.2.2.2.2.2.2.2.2.2.2.1) (z.2.2.2.2.2.2.2.2.2.2.2.2.2.2.2.2.2.1) (z.2.2.2.2.2.2.2.2.2.2.2.2.2.2.2.2.2.2.1) (z.2.2.2.2.2.2.2.2.2.2.2.2.2.2.2.2.2.2.2.1) (z.2.2.2.2.2.2.2.2.2.2.2.2.2.2.2.2.2.2.2.2.1) (z.2.2.2.2.2.2.2.2.2.2.2.2.2.2.2.2.2.2.2.2.2.1) (z.2.2.2.2.2.2.2.2.2.2.2.2.2.2.2.2.2.2.2.2.2.2.1) (z.2.2.2.2.2.2.2.2.2.2.2.2.2.2.2.2.2.2.2.2.2.2.2.1) (z.2.2.2.2.2.2.2.2.2.2.2.2.2.2.2.2.2.2.2.2.2.2.2.2.1)) o y.2 z.2.2.2.2.2.2.2.2.2.2.2.2.2.2.2.2.2.2.2.2.2.2.2.2.2 e5)
    refine (if_neg c17).trans ?_
    by_cases c18 : (xs (nI i).toNatClampNeg &&& 31).toInt = 18
    · refine (if_pos c18).trans ?_
      obtain ⟨z, y, e1, e2, e3, e4, e5⟩ := op_advise hS (by omega) t (xs (nI i + 1).toNatClampNeg) lo
      refine (ck1 (by omega) hL).trans ?_
      refine (congrArg (fun q => Option.bind q _) e1).trans ?_
      refine (ck1 (by omega) hL).trans ?_
      refine (congrArg (fun q => Option.bind q _) e2).trans ?_
      exact fin1 e3 e4 (go m (MS.of (z.2.1) (z.2.2.1) (z.2.2.2.1) (z.2.2.2.2.1) (z.2.2.2.2.2.1) (z.2.2.2.2.2.2.1) (z.2.2.2.2.2.2.2.1) (z.2.2.2.2.2.2.2.2.1) (z.2.2.2.2.2.2.2.2.2.1) (z.2.2.2.2.2.2.2.2.2.2.1) (z.2.2.2.2.2.2.2.2.2.2.2.1) (z.2.2.2.2.2.2.2.2.2.2.2.2.1) (z.2.2.2.2.2.2.2.2.2.2.2.2.2.1) (z.2.2.2.2.2.2.2.2.2.2.2.2.2.2.1) (z.2.2.2.2.2.2.2.2.2.2.2.2.2.2.2.1) (z.2.2.2.2.2.2.2.2.2.2.2.2.2.2.2.2.1) (z.2.2.2.2.2.2.2.2.2.2.2.2.2.2.2.2.2.1) (z.2.2.2.2.2.2.2.2.2.2.2.2.2.2.2.2.2.2.1) (z.2.2.2.2.2.2.2.2.2.2.2.2.2.2.2.2.2.2.2.1) (z.2.2.2.2.2.2.2.2.2.2.2.2.2.2.2.2.2.2.2.2.1) (z.2.2.2.2.2.2.2.2.2.2.2.2.2.2.2.2.2.2.2.2.2.1) (z.2.2.2.2.2.2.2.2.2.2.2.2.2.2.2.2.2.2.2.2.2.2.1) (z.2.2.2.2.2.2.2.2.2.2.2.2.2.2.2.2.2.2.2.2.2.2.2.1) (z.2.2.2.2.2.2.2.2.2.2.2.2.2.2.2.2.2.2.2.2.2.2.2.2.1)) (OS.of o.pairs o.teams o.water (y.2.2.1) (y.2.2.2.1) (y.2.2.2.2.1) (y.2.2.2.2.2.1) (y.2.2.2.2.2.2.1) (y.2.2.2.2.2.2.2)) y.2.1 z.2.2.2.2.2.2.2.2.2.2.2.2.2.2.2.2.2.2.2.2.2.2.2.2.2 e5)
    refine (if_neg c18).trans ?_
    by_cases c19 : (xs (nI i).toNatClampNeg &&& 31).toInt = 19
    · refine (if_pos c19).trans ?_
      obtain ⟨z, e1, e2, e5⟩ := op_mean hS
      refine (congrArg (fun q => Option.bind q _) e1).trans ?_
      refine (congrArg (fun q => Option.bind q _) e2).trans ?_
      exact fin2 (go m t o 0 lo e5)
    refine (if_neg c19).trans ?_
    obtain ⟨z, e1, e2, e5⟩ := op_digest hS
    refine (congrArg (fun q => Option.bind q _) e1).trans ?_
    refine (congrArg (fun q => Option.bind q _) e2).trans ?_
    exact (if_pos ((lg_cmp_eq z z).mpr rfl)).trans (go m t o 0 lo e5)
theorem pz_f0 {f : FN} {g : Int32} {n : Nat} (h : ∀ j, j < n → f j = g) : ∀ j, j < n → f j = (fun _ => g) j := h
def pz_m0 : MS := (MS.of (0) (40) (30) (0) (0) (fun _ => 60) (fun _ => 4) (fun _ => 0) (fun _ => 0) (fun _ => -1) (0) (fun _ => 0) (fun _ => 0) (fun _ => 0) (0) (fun _ => 0) (fun _ => 0) (fun _ => 0) (0) (0) (fun _ => 0) (fun _ => 0) (fun _ => 0) (fun _ => 0))
def pz_o0 : OS := (OS.of (0) (0) ((upd (upd (upd (upd (upd (upd (upd (fun _ => 0) (0 : Int32).toNatClampNeg 4) (1 : Int32).toNatClampNeg 4) (2 : Int32).toNatClampNeg 4) (3 : Int32).toNatClampNeg 4) (4 : Int32).toNatClampNeg 4) (5 : Int32).toNatClampNeg 4) (6 : Int32).toNatClampNeg 4)) ((upd (upd (upd (upd (upd (upd (upd (upd (upd (upd (upd (upd (fun _ => 0) (0 : Int32).toNatClampNeg 0) (1 : Int32).toNatClampNeg 0) (2 : Int32).toNatClampNeg (-1)) (3 : Int32).toNatClampNeg 0) (4 : Int32).toNatClampNeg 0) (5 : Int32).toNatClampNeg (-1)) (6 : Int32).toNatClampNeg 0) (7 : Int32).toNatClampNeg 0) (8 : Int32).toNatClampNeg (-1)) (9 : Int32).toNatClampNeg 0) (10 : Int32).toNatClampNeg 0) (11 : Int32).toNatClampNeg (-1))) ((fun _ => 0)) ((fun _ => 0)) ((fun _ => 0)) ((fun _ => 0)) ((upd (upd (upd (upd (upd (upd (upd (upd (upd (fun _ => 0) (0 : Int32).toNatClampNeg 0) (1 : Int32).toNatClampNeg 40) (2 : Int32).toNatClampNeg 30) (3 : Int32).toNatClampNeg 0) (4 : Int32).toNatClampNeg 0) (5 : Int32).toNatClampNeg 0) (6 : Int32).toNatClampNeg 60) (7 : Int32).toNatClampNeg 60) (8 : Int32).toNatClampNeg 60)))
theorem inv0 : PInv 0 0 0 30 0 [] pz_m0 pz_o0 :=
  ⟨(rfl),
   (rfl),
   (rfl),
   (rfl),
   (rfl),
   (rfl),
   (fun j hj => by rcases (show j = 0 ∨ j = 1 ∨ j = 2 by omega) with rfl | rfl | rfl <;> rfl),
   (fun j hj => by rcases (show j = 0 ∨ j = 1 ∨ j = 2 ∨ j = 3 ∨ j = 4 ∨ j = 5 ∨ j = 6 by omega) with rfl | rfl | rfl | rfl | rfl | rfl | rfl <;> rfl),
   (fun j hj => ⟨4, by omega, rfl⟩),
   (fun j hj => rfl),
   (⟨(fun v hv => by rcases (show v = 0 ∨ v = 1 ∨ v = 2 ∨ v = 3 by omega) with rfl | rfl | rfl | rfl <;> rfl),
   (fun v hv => by rcases (show v = 0 ∨ v = 1 ∨ v = 2 ∨ v = 3 by omega) with rfl | rfl | rfl | rfl <;> rfl),
   (fun v hv => by rcases (show v = 0 ∨ v = 1 ∨ v = 2 ∨ v = 3 by omega) with rfl | rfl | rfl | rfl <;> rfl),
   (fun v hv => ⟨0, by omega, rfl⟩),
   (fun v hv => ⟨0, by omega, rfl⟩)⟩),
   (⟨(rfl),
   (rfl),
   (by omega),
   (fun _ _ => rfl),
   (fun _ _ => rfl),
   (fun _ _ => rfl),
   (fun p hp => ⟨0, by omega, rfl⟩),
   (fun p hp => absurd hp (by omega)),
   (fun p hp => ⟨0, by omega, rfl⟩),
   (fun _ _ _ => rfl)⟩),
   (⟨(rfl),
   (rfl),
   (by omega),
   (fun t ht => absurd ht (by omega)),
   (fun t ht => absurd ht (by omega)),
   (fun t ht => absurd ht (by omega)),
   (fun t ht => absurd ht (by omega)),
   (fun t ht => absurd ht (by omega)),
   (fun t ht => absurd ht (by omega))⟩),
   (⟨(rfl),
   (rfl),
   (by omega),
   (rfl),
   (rfl),
   (rfl),
   (by show 0 ≤ 30; omega),
   (fun x hx => absurd hx List.not_mem_nil),
   (fun k x hx => by simp at hx),
   (fun k x hx => by simp at hx)⟩)⟩
theorem pure_start {L : Nat} (hL : L ≤ 2048) (xs : FN) : fL_start L xs = some 1 :=
  law_go hL xs 513 0 0 pz_m0 pz_m0 pz_o0 0 (fun _ => 0) 0 rfl ⟨0, 0, 0, 30, 0, [], inv0, by omega, by omega⟩ rfl (by omega) (by omega)
