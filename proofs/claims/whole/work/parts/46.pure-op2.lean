theorem pb_hasN {N B : Nat} {a : Int32} (hN : N ≤ B) (hB : B < 1000) : (∃ n, n < N ∧ a = nI n ∧ (if a < 0 then some (0 : Int32) else if nI N ≤ a then some 0 else if nI B ≤ a then some 0 else some 1) = some 1 ∧ fX6_isIn a 0 (nI N - 1) = some 1) ∨ ((if a < 0 then some (0 : Int32) else if nI N ≤ a then some 0 else if nI B ≤ a then some 0 else some 1) = some 0 ∧ fX6_isIn a 0 (nI N - 1) = some 0) := by
  rcases pu_isB (a := a) (b := N) (by omega) with ⟨n, hn, rfl, i1, i2⟩ | ⟨i1, i2⟩
  · refine .inl ⟨n, hn, rfl, ?_, i2⟩
    rw [show (0 : Int32) = nI 0 from rfl, if_neg (by rw [pu_lt (by omega) (by omega)]; omega), if_neg (by rw [pu_le (by omega) (by omega)]; omega), if_neg (by rw [pu_le (by omega) (by omega)]; omega)]
  · refine .inr ⟨?_, i2⟩
    unfold fX5_isBelow at i1
    by_cases c : a < 0
    · rw [if_pos c]
    · rw [if_neg c] at i1 ⊢
      by_cases c2 : nI N ≤ a
      · rw [if_pos c2]
      · rw [if_neg c2] at i1
        cases i1
theorem pb_ckB {a b : Int32} : (fX6_isIn a 0 b).bind (fun z1 => ckB z1 (some z1)) = fX6_isIn a 0 b := by
  rw [pu_in]
  split <;> rfl
theorem pb_pairs {N : Nat} {a : Int32} (hN : N ≤ 5) : (∃ n, n < N ∧ a = nI n ∧ fX1_has (nI N) a = some 1 ∧ fX6_isPair (nI N) a = some 1) ∨ (fX1_has (nI N) a = some 0 ∧ fX6_isPair (nI N) a = some 0) := by
  unfold fX1_has fX6_isPair
  rw [pb_ckB]
  exact pb_hasN (B := 5) hN (by omega)
theorem pb_teams {N : Nat} {a : Int32} (hN : N ≤ 3) : (∃ n, n < N ∧ a = nI n ∧ fX3_has (nI N) a = some 1 ∧ fX6_isTeam (nI N) a = some 1) ∨ (fX3_has (nI N) a = some 0 ∧ fX6_isTeam (nI N) a = some 0) := by
  unfold fX3_has fX6_isTeam
  rw [pb_ckB]
  exact pb_hasN (B := 3) hN (by omega)
theorem pb_posts {N : Nat} {a : Int32} (hN : N ≤ 90) : (∃ n, n < N ∧ a = nI n ∧ fX2_has (nI N) a = some 1 ∧ fX6_isIn a 0 (nI N - 1) = some 1) ∨ (fX2_has (nI N) a = some 0 ∧ fX6_isIn a 0 (nI N - 1) = some 0) := by
  unfold fX2_has
  exact pb_hasN (B := 90) hN (by omega)
theorem upd3 {f : FN} {i w : Nat} {a b : Int32} : upd (upd f (3 * i) a) (3 * i + 1) b (3 * w) = if w = i then a else f (3 * w) := by
  unfold upd
  rw [if_neg (by omega)]
  by_cases c : w = i
  · rw [if_pos (by omega), if_pos c]
  · rw [if_neg (by omega), if_neg c]
theorem pz_RM.add {N : Nat} {nM pairs : Int32} {mark size worn mo : FN} (H : pz_RM N nM mark size worn pairs mo) (hN : N < 5) {a b : Nat} (ha : a ≤ 9) (hb1 : 1 ≤ b) (hb : b ≤ 3) : pz_RM (N + 1) (nI (N + 1)) (upd mark N (nI a)) (upd size N (nI b)) (upd worn N 0) (nI (N + 1)) (upd (upd mo (3 * N) (nI a)) (3 * N + 1) (nI b)) :=
  ⟨(rfl),
   (rfl),
   (hN),
   (fun q hq => by
    rw [pu_un (by omega)]
    by_cases c : q = N
    · subst c; rw [pu_up, pu_up]
    · rw [pu_un (by omega), pu_un c]; exact H.e0 q hq),
   (fun q hq => by
    by_cases c : q = N
    · subst c; rw [pu_up, pu_up]
    · rw [pu_un (by omega), pu_un (by omega), pu_un c]; exact H.e1 q hq),
   (fun q hq => by
    rw [pu_un (by omega), pu_un (by omega)]
    by_cases c : q = N
    · subst c; rw [pu_up, H.e2 q hq, H.w0 q (Nat.le_refl q) hq]
    · rw [pu_un c]; exact H.e2 q hq),
   (fun q hq => by
    by_cases c : q = N
    · subst c; rw [pu_up]; exact ⟨a, ha, rfl⟩
    · rw [pu_un c]; exact H.mr q hq),
   (fun q hq => by
    by_cases c : q = N
    · subst c; rw [pu_up]; exact ⟨b, hb1, hb, rfl⟩
    · rw [pu_un c]; exact H.sz q (by omega)),
   (fun q hq => by
    by_cases c : q = N
    · subst c; rw [pu_up]; exact ⟨0, by omega, rfl⟩
    · rw [pu_un c]; exact H.wn q hq),
   (fun q hq hq5 => by rw [pu_un (by omega)]; exact H.w0 q (by omega) hq5)⟩
theorem RT.more {N T : Nat} {nT teams : Int32} {skill vat pair cr : FN} (H : RT N T nT skill vat pair teams cr) : RT (N + 1) T nT skill vat pair teams cr :=
  ⟨H.n, H.n', H.le, H.e0, H.e1, H.e2, H.sk, H.vt, (fun t ht => (H.pr t ht).imp id (fun ⟨p, h1, h2⟩ => ⟨p, by omega, h2⟩))⟩
theorem RT.add {N T : Nat} {nT teams : Int32} {skill vat pair cr : FN} (H : RT N T nT skill vat pair teams cr) (hT : T < 3) {s : Nat} (h1 : 1 ≤ s) (h2 : s ≤ 12) : RT N (T + 1) (nI (T + 1)) (upd skill T (nI s)) (upd vat T (-1)) (upd pair T (-1)) (nI (T + 1)) (upd (upd (upd cr (3 * T) (nI s)) (3 * T + 1) (-1)) (3 * T + 2) (-1)) :=
  ⟨(rfl),
   (rfl),
   (hT),
   (fun q hq => by
    rw [pu_un (by omega), pu_un (by omega)]
    by_cases c : q = T
    · subst c; rw [pu_up, pu_up]
    · rw [pu_un (by omega), pu_un c]; exact H.e0 q (by omega)),
   (fun q hq => by
    rw [pu_un (by omega)]
    by_cases c : q = T
    · subst c; rw [pu_up, pu_up]
    · rw [pu_un (by omega), pu_un (by omega), pu_un c]; exact H.e1 q (by omega)),
   (fun q hq => by
    by_cases c : q = T
    · subst c; rw [pu_up, pu_up]
    · rw [pu_un (by omega), pu_un (by omega), pu_un (by omega), pu_un c]; exact H.e2 q (by omega)),
   (fun q hq => by
    by_cases c : q = T
    · subst c; rw [pu_up]; exact ⟨s, h1, h2, rfl⟩
    · rw [pu_un c]; exact H.sk q (by omega)),
   (fun q hq => by
    by_cases c : q = T
    · subst c; rw [pu_up]; exact .inl rfl
    · rw [pu_un c]; exact H.vt q (by omega)),
   (fun q hq => by
    by_cases c : q = T
    · subst c; rw [pu_up]; exact .inl rfl
    · rw [pu_un c]; exact H.pr q (by omega))⟩
theorem op_pair {k : Nat} {m : MS} {o : OS} (h : pz_St k m o) (a1 a2 : Int32) (lo : Nat → Int64) :
    ∃ z y, fL_pair m.nM m.mark m.size m.worn a1 a2 lo = some z ∧ fX6_pair o.pairs o.moulds a1 a2 = some y ∧ y.2.1 = z.1 ∧ (z.1 = 0 → lg_cmp (z.2.2.2.2.2 (0 : Int32).toNatClampNeg) y.1.toInt64 = 0) ∧ pz_St (k + 1) (MS.of m.day m.coins m.felts m.made m.worth m.rags m.water m.pulp m.beat m.sort (z.2.1) (z.2.2.1) (z.2.2.2.1) (z.2.2.2.2.1) m.nT m.skill m.vat m.pair m.nQ m.allS m.pmark m.pgrade m.psheets m.loft) (OS.of (y.2.2.1) o.teams o.water o.vats (y.2.2.2) o.crews o.posts o.loft o.nums) := by
  obtain ⟨D, N, T, F, W, l, H, h1, h2⟩ := id h
  have hN := H.rm.le
  rcases pu_isB (a := a1) (b := 10) (by omega) with ⟨a, ha, rfl, i1, i2⟩ | ⟨i1, i2⟩
  · rw [pz_e10] at i2
    rcases pu_is1 (a := a2) (b := 3) (by omega) with ⟨b, hb1, hb, rfl, j1, j2⟩ | ⟨j1, j2⟩
    · by_cases c : N < 5
      · have c' : nI N < nI 5 := (pu_lt (by omega) (by omega)).mpr c
        have c5 : ¬ nI N = nI 5 := fun x => by have := (pu_eq (by omega) (by omega)).mp x; omega
        have C : fX5_pair m.nM m.mark m.size m.worn (nI a) (nI b) = some (.inl (nI N, nI (N + 1), upd m.mark N (nI a), upd m.size N (nI b), upd m.worn N 0)) := by
          unfold fX5_pair fX1_add
          rw [k10, i1, pu_bs, if_neg pz_d10, pz_k3, j1, pu_bs, if_neg pz_d10, H.rm.n, pz_k5, if_pos c', if_pos c', pu_ck c (by omega), pu_ck c (by omega), pu_ck c (by omega), pu_tn (by omega), pz_k1, pu_add, pu_sub (by omega), Nat.add_sub_cancel, pu_bs]
        have M : fX6_pair o.pairs o.moulds (nI a) (nI b) = some (nI N, 0, nI (N + 1), upd (upd o.moulds (3 * N) (nI a)) (3 * N + 1) (nI b)) := by
          unfold fX6_pair
          rw [k9, i2, pu_bs, if_neg pz_d10, pz_k3, j2, pu_bs, if_neg pz_d10, H.rm.n', pz_k5, if_neg c5, pz_k1, show (0 : Int32) = nI 0 from rfl, pu_mul, pu_add, pu_add, pu_add, pu_ck (by omega) (by omega), pu_ck (by omega) (by omega), pu_tn (by omega), pu_tn (by omega), pu_sub (by omega), Nat.add_sub_cancel]
          rfl
        exact ⟨_, _, wl_pair C, M, rfl, fun _ => lo_ok lo _, pz_St.of ⟨H.day, H.day', H.coins, H.made, H.wth, H.wth', H.rags, H.water, H.wle, H.loft, H.rv, (H.rm.add c (by omega) hb1 hb), (H.rt.more), H.rq⟩ h1 h2⟩
      · have c' : ¬ nI N < nI 5 := fun x => c ((pu_lt (by omega) (by omega)).mp x)
        have c5 : nI N = nI 5 := by rw [show N = 5 by omega]
        have C : fX5_pair m.nM m.mark m.size m.worn (nI a) (nI b) = some (.inr 2) := by
          unfold fX5_pair
          rw [k10, i1, pu_bs, if_neg pz_d10, pz_k3, j1, pu_bs, if_neg pz_d10, H.rm.n, pz_k5, if_neg c']
        have M : fX6_pair o.pairs o.moulds (nI a) (nI b) = some (0, 3, o.pairs, o.moulds) := by
          unfold fX6_pair
          rw [k9, i2, pu_bs, if_neg pz_d10, pz_k3, j2, pu_bs, if_neg pz_d10, H.rm.n', pz_k5, if_pos c5, pz_f6, pu_bs, ← H.rm.n']
        exact ⟨_, _, wr_pair_2 C, M, rfl, ne0 (by first | exact pz_d10 | exact pz_d20 | exact pz_d30), h.up⟩
    · have C : fX5_pair m.nM m.mark m.size m.worn (nI a) a2 = some (.inr 1) := by
        unfold fX5_pair
        rw [k10, i1, pu_bs, if_neg pz_d10, pz_k3, j1, pu_bs, if_pos d00]
      have M : fX6_pair o.pairs o.moulds (nI a) a2 = some (0, 2, o.pairs, o.moulds) := by
        unfold fX6_pair
        rw [k9, i2, pu_bs, if_neg pz_d10, pz_k3, j2, pu_bs, if_pos d00, pz_f6, pu_bs]
      exact ⟨_, _, wr_pair_1 C, M, rfl, ne0 (by first | exact pz_d10 | exact pz_d20 | exact pz_d30), h.up⟩
  · rw [pz_e10] at i2
    have C : fX5_pair m.nM m.mark m.size m.worn a1 a2 = some (.inr 0) := by
      unfold fX5_pair
      rw [k10, i1, pu_bs, if_pos d00]
    have M : fX6_pair o.pairs o.moulds a1 a2 = some (0, 1, o.pairs, o.moulds) := by
      unfold fX6_pair
      rw [k9, i2, pu_bs, if_pos d00, pz_f6, pu_bs]
    exact ⟨_, _, wr_pair_0 C, M, rfl, ne0 (by first | exact pz_d10 | exact pz_d20 | exact pz_d30), h.up⟩
theorem PInv.wired {D N T F W : Nat} {l : List pz_PT} {m : MS} {o : OS} (H : PInv D N T F W l m o) (c : Int32) {p k : Nat} (hp : p < N) (hk : k ≤ 50) : PInv D N T F W l (MS.of m.day (c) m.felts m.made m.worth m.rags m.water m.pulp m.beat m.sort m.nM m.mark m.size (upd m.worn p (nI k)) m.nT m.skill m.vat m.pair m.nQ m.allS m.pmark m.pgrade m.psheets m.loft) (OS.of o.pairs o.teams o.water o.vats (upd o.moulds (3 * p + 2) (nI k)) o.crews o.posts o.loft (upd o.nums 1 c)) := by
  have G := H.money c
  exact ⟨G.day, G.day', G.coins, G.made, G.wth, G.wth', G.rags, G.water, G.wle, G.loft, G.rv, (H.rm.wear hp hk), G.rt, G.rq⟩
theorem op_wire {k : Nat} {m : MS} {o : OS} (h : pz_St k m o) (a1 : Int32) (lo : Nat → Int64) :
    ∃ z y, fL_wire m.coins m.nM m.worn a1 lo = some z ∧ fX6_wire o.pairs o.moulds o.nums a1 = some y ∧ y.2.1 = z.1 ∧ (z.1 = 0 → lg_cmp (z.2.2.2 (0 : Int32).toNatClampNeg) y.1.toInt64 = 0) ∧ pz_St (k + 1) (MS.of m.day (z.2.1) m.felts m.made m.worth m.rags m.water m.pulp m.beat m.sort m.nM m.mark m.size (z.2.2.1) m.nT m.skill m.vat m.pair m.nQ m.allS m.pmark m.pgrade m.psheets m.loft) (OS.of o.pairs o.teams o.water o.vats (y.2.2.1) o.crews o.posts o.loft (y.2.2.2)) := by
  obtain ⟨D, N, T, F, W, l, H, h1, h2⟩ := id h
  have hN := H.rm.le
  rcases pb_pairs (a := a1) hN with ⟨p, hp, rfl, i1, i2⟩ | ⟨i1, i2⟩
  · obtain ⟨w, hw, ew⟩ := H.rm.wn p (by omega)
    have em : fX6_mo o.moulds (nI p) (nI 2) = some (nI w) := by rw [pb_mo (by omega), H.rm.e2 p (by omega), ew]
    by_cases c0 : nI w = 0
    · have C : fX5_wire m.coins m.nM m.worn (nI p) = some (.inr 2) := by
        unfold fX5_wire
        rw [H.rm.n, i1, pu_bs, if_neg pz_d10, pb_wornOf hp hN, pu_bs, ew, if_pos c0]
      have M : fX6_wire o.pairs o.moulds o.nums (nI p) = some (0, 2, o.moulds, o.nums) := by
        unfold fX6_wire
        rw [H.rm.n', i2, pu_bs, if_neg pz_d10, pz_k2, em, pu_bs, if_pos c0, pz_f6, pu_bs]
      exact ⟨_, _, wr_wire_2 C, M, rfl, ne0 (by first | exact pz_d10 | exact pz_d20 | exact pz_d30), h.up⟩
    · by_cases c5 : nI 5 ≤ m.coins
      · have C : fX5_wire m.coins m.nM m.worn (nI p) = some (.inl (nI w, m.coins - nI 5, upd m.worn p (nI 0))) := by
          unfold fX5_wire fX1_makeNew
          rw [H.rm.n, i1, pu_bs, if_neg pz_d10, pb_wornOf hp hN, pu_bs, ew, if_neg c0, pz_k5, if_pos c5, pu_bs, if_neg pz_d10, pu_ck (by omega) (by omega), pu_tn (by omega), pu_bs]
          rfl
        have M : fX6_wire o.pairs o.moulds o.nums (nI p) = some (nI w, 0, upd o.moulds (3 * p + 2) (nI 0), upd o.nums 1 (m.coins - nI 5)) := by
          unfold fX6_wire
          rw [H.rm.n', i2, pu_bs, if_neg pz_d10, pz_k2, em, pu_bs, if_neg c0, pc1, H.coins, pz_k5, if_pos c5, pz_k3, pu_mul, pu_add, pu_ck (by omega) (by omega), pu_tn (by omega)]
          rfl
        exact ⟨_, _, wl_wire C, M, rfl, fun _ => lo_ok lo _, pz_St.of (H.wired (m.coins - nI 5) hp (k := 0) (by omega)) h1 h2⟩
      · have C : fX5_wire m.coins m.nM m.worn (nI p) = some (.inr 2) := by
          unfold fX5_wire
          rw [H.rm.n, i1, pu_bs, if_neg pz_d10, pb_wornOf hp hN, pu_bs, ew, if_neg c0, pz_k5, if_neg c5]
        have M : fX6_wire o.pairs o.moulds o.nums (nI p) = some (0, 2, o.moulds, o.nums) := by
          unfold fX6_wire
          rw [H.rm.n', i2, pu_bs, if_neg pz_d10, pz_k2, em, pu_bs, if_neg c0, pc1, H.coins, pz_k5, if_neg c5, pz_f6, pu_bs]
        exact ⟨_, _, wr_wire_2 C, M, rfl, ne0 (by first | exact pz_d10 | exact pz_d20 | exact pz_d30), h.up⟩
  · have C : fX5_wire m.coins m.nM m.worn a1 = some (.inr 0) := by
      unfold fX5_wire
      rw [H.rm.n, i1, pu_bs, if_pos d00]
    have M : fX6_wire o.pairs o.moulds o.nums a1 = some (0, 1, o.moulds, o.nums) := by
      unfold fX6_wire
      rw [H.rm.n', i2, pu_bs, if_pos d00, pz_f6, pu_bs]
    exact ⟨_, _, wr_wire_0 C, M, rfl, ne0 (by first | exact pz_d10 | exact pz_d20 | exact pz_d30), h.up⟩
theorem op_team {k : Nat} {m : MS} {o : OS} (h : pz_St k m o) (a1 : Int32) (lo : Nat → Int64) :
    ∃ z y, fL_team m.nT m.skill m.vat m.pair a1 lo = some z ∧ fX6_team o.teams o.crews a1 = some y ∧ y.2.1 = z.1 ∧ (z.1 = 0 → lg_cmp (z.2.2.2.2.2 (0 : Int32).toNatClampNeg) y.1.toInt64 = 0) ∧ pz_St (k + 1) (MS.of m.day m.coins m.felts m.made m.worth m.rags m.water m.pulp m.beat m.sort m.nM m.mark m.size m.worn (z.2.1) (z.2.2.1) (z.2.2.2.1) (z.2.2.2.2.1) m.nQ m.allS m.pmark m.pgrade m.psheets m.loft) (OS.of o.pairs (y.2.2.1) o.water o.vats o.moulds (y.2.2.2) o.posts o.loft o.nums) := by
  obtain ⟨D, N, T, F, W, l, H, h1, h2⟩ := id h
  have hT := H.rt.le
  rcases pu_is1 (a := a1) (b := 12) (by omega) with ⟨s, hs1, hs, rfl, j1, j2⟩ | ⟨j1, j2⟩
  · by_cases c : T < 3
    · have c' : nI T < nI 3 := (pu_lt (by omega) (by omega)).mpr c
      have c5 : ¬ nI T = nI 3 := fun x => by have := (pu_eq (by omega) (by omega)).mp x; omega
      have C : fX5_team m.nT m.skill m.vat m.pair (nI s) = some (.inl (nI T, nI (T + 1), upd m.skill T (nI s), upd m.vat T (-1), upd m.pair T (-1))) := by
        unfold fX5_team fX3_add
        rw [k12, j1, pu_bs, if_neg pz_d10, H.rt.n, pz_k3, if_pos c', if_pos c', pu_ck c (by omega), pu_ck c (by omega), pu_ck c (by omega), pu_tn (by omega), pz_k1, pu_add, pu_sub (by omega), Nat.add_sub_cancel, pu_bs]
      have M : fX6_team o.teams o.crews (nI s) = some (nI T, 0, nI (T + 1), upd (upd (upd o.crews (3 * T) (nI s)) (3 * T + 1) (-1)) (3 * T + 2) (-1)) := by
        unfold fX6_team
        rw [k12, j2, pu_bs, if_neg pz_d10, H.rt.n', pz_k3, if_neg c5, pz_k1, pz_k2, show (0 : Int32) = nI 0 from rfl, pu_mul, pu_add, pu_add, pu_add, pu_add, pu_ck (by omega) (by omega), pu_ck (by omega) (by omega), pu_ck (by omega) (by omega), pu_tn (by omega), pu_tn (by omega), pu_tn (by omega), pu_sub (by omega), Nat.add_sub_cancel]
        rfl
      exact ⟨_, _, wl_team C, M, rfl, fun _ => lo_ok lo _, pz_St.of ⟨H.day, H.day', H.coins, H.made, H.wth, H.wth', H.rags, H.water, H.wle, H.loft, H.rv, H.rm, (H.rt.add c hs1 hs), H.rq⟩ h1 h2⟩
    · have c' : ¬ nI T < nI 3 := fun x => c ((pu_lt (by omega) (by omega)).mp x)
      have c5 : nI T = nI 3 := by rw [show T = 3 by omega]
      have C : fX5_team m.nT m.skill m.vat m.pair (nI s) = some (.inr 2) := by
        unfold fX5_team
        rw [k12, j1, pu_bs, if_neg pz_d10, H.rt.n, pz_k3, if_neg c']
      have M : fX6_team o.teams o.crews (nI s) = some (0, 2, o.teams, o.crews) := by
        unfold fX6_team
        rw [k12, j2, pu_bs, if_neg pz_d10, H.rt.n', pz_k3, if_pos c5, pz_f6, pu_bs, ← H.rt.n']
      exact ⟨_, _, wr_team_2 C, M, rfl, ne0 (by first | exact pz_d10 | exact pz_d20 | exact pz_d30), h.up⟩
  · have C : fX5_team m.nT m.skill m.vat m.pair a1 = some (.inr 1) := by
      unfold fX5_team
      rw [k12, j1, pu_bs, if_pos d00]
    have M : fX6_team o.teams o.crews a1 = some (0, 1, o.teams, o.crews) := by
      unfold fX6_team
      rw [k12, j2, pu_bs, if_pos d00, pz_f6, pu_bs]
    exact ⟨_, _, wr_team_1 C, M, rfl, ne0 (by first | exact pz_d10 | exact pz_d20 | exact pz_d30), h.up⟩
theorem neM {n : Nat} (h : n < 2147483648) : ¬ nI n = -1 := fun x => (pu_em h).mp x
theorem op_place {k : Nat} {m : MS} {o : OS} (h : pz_St k m o) (a1 a2 a3 : Int32) (lo : Nat → Int64) :
    ∃ z y, fL_place m.felts m.pulp m.beat m.nM m.size m.nT m.skill m.vat m.pair m.allS a1 a2 a3 lo = some z ∧ fX6_place o.pairs o.teams o.vats o.moulds o.crews o.posts o.nums a1 a2 a3 = some y ∧ y.2.1 = z.1 ∧ (z.1 = 0 → lg_cmp (z.2.2.2 (0 : Int32).toNatClampNeg) y.1.toInt64 = 0) ∧ pz_St (k + 1) (MS.of m.day m.coins m.felts m.made m.worth m.rags m.water m.pulp m.beat m.sort m.nM m.mark m.size m.worn m.nT m.skill (z.2.1) (z.2.2.1) m.nQ m.allS m.pmark m.pgrade m.psheets m.loft) (OS.of o.pairs o.teams o.water o.vats o.moulds (y.2.2) o.posts o.loft o.nums) := by
  obtain ⟨D, N, T, F, W, l, H, h1, h2⟩ := id h
  have hN := H.rm.le
  have hT := H.rt.le
  rcases pb_teams (a := a1) hT with ⟨t, ht, rfl, i1, i2⟩ | ⟨i1, i2⟩
  · -- the vat
    by_cases V : a2 = -1 ∨ ∃ v, v < 4 ∧ a2 = nI v
    · have C1 : fX5_place m.felts m.pulp m.beat m.nM m.size m.nT m.skill m.vat m.pair m.allS (nI t) a2 a3 = fX5_place_L47 m.felts m.pulp m.beat m.nM m.size m.nT m.skill m.vat m.pair m.allS (nI t) a2 a3 := by
        unfold fX5_place
        rw [H.rt.n, i1, pu_bs, if_neg pz_d10]
        rcases V with rfl | ⟨v, hv, rfl⟩
        · rw [if_pos rfl]
        · rw [if_neg (neM (by omega)), pz_k4, pb_in hv (by omega), pu_bs, if_neg pz_d10]
      have M1 : fX6_place o.pairs o.teams o.vats o.moulds o.crews o.posts o.nums (nI t) a2 a3 = fX6_place_L25 o.pairs o.teams o.vats o.moulds o.crews o.posts o.nums (nI t) a2 a3 0 := by
        unfold fX6_place
        rw [H.rt.n', i2, pu_bs, if_neg pz_d10]
        rcases V with rfl | ⟨v, hv, rfl⟩
        · rw [if_pos rfl]
        · rw [if_neg (neM (by omega)), pb_isVat, e4', pu_in, pu_ti (by omega), pu_ti (by omega), if_pos ⟨Int.natCast_nonneg v, by omega⟩, pu_bs, if_neg pz_d10]
      by_cases P : a3 = -1 ∨ ∃ p, p < N ∧ a3 = nI p
      · have C2 : fX5_place_L47 m.felts m.pulp m.beat m.nM m.size m.nT m.skill m.vat m.pair m.allS (nI t) a2 a3 = fX5_place_L76 m.felts m.pulp m.beat m.nM m.size m.nT m.skill m.vat m.pair m.allS (nI t) a2 a3 := by
          unfold fX5_place_L47
          rcases P with rfl | ⟨p, hp, rfl⟩
          · rw [if_pos rfl]
          · rw [if_neg (neM (by omega)), H.rm.n, pb_has1 hp hN, pu_bs, if_neg pz_d10]
        have M2 : fX6_place_L25 o.pairs o.teams o.vats o.moulds o.crews o.posts o.nums (nI t) a2 a3 0 = fX6_place_L44 o.teams o.vats o.moulds o.crews o.posts o.nums (nI t) a2 a3 0 := by
          unfold fX6_place_L25
          rcases P with rfl | ⟨p, hp, rfl⟩
          · rw [if_pos rfl]
          · rcases pb_pairs (a := nI p) hN with ⟨_, _, _, _, q2⟩ | ⟨q1, _⟩
            · rw [if_neg (neM (by omega)), H.rm.n', q2, pu_bs, if_neg pz_d10]
            · rw [pb_has1 hp hN] at q1; exact absurd (Option.some.inj q1) pz_d10
        have H' : PInv D N T F W l (MS.of m.day m.coins m.felts m.made m.worth m.rags m.water m.pulp m.beat m.sort m.nM m.mark m.size m.worn m.nT m.skill (upd m.vat t a2) (upd m.pair t a3) m.nQ m.allS m.pmark m.pgrade m.psheets m.loft) (OS.of o.pairs o.teams o.water o.vats o.moulds (upd (upd o.crews (3 * t + 1) a2) (3 * t + 2) a3) o.posts o.loft o.nums) := ⟨H.day, H.day', H.coins, H.made, H.wth, H.wth', H.rags, H.water, H.wle, H.loft, H.rv, H.rm, ((H.rt.at V).hs P), H.rq⟩
        obtain ⟨z, g1, g2, -⟩ := pb_makes H'.rv H'.rm H'.rt H'.rq ht
        have sent : (fX3_send m.nT m.vat m.pair (nI t) a2 a3).bind (fun z7 => (fX0_sheetsOf m.felts m.pulp m.beat m.nM m.size m.nT m.skill z7.1 z7.2 m.allS (nI t)).bind fun z8 => (some (.inl (z8, z7.1, z7.2)) : Option ((Int32 × FN × FN) ⊕ Nat))) = some (.inl (nI z, upd m.vat t a2, upd m.pair t a3)) := by
          have g1' : fX0_sheetsOf m.felts m.pulp m.beat m.nM m.size m.nT m.skill (upd m.vat t a2) (upd m.pair t a3) m.allS (nI t) = some (nI z) := g1
          rw [H.rt.n, pb_send ht hT, pu_bs, ← H.rt.n]
          show (fX0_sheetsOf m.felts m.pulp m.beat m.nM m.size m.nT m.skill (upd m.vat t a2) (upd m.pair t a3) m.allS (nI t)).bind _ = _
          rw [g1', pu_bs]
        have msent : fX6_place_L73 o.vats o.moulds o.crews o.posts o.nums (nI t) a2 a3 0 = some (nI z, 0, upd (upd o.crews (3 * t + 1) a2) (3 * t + 2) a3) := by
          have g2' : fX6_makes o.vats o.moulds (upd (upd o.crews (3 * t + 1) a2) (3 * t + 2) a3) o.posts o.nums (nI t) = some (nI z) := g2
          unfold fX6_place_L73
          rw [pz_k1, pz_k2, pz_k3, pu_mul, pu_add, pu_add, pu_ck (by omega) (by omega), pu_ck (by omega) (by omega), pu_tn (by omega), pu_tn (by omega), g2', pu_bs]
        have good : ∀ (C : fX5_place_L76 m.felts m.pulp m.beat m.nM m.size m.nT m.skill m.vat m.pair m.allS (nI t) a2 a3 = some (.inl (nI z, upd m.vat t a2, upd m.pair t a3))) (M : fX6_place_L44 o.teams o.vats o.moulds o.crews o.posts o.nums (nI t) a2 a3 0 = some (nI z, 0, upd (upd o.crews (3 * t + 1) a2) (3 * t + 2) a3)), ∃ z y, fL_place m.felts m.pulp m.beat m.nM m.size m.nT m.skill m.vat m.pair m.allS (nI t) a2 a3 lo = some z ∧ fX6_place o.pairs o.teams o.vats o.moulds o.crews o.posts o.nums (nI t) a2 a3 = some y ∧ y.2.1 = z.1 ∧ (z.1 = 0 → lg_cmp (z.2.2.2 (0 : Int32).toNatClampNeg) y.1.toInt64 = 0) ∧ pz_St (k + 1) (MS.of m.day m.coins m.felts m.made m.worth m.rags m.water m.pulp m.beat m.sort m.nM m.mark m.size m.worn m.nT m.skill (z.2.1) (z.2.2.1) m.nQ m.allS m.pmark m.pgrade m.psheets m.loft) (OS.of o.pairs o.teams o.water o.vats o.moulds (y.2.2) o.posts o.loft o.nums) :=
          fun C M => ⟨_, _, wl_place ((C1.trans C2).trans C), (M1.trans M2).trans M, rfl, fun _ => lo_ok lo _, pz_St.of H' h1 h2⟩
        rcases P with rfl | ⟨p, hp, rfl⟩
        · refine good ?_ ?_
          · unfold fX5_place_L76
            rw [show fX3_holderOf m.nT m.pair (-1) = some (-1) from by unfold fX3_holderOf; rw [if_pos rfl], pu_bs, if_pos rfl]
            exact sent
          · unfold fX6_place_L44
            rw [if_pos rfl]
            exact msent
        · obtain ⟨r, r1, r2, r3⟩ := pb_holder H.rt (p := p) (by omega)
          by_cases c1 : r = -1
          · refine good ?_ ?_
            · unfold fX5_place_L76
              rw [r1, pu_bs, if_pos c1]
              exact sent
            · unfold fX6_place_L44
              rw [if_neg (neM (by omega)), r2, pu_bs, if_pos c1]
              exact msent
          · by_cases c2 : r = nI t
            · refine good ?_ ?_
              · unfold fX5_place_L76
                rw [r1, pu_bs, if_neg c1, if_pos c2]
                exact sent
              · unfold fX6_place_L44
                rw [if_neg (neM (by omega)), r2, pu_bs, if_neg c1, pu_bs, if_pos c2]
                exact msent
            · have C3 : fX5_place_L76 m.felts m.pulp m.beat m.nM m.size m.nT m.skill m.vat m.pair m.allS (nI t) a2 (nI p) = some (.inr 2) := by
                unfold fX5_place_L76
                rw [r1, pu_bs, if_neg c1, if_neg c2]
              have M3 : fX6_place_L44 o.teams o.vats o.moulds o.crews o.posts o.nums (nI t) a2 (nI p) 0 = some (0, 2, o.crews) := by
                unfold fX6_place_L44
                rw [if_neg (neM (by omega)), r2, pu_bs, if_neg c1, pu_bs, if_neg c2, pz_f6, pu_bs]
              exact ⟨_, _, wr_place_2 ((C1.trans C2).trans C3), (M1.trans M2).trans M3, rfl, ne0 (by first | exact pz_d10 | exact pz_d20 | exact pz_d30), h.up⟩
      · have c3 : ¬ a3 = -1 := fun x => P (.inl x)
        have C2 : fX5_place_L47 m.felts m.pulp m.beat m.nM m.size m.nT m.skill m.vat m.pair m.allS (nI t) a2 a3 = some (.inr 0) := by
          unfold fX5_place_L47
          rcases pb_pairs (a := a3) hN with ⟨p, hp, e, _⟩ | ⟨q1, _⟩
          · exact absurd (.inr ⟨p, hp, e⟩) P
          · rw [if_neg c3, H.rm.n, q1, pu_bs, if_pos d00]
        have M2 : fX6_place_L25 o.pairs o.teams o.vats o.moulds o.crews o.posts o.nums (nI t) a2 a3 0 = some (0, 1, o.crews) := by
          unfold fX6_place_L25
          rcases pb_pairs (a := a3) hN with ⟨p, hp, e, _⟩ | ⟨_, q2⟩
          · exact absurd (.inr ⟨p, hp, e⟩) P
          · rw [if_neg c3, H.rm.n', q2, pu_bs, if_pos d00, pz_f6, pu_bs]
        exact ⟨_, _, wr_place_0 (C1.trans C2), M1.trans M2, rfl, ne0 (by first | exact pz_d10 | exact pz_d20 | exact pz_d30), h.up⟩
    · have c2 : ¬ a2 = -1 := fun x => V (.inl x)
      rcases pu_isB (a := a2) (b := 4) (by omega) with ⟨v, hv, e, _⟩ | ⟨q1, q2⟩
      · exact absurd (.inr ⟨v, hv, e⟩) V
      · have C : fX5_place m.felts m.pulp m.beat m.nM m.size m.nT m.skill m.vat m.pair m.allS (nI t) a2 a3 = some (.inr 0) := by
          unfold fX5_place
          rw [H.rt.n, i1, pu_bs, if_neg pz_d10, if_neg c2, pz_k4, q1, pu_bs, if_pos d00]
        have M : fX6_place o.pairs o.teams o.vats o.moulds o.crews o.posts o.nums (nI t) a2 a3 = some (0, 1, o.crews) := by
          unfold fX6_place
          rw [H.rt.n', i2, pu_bs, if_neg pz_d10, if_neg c2, pb_isVat, q2, pu_bs, if_pos d00, pz_f6, pu_bs]
        exact ⟨_, _, wr_place_0 C, M, rfl, ne0 (by first | exact pz_d10 | exact pz_d20 | exact pz_d30), h.up⟩
  · have C : fX5_place m.felts m.pulp m.beat m.nM m.size m.nT m.skill m.vat m.pair m.allS a1 a2 a3 = some (.inr 0) := by
      unfold fX5_place
      rw [H.rt.n, i1, pu_bs, if_pos d00]
    have M : fX6_place o.pairs o.teams o.vats o.moulds o.crews o.posts o.nums a1 a2 a3 = some (0, 1, o.crews) := by
      unfold fX6_place
      rw [H.rt.n', i2, pu_bs, if_pos d00, pz_f6, pu_bs]
    exact ⟨_, _, wr_place_0 C, M, rfl, ne0 (by first | exact pz_d10 | exact pz_d20 | exact pz_d30), h.up⟩
theorem wat' {f g : FN} (h : ∀ j, j < 7 → f j = g j) (i : Nat) (x : Int32) : ∀ j, j < 7 → upd f i x j = upd g i x j := fun j hj => by
  unfold upd
  rw [h j hj]
theorem wle' {f : FN} (h : ∀ j, j < 7 → ∃ q, q ≤ 9 ∧ f j = nI q) (i : Nat) {x : Nat} (hx : x ≤ 9) : ∀ j, j < 7 → ∃ q, q ≤ 9 ∧ upd f i (nI x) j = nI q := fun j hj => by
  unfold upd
  split
  · exact ⟨x, hx, rfl⟩
  · exact h j hj
theorem op_setWater {k : Nat} {m : MS} {o : OS} (h : pz_St k m o) (a1 a2 : Int32) (lo : Nat → Int64) :
    ∃ z y, fL_setWater m.water a1 a2 lo = some z ∧ fX6_setWater o.water a1 a2 = some y ∧ y.2.1 = z.1 ∧ (z.1 = 0 → lg_cmp (z.2.2 (0 : Int32).toNatClampNeg) y.1.toInt64 = 0) ∧ pz_St (k + 1) (MS.of m.day m.coins m.felts m.made m.worth m.rags (z.2.1) m.pulp m.beat m.sort m.nM m.mark m.size m.worn m.nT m.skill m.vat m.pair m.nQ m.allS m.pmark m.pgrade m.psheets m.loft) (OS.of o.pairs o.teams (y.2.2) o.vats o.moulds o.crews o.posts o.loft o.nums) := by
  obtain ⟨D, N, T, F, W, l, H, h1, h2⟩ := id h
  rcases pu_isB (a := a1) (b := 7) (by omega) with ⟨d, hd, rfl, i1, i2⟩ | ⟨i1, i2⟩
  · rw [e7'] at i2
    rcases pu_isB (a := a2) (b := 10) (by omega) with ⟨w, hw, rfl, -, j2⟩ | ⟨j1, j2⟩
    · rw [pz_e10] at j2
      have c1 : ¬ nI w < 0 := by rw [show (0 : Int32) = nI 0 from rfl, pu_lt (by omega) (by omega)]; omega
      have c2 : nI w ≤ nI 9 := by rw [pu_le (by omega) (by omega)]; omega
      have C : fX5_setWater m.water (nI d) (nI w) = some (.inl (m.water d, upd m.water d (nI w))) := by
        unfold fX5_setWater
        rw [pz_k7, i1, pu_bs, if_neg pz_d10, if_neg c1, k9, if_pos c2, pu_ck hd (by omega), pu_ck hd (by omega), pu_tn (by omega)]
      have M : fX6_setWater o.water (nI d) (nI w) = some (m.water d, 0, upd o.water d (nI w)) := by
        unfold fX6_setWater
        rw [pz_k6, i2, pu_bs, if_neg pz_d10, k9, j2, pu_bs, if_neg pz_d10, pu_ck hd (by omega), pu_ck hd (by omega), pu_tn (by omega), H.water d hd]
      exact ⟨_, _, wl_setWater C, M, rfl, fun _ => lo_ok lo _, pz_St.of ⟨H.day, H.day', H.coins, H.made, H.wth, H.wth', H.rags, (wat' H.water d (nI w)), (wle' H.wle d (by omega)), H.loft, H.rv, H.rm, H.rt, H.rq⟩ h1 h2⟩
    · rw [pz_e10] at j2
      have C : fX5_setWater m.water (nI d) a2 = some (.inr 1) := by
        unfold fX5_setWater
        rw [pz_k7, i1, pu_bs, if_neg pz_d10]
        unfold fX5_isBelow at j1
        by_cases c : a2 < 0
        · rw [if_pos c]
        · rw [if_neg c] at j1 ⊢
          by_cases c9 : a2 ≤ 9
          · have : ¬ nI 10 ≤ a2 := by
              rw [Int32.le_iff_toInt_le] at c9 ⊢
              rw [pu_ti (by omega)]
              have : (9 : Int32).toInt = 9 := rfl
              omega
            rw [if_neg this] at j1
            cases j1
          · rw [if_neg c9]
      have M : fX6_setWater o.water (nI d) a2 = some (0, 2, o.water) := by
        unfold fX6_setWater
        rw [pz_k6, i2, pu_bs, if_neg pz_d10, k9, j2, pu_bs, if_pos d00, pz_f6, pu_bs]
      exact ⟨_, _, wr_setWater_1 C, M, rfl, ne0 (by first | exact pz_d10 | exact pz_d20 | exact pz_d30), h.up⟩
  · rw [e7'] at i2
    have C : fX5_setWater m.water a1 a2 = some (.inr 0) := by
      unfold fX5_setWater
      rw [pz_k7, i1, pu_bs, if_pos d00]
    have M : fX6_setWater o.water a1 a2 = some (0, 1, o.water) := by
      unfold fX6_setWater
      rw [pz_k6, i2, pu_bs, if_pos d00, pz_f6, pu_bs]
    exact ⟨_, _, wr_setWater_0 C, M, rfl, ne0 (by first | exact pz_d10 | exact pz_d20 | exact pz_d30), h.up⟩
theorem RV.tell {p b s f : FN} (H : RV p b s f) {v w : Nat} (hv : v < 4) (hw : w < 3) : ∃ r, fX4_tell p b s (nI v) (nI w) = some r ∧ f (3 * v + w) = r := by
  rcases (show w = 0 ∨ w = 1 ∨ w = 2 by omega) with rfl | rfl | rfl
  · refine ⟨p v, ?_, H.e0 v hv⟩
    show (fX4_pulpOf p (nI v)).bind (fun z => some z) = _
    rw [pb_pulpOf hv]; rfl
  · refine ⟨b v, ?_, H.e1 v hv⟩
    show (fX4_beatOf b (nI v)).bind (fun z => some z) = _
    rw [pb_beatOf hv]; rfl
  · refine ⟨s v, ?_, H.e2 v hv⟩
    show (fX4_sortOf s (nI v)).bind (fun z => some z) = _
    rw [pb_sortOf hv]; rfl
theorem op_about {k : Nat} {m : MS} {o : OS} (h : pz_St k m o) (a1 a2 : Int32) (lo : Nat → Int64) :
    ∃ z y, fL_about m.pulp m.beat m.sort a1 a2 lo = some z ∧ fX6_about o.vats a1 a2 = some y ∧ y.2 = z.1 ∧ (z.1 = 0 → lg_cmp (z.2 (0 : Int32).toNatClampNeg) y.1.toInt64 = 0) ∧ pz_St (k + 1) m o := by
  obtain ⟨D, N, T, F, W, l, H, h1, h2⟩ := id h
  rcases pu_isB (a := a1) (b := 4) (by omega) with ⟨v, hv, rfl, i1, i2⟩ | ⟨i1, i2⟩
  · rcases pu_isB (a := a2) (b := 3) (by omega) with ⟨w, hw, rfl, j1, j2⟩ | ⟨j1, j2⟩
    · rw [e3'] at j2
      obtain ⟨r, r1, r2⟩ := H.rv.tell hv hw
      have C : fX5_about m.pulp m.beat m.sort (nI v) (nI w) = some (.inl r) := by
        unfold fX5_about
        rw [pz_k4, i1, pu_bs, if_neg pz_d10, pz_k3, j1, pu_bs, if_neg pz_d10, r1, pu_bs]
      have M : fX6_about o.vats (nI v) (nI w) = some (r, 0) := by
        unfold fX6_about
        rw [pb_isVat, i2, pu_bs, if_neg pz_d10, pz_k2, j2, pu_bs, if_neg pz_d10, pb_va (by omega), pu_bs, r2]
      exact ⟨_, _, wl_about C, M, rfl, fun _ => lo_ok lo _, h.up⟩
    · rw [e3'] at j2
      have C : fX5_about m.pulp m.beat m.sort (nI v) a2 = some (.inr 0) := by
        unfold fX5_about
        rw [pz_k4, i1, pu_bs, if_neg pz_d10, pz_k3, j1, pu_bs, if_pos d00]
      have M : fX6_about o.vats (nI v) a2 = some (0, 1) := by
        unfold fX6_about
        rw [pb_isVat, i2, pu_bs, if_neg pz_d10, pz_k2, j2, pu_bs, if_pos d00, pz_f6, pu_bs]
      exact ⟨_, _, wr_about_0 C, M, rfl, ne0 (by first | exact pz_d10 | exact pz_d20 | exact pz_d30), h.up⟩
  · have C : fX5_about m.pulp m.beat m.sort a1 a2 = some (.inr 0) := by
      unfold fX5_about
      rw [pz_k4, i1, pu_bs, if_pos d00]
    have M : fX6_about o.vats a1 a2 = some (0, 1) := by
      unfold fX6_about
      rw [pb_isVat, i2, pu_bs, if_pos d00, pz_f6, pu_bs]
    exact ⟨_, _, wr_about_0 C, M, rfl, ne0 (by first | exact pz_d10 | exact pz_d20 | exact pz_d30), h.up⟩
theorem op_mould {k : Nat} {m : MS} {o : OS} (h : pz_St k m o) (a1 a2 : Int32) (lo : Nat → Int64) :
    ∃ z y, fL_mould m.nM m.mark m.size m.worn m.nT m.pair a1 a2 lo = some z ∧ fX6_mould o.pairs o.teams o.moulds o.crews a1 a2 = some y ∧ y.2 = z.1 ∧ (z.1 = 0 → lg_cmp (z.2 (0 : Int32).toNatClampNeg) y.1.toInt64 = 0) ∧ pz_St (k + 1) m o := by
  obtain ⟨D, N, T, F, W, l, H, h1, h2⟩ := id h
  have hN := H.rm.le
  rcases pb_pairs (a := a1) hN with ⟨p, hp, rfl, i1, i2⟩ | ⟨i1, i2⟩
  · rcases pu_isB (a := a2) (b := 4) (by omega) with ⟨w, hw, rfl, j1, j2⟩ | ⟨j1, j2⟩
    · rw [e4'] at j2
      obtain ⟨r, r1, r2⟩ := H.tellPair hp hw
      rw [H.rm.n] at r1
      have C : fX5_mould m.nM m.mark m.size m.worn m.nT m.pair (nI p) (nI w) = some (.inl r) := by
        unfold fX5_mould
        rw [H.rm.n, i1, pu_bs, if_neg pz_d10, pz_k4, j1, pu_bs, if_neg pz_d10, r1, pu_bs]
      have M : fX6_mould o.pairs o.teams o.moulds o.crews (nI p) (nI w) = some (r, 0) := by
        unfold fX6_mould
        rw [H.rm.n', i2, pu_bs, if_neg pz_d10, pz_k3, j2, pu_bs, if_neg pz_d10, r2, pu_bs]
      exact ⟨_, _, wl_mould C, M, rfl, fun _ => lo_ok lo _, h.up⟩
    · rw [e4'] at j2
      have C : fX5_mould m.nM m.mark m.size m.worn m.nT m.pair (nI p) a2 = some (.inr 0) := by
        unfold fX5_mould
        rw [H.rm.n, i1, pu_bs, if_neg pz_d10, pz_k4, j1, pu_bs, if_pos d00]
      have M : fX6_mould o.pairs o.teams o.moulds o.crews (nI p) a2 = some (0, 1) := by
        unfold fX6_mould
        rw [H.rm.n', i2, pu_bs, if_neg pz_d10, pz_k3, j2, pu_bs, if_pos d00, pz_f6, pu_bs]
      exact ⟨_, _, wr_mould_0 C, M, rfl, ne0 (by first | exact pz_d10 | exact pz_d20 | exact pz_d30), h.up⟩
  · have C : fX5_mould m.nM m.mark m.size m.worn m.nT m.pair a1 a2 = some (.inr 0) := by
      unfold fX5_mould
      rw [H.rm.n, i1, pu_bs, if_pos d00]
    have M : fX6_mould o.pairs o.teams o.moulds o.crews a1 a2 = some (0, 1) := by
      unfold fX6_mould
      rw [H.rm.n', i2, pu_bs, if_pos d00, pz_f6, pu_bs]
    exact ⟨_, _, wr_mould_0 C, M, rfl, ne0 (by first | exact pz_d10 | exact pz_d20 | exact pz_d30), h.up⟩
theorem op_told {k : Nat} {m : MS} {o : OS} (h : pz_St k m o) (a1 a2 : Int32) (lo : Nat → Int64) :
    ∃ z y, fL_told m.felts m.pulp m.beat m.nM m.size m.nT m.skill m.vat m.pair m.allS a1 a2 lo = some z ∧ fX6_told o.teams o.vats o.moulds o.crews o.posts o.nums a1 a2 = some y ∧ y.2 = z.1 ∧ (z.1 = 0 → lg_cmp (z.2 (0 : Int32).toNatClampNeg) y.1.toInt64 = 0) ∧ pz_St (k + 1) m o := by
  obtain ⟨D, N, T, F, W, l, H, h1, h2⟩ := id h
  have hT := H.rt.le
  rcases pb_teams (a := a1) hT with ⟨t, ht, rfl, i1, i2⟩ | ⟨i1, i2⟩
  · rcases pu_isB (a := a2) (b := 4) (by omega) with ⟨w, hw, rfl, j1, j2⟩ | ⟨j1, j2⟩
    · rw [e4'] at j2
      obtain ⟨r, r1, r2⟩ := H.tellTeam ht hw
      rw [H.rt.n] at r1
      have C : fX5_told m.felts m.pulp m.beat m.nM m.size m.nT m.skill m.vat m.pair m.allS (nI t) (nI w) = some (.inl r) := by
        unfold fX5_told
        rw [H.rt.n, i1, pu_bs, if_neg pz_d10, pz_k4, j1, pu_bs, if_neg pz_d10, r1, pu_bs]
      have M : fX6_told o.teams o.vats o.moulds o.crews o.posts o.nums (nI t) (nI w) = some (r, 0) := by
        unfold fX6_told
        rw [H.rt.n', i2, pu_bs, if_neg pz_d10, pz_k3, j2, pu_bs, if_neg pz_d10, r2, pu_bs]
      exact ⟨_, _, wl_told C, M, rfl, fun _ => lo_ok lo _, h.up⟩
    · rw [e4'] at j2
      have C : fX5_told m.felts m.pulp m.beat m.nM m.size m.nT m.skill m.vat m.pair m.allS (nI t) a2 = some (.inr 0) := by
        unfold fX5_told
        rw [H.rt.n, i1, pu_bs, if_neg pz_d10, pz_k4, j1, pu_bs, if_pos d00]
      have M : fX6_told o.teams o.vats o.moulds o.crews o.posts o.nums (nI t) a2 = some (0, 1) := by
        unfold fX6_told
        rw [H.rt.n', i2, pu_bs, if_neg pz_d10, pz_k3, j2, pu_bs, if_pos d00, pz_f6, pu_bs]
      exact ⟨_, _, wr_told_0 C, M, rfl, ne0 (by first | exact pz_d10 | exact pz_d20 | exact pz_d30), h.up⟩
  · have C : fX5_told m.felts m.pulp m.beat m.nM m.size m.nT m.skill m.vat m.pair m.allS a1 a2 = some (.inr 0) := by
      unfold fX5_told
      rw [H.rt.n, i1, pu_bs, if_pos d00]
    have M : fX6_told o.teams o.vats o.moulds o.crews o.posts o.nums a1 a2 = some (0, 1) := by
      unfold fX6_told
      rw [H.rt.n', i2, pu_bs, if_pos d00, pz_f6, pu_bs]
    exact ⟨_, _, wr_told_0 C, M, rfl, ne0 (by first | exact pz_d10 | exact pz_d20 | exact pz_d30), h.up⟩
