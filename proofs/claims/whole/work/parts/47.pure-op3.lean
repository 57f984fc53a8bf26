theorem RQ.tell {F l felts nQ allS pm pg ps posts nums} (H : RQ F l felts nQ allS pm pg ps posts nums) {k w : Nat} (hk : k < l.length) (hw : w < 3) : ∃ r, fX2_tell nQ pm pg ps (nI k) (nI w) = some r ∧ posts (3 * k + w) = r := by
  have hQ : l.length ≤ 90 := by have := H.len; have := H.le; omega
  obtain ⟨x, hx⟩ : ∃ x, l[k]? = some x := ⟨l[k], List.getElem?_eq_getElem hk⟩
  have h1 := H.ec k x hx
  have h2 := H.em k x hx
  rw [Nat.zero_add] at h1 h2
  rcases (show w = 0 ∨ w = 1 ∨ w = 2 by omega) with rfl | rfl | rfl
  · refine ⟨nI x.1, ?_, h2.1⟩
    show (fX2_markOf nQ pm (nI k)).bind (fun z => some z) = _
    rw [H.n, pb_qm hk hQ, h1.1]; rfl
  · refine ⟨nI x.2.1, ?_, h2.2.1⟩
    show (fX2_gradeOf nQ pg (nI k)).bind (fun z => some z) = _
    rw [H.n, pb_qg hk hQ, h1.2.1]; rfl
  · refine ⟨nI x.2.2, ?_, h2.2.2⟩
    show (fX2_sheetsOf nQ ps (nI k)).bind (fun z => some z) = _
    rw [H.n, pb_qs hk hQ, h1.2.2]; rfl
theorem op_post {k : Nat} {m : MS} {o : OS} (h : pz_St k m o) (a1 a2 : Int32) (lo : Nat → Int64) :
    ∃ z y, fL_post m.nQ m.pmark m.pgrade m.psheets a1 a2 lo = some z ∧ fX6_post o.posts o.nums a1 a2 = some y ∧ y.2 = z.1 ∧ (z.1 = 0 → lg_cmp (z.2 (0 : Int32).toNatClampNeg) y.1.toInt64 = 0) ∧ pz_St (k + 1) m o := by
  obtain ⟨D, N, T, F, W, l, H, h1, h2⟩ := id h
  have hQ : l.length ≤ 90 := by have := H.rq.len; have := H.rq.le; omega
  rcases pb_posts (a := a1) hQ with ⟨q, hq, rfl, i1, i2⟩ | ⟨i1, i2⟩
  · rcases pu_isB (a := a2) (b := 3) (by omega) with ⟨w, hw, rfl, j1, j2⟩ | ⟨j1, j2⟩
    · rw [e3'] at j2
      obtain ⟨r, r1, r2⟩ := H.rq.tell hq hw
      have C : fX5_post m.nQ m.pmark m.pgrade m.psheets (nI q) (nI w) = some (.inl r) := by
        unfold fX5_post
        rw [r1, H.rq.n, i1, pu_bs, if_neg pz_d10, pz_k3, j1, pu_bs, if_neg pz_d10, pu_bs]
      have M : fX6_post o.posts o.nums (nI q) (nI w) = some (r, 0) := by
        unfold fX6_post
        rw [pc5, H.rq.n', i2, pu_bs, if_neg pz_d10, pz_k2, j2, pu_bs, if_neg pz_d10, pb_ps (by omega), pu_bs, r2]
      exact ⟨_, _, wl_post C, M, rfl, fun _ => lo_ok lo _, h.up⟩
    · rw [e3'] at j2
      have C : fX5_post m.nQ m.pmark m.pgrade m.psheets (nI q) a2 = some (.inr 0) := by
        unfold fX5_post
        rw [H.rq.n, i1, pu_bs, if_neg pz_d10, pz_k3, j1, pu_bs, if_pos d00]
      have M : fX6_post o.posts o.nums (nI q) a2 = some (0, 1) := by
        unfold fX6_post
        rw [pc5, H.rq.n', i2, pu_bs, if_neg pz_d10, pz_k2, j2, pu_bs, if_pos d00, pz_f6, pu_bs]
      exact ⟨_, _, wr_post_0 C, M, rfl, ne0 (by first | exact pz_d10 | exact pz_d20 | exact pz_d30), h.up⟩
  · have C : fX5_post m.nQ m.pmark m.pgrade m.psheets a1 a2 = some (.inr 0) := by
      unfold fX5_post
      rw [H.rq.n, i1, pu_bs, if_pos d00]
    have M : fX6_post o.posts o.nums a1 a2 = some (0, 1) := by
      unfold fX6_post
      rw [pc5, H.rq.n', i2, pu_bs, if_pos d00, pz_f6, pu_bs]
    exact ⟨_, _, wr_post_0 C, M, rfl, ne0 (by first | exact pz_d10 | exact pz_d20 | exact pz_d30), h.up⟩
theorem op_loft {k : Nat} {m : MS} {o : OS} (h : pz_St k m o) (a1 a2 : Int32) (lo : Nat → Int64) :
    ∃ z y, fL_loft m.loft a1 a2 lo = some z ∧ fX6_loft o.loft a1 a2 = some y ∧ y.2 = z.1 ∧ (z.1 = 0 → lg_cmp (z.2 (0 : Int32).toNatClampNeg) y.1.toInt64 = 0) ∧ pz_St (k + 1) m o := by
  obtain ⟨D, N, T, F, W, l, H, h1, h2⟩ := id h
  rcases pu_isB (a := a1) (b := 10) (by omega) with ⟨a, ha, rfl, i1, i2⟩ | ⟨i1, i2⟩
  · rw [pz_e10] at i2
    rcases pu_isB (a := a2) (b := 3) (by omega) with ⟨b, hb, rfl, j1, j2⟩ | ⟨j1, j2⟩
    · rw [e3'] at j2
      have C : fX5_loft m.loft (nI a) (nI b) = some (.inl (m.loft (3 * a + b))) := by
        unfold fX5_loft
        rw [k10, i1, pu_bs, if_neg pz_d10, pz_k3, j1, pu_bs, if_neg pz_d10, pb_hanging ha hb, pu_bs]
      have M : fX6_loft o.loft (nI a) (nI b) = some (m.loft (3 * a + b), 0) := by
        unfold fX6_loft
        rw [k9, i2, pu_bs, if_neg pz_d10, pz_k2, j2, pu_bs, if_neg pz_d10, pz_k3, pu_mul, pu_add, pu_ck (by omega) (by omega), pu_tn (by omega), H.loft _ (by omega)]
      exact ⟨_, _, wl_loft C, M, rfl, fun _ => lo_ok lo _, h.up⟩
    · rw [e3'] at j2
      have C : fX5_loft m.loft (nI a) a2 = some (.inr 0) := by
        unfold fX5_loft
        rw [k10, i1, pu_bs, if_neg pz_d10, pz_k3, j1, pu_bs, if_pos d00]
      have M : fX6_loft o.loft (nI a) a2 = some (0, 1) := by
        unfold fX6_loft
        rw [k9, i2, pu_bs, if_neg pz_d10, pz_k2, j2, pu_bs, if_pos d00, pz_f6, pu_bs]
      exact ⟨_, _, wr_loft_0 C, M, rfl, ne0 (by first | exact pz_d10 | exact pz_d20 | exact pz_d30), h.up⟩
  · rw [pz_e10] at i2
    have C : fX5_loft m.loft a1 a2 = some (.inr 0) := by
      unfold fX5_loft
      rw [k10, i1, pu_bs, if_pos d00]
    have M : fX6_loft o.loft a1 a2 = some (0, 1) := by
      unfold fX6_loft
      rw [k9, i2, pu_bs, if_pos d00, pz_f6, pu_bs]
    exact ⟨_, _, wr_loft_0 C, M, rfl, ne0 (by first | exact pz_d10 | exact pz_d20 | exact pz_d30), h.up⟩
theorem op_count {k : Nat} {m : MS} {o : OS} (h : pz_St k m o) (a1 : Int32) (lo : Nat → Int64) :
    ∃ z y, fL_count m.day m.coins m.felts m.made m.worth m.rags m.pulp m.nQ m.allS m.loft a1 lo = some z ∧ fX6_count o.vats o.posts o.loft o.nums a1 = some y ∧ y.2 = z.1 ∧ (z.1 = 0 → lg_cmp (z.2 (0 : Int32).toNatClampNeg) y.1.toInt64 = 0) ∧ pz_St (k + 1) m o := by
  obtain ⟨D, N, T, F, W, l, H, h1, h2⟩ := id h
  rcases pu_isB (a := a1) (b := 12) (by omega) with ⟨n, hn, rfl, i1, i2⟩ | ⟨i1, i2⟩
  · rw [e12'] at i2
    obtain ⟨r, r1, r2⟩ := H.tell hn
    have C : fX5_count m.day m.coins m.felts m.made m.worth m.rags m.pulp m.nQ m.allS m.loft (nI n) = some (.inl r) := by
      unfold fX5_count
      rw [k12, i1, pu_bs, if_neg pz_d10, r1, pu_bs]
    have M : fX6_count o.vats o.posts o.loft o.nums (nI n) = some (r, 0) := by
      unfold fX6_count
      rw [k11, i2, pu_bs, if_neg pz_d10, r2, pu_bs]
    exact ⟨_, _, wl_count C, M, rfl, fun _ => lo_ok lo _, h.up⟩
  · rw [e12'] at i2
    have C : fX5_count m.day m.coins m.felts m.made m.worth m.rags m.pulp m.nQ m.allS m.loft a1 = some (.inr 0) := by
      unfold fX5_count
      rw [k12, i1, pu_bs, if_pos d00]
    have M : fX6_count o.vats o.posts o.loft o.nums a1 = some (0, 1) := by
      unfold fX6_count
      rw [k11, i2, pu_bs, if_pos d00, pz_f6, pu_bs]
    exact ⟨_, _, wr_count_0 C, M, rfl, ne0 (by first | exact pz_d10 | exact pz_d20 | exact pz_d30), h.up⟩
theorem op_pass {k : Nat} {m : MS} {o : OS} (h : pz_St k m o) (hk : k ≤ 600) (a1 : Int32) (lo : Nat → Int64) :
    ∃ z y, fL_pass m.day m.felts m.made m.worth m.water m.pulp m.beat m.sort m.nM m.mark m.size m.worn m.nT m.skill m.vat m.pair m.nQ m.allS m.pmark m.pgrade m.psheets m.loft a1 lo = some z ∧ fX6_pass o.teams o.water o.vats o.moulds o.crews o.posts o.loft o.nums a1 = some y ∧ y.2.1 = z.1 ∧ (z.1 = 0 → lg_cmp (z.2.2.2.2.2.2.2.2.2.2.2.2.2.2 (0 : Int32).toNatClampNeg) y.1.toInt64 = 0) ∧ pz_St (k + 1) (m.dayed (z.2.1, z.2.2.1, z.2.2.2.1, z.2.2.2.2.1, z.2.2.2.2.2.1, z.2.2.2.2.2.2.1, z.2.2.2.2.2.2.2.1, z.2.2.2.2.2.2.2.2.1, z.2.2.2.2.2.2.2.2.2.1, z.2.2.2.2.2.2.2.2.2.2.1, z.2.2.2.2.2.2.2.2.2.2.2.1, z.2.2.2.2.2.2.2.2.2.2.2.2.1, z.2.2.2.2.2.2.2.2.2.2.2.2.2.1)) (OS.of o.pairs o.teams o.water (y.2.2.1) (y.2.2.2.1) o.crews (y.2.2.2.2.1) (y.2.2.2.2.2.1) (y.2.2.2.2.2.2)) := by
  obtain ⟨D, N, T, F, W, l, H, h1, h2⟩ := id h
  rcases pu_is1 (a := a1) (b := 40) (by omega) with ⟨n, hn1, hn, rfl, i1, i2⟩ | ⟨i1, i2⟩
  · obtain ⟨z, z', W', l', e1, e2, e3, e4, e5⟩ := H.daysOn hn (by omega)
    have C : fX5_pass m.day m.felts m.made m.worth m.water m.pulp m.beat m.sort m.nM m.mark m.size m.worn m.nT m.skill m.vat m.pair m.nQ m.allS m.pmark m.pgrade m.psheets m.loft (nI n) = some (.inl (z'.1, z)) := by
      unfold fX5_pass
      have hd : z.2.1 - m.made = z'.1 := by rw [e4, Int32.add_comm, Int32.add_sub_cancel]
      rw [k40, i1, pu_bs, if_neg pz_d10, e1, pu_bs, hd]
    have M : fX6_pass o.teams o.water o.vats o.moulds o.crews o.posts o.loft o.nums (nI n) = some (z'.1, 0, z'.2) := by
      unfold fX6_pass
      rw [k40, i2, pu_bs, if_neg pz_d10, e2, pu_bs]
    exact ⟨_, _, wl_pass C, M, rfl, fun _ => lo_ok lo _, ⟨D + n, N, T, F, W', l', e3, by omega, by omega⟩⟩
  · have C : fX5_pass m.day m.felts m.made m.worth m.water m.pulp m.beat m.sort m.nM m.mark m.size m.worn m.nT m.skill m.vat m.pair m.nQ m.allS m.pmark m.pgrade m.psheets m.loft a1 = some (.inr 1) := by
      unfold fX5_pass
      rw [k40, i1, pu_bs, if_pos d00]
    have M : fX6_pass o.teams o.water o.vats o.moulds o.crews o.posts o.loft o.nums a1 = some (0, 1, o.vats, o.moulds, o.posts, o.loft, o.nums) := by
      unfold fX6_pass
      rw [k40, i2, pu_bs, if_pos d00, pz_f6, pu_bs]
    exact ⟨_, _, wr_pass_1 C, M, rfl, ne0 (by first | exact pz_d10 | exact pz_d20 | exact pz_d30), h.up⟩
theorem op_ripe {k : Nat} {m : MS} {o : OS} (h : pz_St k m o) (hk : k ≤ 600) (t : MS) (a1 a2 : Int32) (lo : Nat → Int64) :
    ∃ z y, fL_ripe m.day m.coins m.felts m.made m.worth m.rags m.water m.pulp m.beat m.sort m.nM m.mark m.size m.worn m.nT m.skill m.vat m.pair m.nQ m.allS m.pmark m.pgrade m.psheets m.loft t.day t.coins t.felts t.made t.worth t.rags t.water t.pulp t.beat t.sort t.nM t.mark t.size t.worn t.nT t.skill t.vat t.pair t.nQ t.allS t.pmark t.pgrade t.psheets t.loft a1 a2 lo = some z ∧ fX6_ripe o.teams o.water o.vats o.moulds o.crews o.posts o.loft o.nums a1 a2 = some y ∧ y.2.1 = z.1 ∧ (z.1 = 0 → lg_cmp (z.2.2.2.2.2.2.2.2.2.2.2.2.2.2.2.2.2.2.2.2.2.2.2.2.2 (0 : Int32).toNatClampNeg) y.1.toInt64 = 0) ∧ pz_St (k + 1) m (OS.of o.pairs o.teams o.water (y.2.2.1) (y.2.2.2.1) (y.2.2.2.2.1) (y.2.2.2.2.2.1) (y.2.2.2.2.2.2.1) (y.2.2.2.2.2.2.2)) := by
  obtain ⟨D, N, T, F, W, l, H, h1, h2⟩ := id h
  rcases pu_isB (a := a1) (b := 4) (by omega) with ⟨v, hv, rfl, i1, i2⟩ | ⟨i1, i2⟩
  · rcases pu_is1 (a := a2) (b := 99) (by omega) with ⟨q, hq1, hq, rfl, j1, j2⟩ | ⟨j1, j2⟩
    · obtain ⟨r, y, e1, e2⟩ := PInv.ripes (q := q) hv 0 o.vats o.moulds o.crews o.posts o.loft o.nums 61 0 300 62 D W l m o H (by omega) rfl (by omega) (by omega)
      have C : fX5_ripe m.day m.coins m.felts m.made m.worth m.rags m.water m.pulp m.beat m.sort m.nM m.mark m.size m.worn m.nT m.skill m.vat m.pair m.nQ m.allS m.pmark m.pgrade m.psheets m.loft (nI v) (nI q) = some (.inl (r, y)) := by
        unfold fX5_ripe
        rw [pz_k4, i1, pu_bs, if_neg pz_d10, k99, j1, pu_bs, if_neg pz_d10]
        exact e1
      have M : fX6_ripe o.teams o.water o.vats o.moulds o.crews o.posts o.loft o.nums (nI v) (nI q) = some (r, 0, o.vats, o.moulds, o.crews, o.posts, o.loft, o.nums) := by
        unfold fX6_ripe
        rw [pb_isVat, i2, pu_bs, if_neg pz_d10, k99, j2, pu_bs, if_neg pz_d10]
        exact e2
      exact ⟨_, _, wl_ripe C, M, rfl, fun _ => lo_ok lo _, h.up⟩
    · have C : fX5_ripe m.day m.coins m.felts m.made m.worth m.rags m.water m.pulp m.beat m.sort m.nM m.mark m.size m.worn m.nT m.skill m.vat m.pair m.nQ m.allS m.pmark m.pgrade m.psheets m.loft (nI v) a2 = some (.inr 1) := by
        unfold fX5_ripe
        rw [pz_k4, i1, pu_bs, if_neg pz_d10, k99, j1, pu_bs, if_pos d00]
      have M : fX6_ripe o.teams o.water o.vats o.moulds o.crews o.posts o.loft o.nums (nI v) a2 = some (0, 2, o.vats, o.moulds, o.crews, o.posts, o.loft, o.nums) := by
        unfold fX6_ripe
        rw [pb_isVat, i2, pu_bs, if_neg pz_d10, k99, j2, pu_bs, if_pos d00, pz_f6, pu_bs]
      exact ⟨_, _, wr_ripe_1 C, M, rfl, ne0 (by first | exact pz_d10 | exact pz_d20 | exact pz_d30), h.up⟩
  · have C : fX5_ripe m.day m.coins m.felts m.made m.worth m.rags m.water m.pulp m.beat m.sort m.nM m.mark m.size m.worn m.nT m.skill m.vat m.pair m.nQ m.allS m.pmark m.pgrade m.psheets m.loft a1 a2 = some (.inr 0) := by
      unfold fX5_ripe
      rw [pz_k4, i1, pu_bs, if_pos d00]
    have M : fX6_ripe o.teams o.water o.vats o.moulds o.crews o.posts o.loft o.nums a1 a2 = some (0, 1, o.vats, o.moulds, o.crews, o.posts, o.loft, o.nums) := by
      unfold fX6_ripe
      rw [pb_isVat, i2, pu_bs, if_pos d00, pz_f6, pu_bs]
    exact ⟨_, _, wr_ripe_0 C, M, rfl, ne0 (by first | exact pz_d10 | exact pz_d20 | exact pz_d30), h.up⟩
theorem op_foresee {k : Nat} {m : MS} {o : OS} (h : pz_St k m o) (hk : k ≤ 600) (t : MS) (a1 a2 : Int32) (lo : Nat → Int64) :
    ∃ z y, fL_foresee m.day m.coins m.felts m.made m.worth m.rags m.water m.pulp m.beat m.sort m.nM m.mark m.size m.worn m.nT m.skill m.vat m.pair m.nQ m.allS m.pmark m.pgrade m.psheets m.loft t.day t.coins t.felts t.made t.worth t.rags t.water t.pulp t.beat t.sort t.nM t.mark t.size t.worn t.nT t.skill t.vat t.pair t.nQ t.allS t.pmark t.pgrade t.psheets t.loft a1 a2 lo = some z ∧ fX6_foresee o.teams o.water o.vats o.moulds o.crews o.posts o.loft o.nums a1 a2 = some y ∧ y.2 = z.1 ∧ (z.1 = 0 → lg_cmp (z.2.2.2.2.2.2.2.2.2.2.2.2.2.2.2.2.2.2.2.2.2.2.2.2.2 (0 : Int32).toNatClampNeg) y.1.toInt64 = 0) ∧ pz_St (k + 1) m o := by
  obtain ⟨D, N, T, F, W, l, H, h1, h2⟩ := id h
  rcases pu_is1 (a := a1) (b := 40) (by omega) with ⟨n, hn1, hn, rfl, i1, i2⟩ | ⟨i1, i2⟩
  · rcases pu_isB (a := a2) (b := 12) (by omega) with ⟨w, hw, rfl, j1, j2⟩ | ⟨j1, j2⟩
    · rw [e12'] at j2
      obtain ⟨z, z', W', l', e1, e2, e3, e4, e5⟩ := H.daysOn hn (by omega)
      obtain ⟨r, r1, r2⟩ := e3.tell hw
      have C : fX5_foresee m.day m.coins m.felts m.made m.worth m.rags m.water m.pulp m.beat m.sort m.nM m.mark m.size m.worn m.nT m.skill m.vat m.pair m.nQ m.allS m.pmark m.pgrade m.psheets m.loft (nI n) (nI w) = some (.inl (r, z.1, m.coins, m.felts, z.2.1, z.2.2.1, m.rags, m.water, z.2.2.2.1, z.2.2.2.2.1, z.2.2.2.2.2.1, m.nM, m.mark, m.size, z.2.2.2.2.2.2.1, m.nT, m.skill, m.vat, m.pair, z.2.2.2.2.2.2.2.1, z.2.2.2.2.2.2.2.2.1, z.2.2.2.2.2.2.2.2.2.1, z.2.2.2.2.2.2.2.2.2.2.1, z.2.2.2.2.2.2.2.2.2.2.2.1, z.2.2.2.2.2.2.2.2.2.2.2.2)) := by
        unfold fX5_foresee
        rw [k40, i1, pu_bs, if_neg pz_d10, k12, j1, pu_bs, if_neg pz_d10]
        show (fX0_liveDays m.day m.felts m.made m.worth m.water m.pulp m.beat m.sort m.nM m.mark m.size m.worn m.nT m.skill m.vat m.pair m.nQ m.allS m.pmark m.pgrade m.psheets m.loft (nI n)).bind _ = _
        rw [e1, pu_bs]
        show (fX0_tell z.1 m.coins m.felts z.2.1 z.2.2.1 m.rags z.2.2.2.1 z.2.2.2.2.2.2.2.1 z.2.2.2.2.2.2.2.2.1 z.2.2.2.2.2.2.2.2.2.2.2.2 (nI w)).bind _ = _
        have r1' : fX0_tell z.1 m.coins m.felts z.2.1 z.2.2.1 m.rags z.2.2.2.1 z.2.2.2.2.2.2.2.1 z.2.2.2.2.2.2.2.2.1 z.2.2.2.2.2.2.2.2.2.2.2.2 (nI w) = some r := r1
        rw [r1', pu_bs]
      have M : fX6_foresee o.teams o.water o.vats o.moulds o.crews o.posts o.loft o.nums (nI n) (nI w) = some (r, 0) := by
        have r2' : fX6_counted z'.2.1 z'.2.2.2.1 z'.2.2.2.2.1 z'.2.2.2.2.2 (nI w) = some r := r2
        unfold fX6_foresee
        rw [k40, i2, pu_bs, if_neg pz_d10, k11, j2, pu_bs, if_neg pz_d10, e2, pu_bs, r2', pu_bs]
      exact ⟨_, _, wl_foresee C, M, rfl, fun _ => lo_ok lo _, h.up⟩
    · rw [e12'] at j2
      have C : fX5_foresee m.day m.coins m.felts m.made m.worth m.rags m.water m.pulp m.beat m.sort m.nM m.mark m.size m.worn m.nT m.skill m.vat m.pair m.nQ m.allS m.pmark m.pgrade m.psheets m.loft (nI n) a2 = some (.inr 0) := by
        unfold fX5_foresee
        rw [k40, i1, pu_bs, if_neg pz_d10, k12, j1, pu_bs, if_pos d00]
      have M : fX6_foresee o.teams o.water o.vats o.moulds o.crews o.posts o.loft o.nums (nI n) a2 = some (0, 2) := by
        unfold fX6_foresee
        rw [k40, i2, pu_bs, if_neg pz_d10, k11, j2, pu_bs, if_pos d00, pz_f6, pu_bs]
      exact ⟨_, _, wr_foresee_0 C, M, rfl, ne0 (by first | exact pz_d10 | exact pz_d20 | exact pz_d30), h.up⟩
  · have C : fX5_foresee m.day m.coins m.felts m.made m.worth m.rags m.water m.pulp m.beat m.sort m.nM m.mark m.size m.worn m.nT m.skill m.vat m.pair m.nQ m.allS m.pmark m.pgrade m.psheets m.loft a1 a2 = some (.inr 1) := by
      unfold fX5_foresee
      rw [k40, i1, pu_bs, if_pos d00]
    have M : fX6_foresee o.teams o.water o.vats o.moulds o.crews o.posts o.loft o.nums a1 a2 = some (0, 1) := by
      unfold fX6_foresee
      rw [k40, i2, pu_bs, if_pos d00, pz_f6, pu_bs]
    exact ⟨_, _, wr_foresee_1 C, M, rfl, ne0 (by first | exact pz_d10 | exact pz_d20 | exact pz_d30), h.up⟩
theorem op_advise {k : Nat} {m : MS} {o : OS} (h : pz_St k m o) (hk : k ≤ 600) (τ : MS) (a1 : Int32) (lo : Nat → Int64) :
    ∃ z y, fL_advise m.day m.coins m.felts m.made m.worth m.rags m.water m.pulp m.beat m.sort m.nM m.mark m.size m.worn m.nT m.skill m.vat m.pair m.nQ m.allS m.pmark m.pgrade m.psheets m.loft τ.day τ.coins τ.felts τ.made τ.worth τ.rags τ.water τ.pulp τ.beat τ.sort τ.nM τ.mark τ.size τ.worn τ.nT τ.skill τ.vat τ.pair τ.nQ τ.allS τ.pmark τ.pgrade τ.psheets τ.loft a1 lo = some z ∧ fX6_advise o.teams o.water o.vats o.moulds o.crews o.posts o.loft o.nums a1 = some y ∧ y.2.1 = z.1 ∧ (z.1 = 0 → lg_cmp (z.2.2.2.2.2.2.2.2.2.2.2.2.2.2.2.2.2.2.2.2.2.2.2.2.2 (0 : Int32).toNatClampNeg) y.1.toInt64 = 0) ∧ pz_St (k + 1) m (OS.of o.pairs o.teams o.water (y.2.2.1) (y.2.2.2.1) (y.2.2.2.2.1) (y.2.2.2.2.2.1) (y.2.2.2.2.2.2.1) (y.2.2.2.2.2.2.2)) := by
  obtain ⟨D, N, T, F, W, l, H, h1, h2⟩ := id h
  have hT := H.rt.le
  have hNle := H.rm.le
  rcases pb_teams (a := a1) hT with ⟨t, ht, rfl, i1, i2⟩ | ⟨i1, i2⟩
  · have P := H.rt.pr t ht
    have hcr : fX6_cr o.crews (nI t) 2 = some (m.pair t) := by rw [pz_k2, pb_cr (by omega), H.rt.e2 t ht]
    by_cases c : m.pair t = -1
    · have C : fX5_advise m.day m.coins m.felts m.made m.worth m.rags m.water m.pulp m.beat m.sort m.nM m.mark m.size m.worn m.nT m.skill m.vat m.pair m.nQ m.allS m.pmark m.pgrade m.psheets m.loft τ.day τ.coins τ.felts τ.made τ.worth τ.rags τ.water τ.pulp τ.beat τ.sort τ.nM τ.mark τ.size τ.worn τ.nT τ.skill τ.vat τ.pair τ.nQ τ.allS τ.pmark τ.pgrade τ.psheets τ.loft (nI t) = some (.inl (-1, (τ.day, τ.coins, τ.felts, τ.made, τ.worth, τ.rags, τ.water, τ.pulp, τ.beat, τ.sort, τ.nM, τ.mark, τ.size, τ.worn, τ.nT, τ.skill, τ.vat, τ.pair, τ.nQ, τ.allS, τ.pmark, τ.pgrade, τ.psheets, τ.loft))) := by
        unfold fX5_advise
        rw [H.rt.n, i1, pu_bs, if_neg pz_d10, pb_pairOf ht hT, pu_bs, if_pos c]
      have M : fX6_advise o.teams o.water o.vats o.moulds o.crews o.posts o.loft o.nums (nI t) = some (-1, 0, o.vats, o.moulds, o.crews, o.posts, o.loft, o.nums) := by
        unfold fX6_advise
        rw [H.rt.n', i2, pu_bs, if_neg pz_d10, hcr, pu_bs, if_pos c]
      exact ⟨_, _, wl_advise C, M, rfl, fun _ => lo_ok lo _, h.up⟩
    · obtain ⟨A, z', y, hA, e1, e2, e3⟩ := H.wdw (by omega) (by omega) ht (v := 0) (by omega)
      obtain ⟨r, y2, g1, g2⟩ := H.advises (by omega) (by omega) ht 0 3 1 300 4 A 0 (MS.ofT y) rfl (by omega) (by omega) hA
      have C : fX5_advise m.day m.coins m.felts m.made m.worth m.rags m.water m.pulp m.beat m.sort m.nM m.mark m.size m.worn m.nT m.skill m.vat m.pair m.nQ m.allS m.pmark m.pgrade m.psheets m.loft τ.day τ.coins τ.felts τ.made τ.worth τ.rags τ.water τ.pulp τ.beat τ.sort τ.nM τ.mark τ.size τ.worn τ.nT τ.skill τ.vat τ.pair τ.nQ τ.allS τ.pmark τ.pgrade τ.psheets τ.loft (nI t) = some (.inl (r, y2)) := by
        have e1' : fX5_worthOfDayWith m.day m.coins m.felts m.made m.worth m.rags m.water m.pulp m.beat m.sort m.nM m.mark m.size m.worn m.nT m.skill m.vat m.pair m.nQ m.allS m.pmark m.pgrade m.psheets m.loft (nI t) 0 (m.pair t) = some (nI A, y) := e1
        unfold fX5_advise
        rw [show fX3_has m.nT (nI t) = some 1 from by rw [H.rt.n]; exact i1, pu_bs, if_neg pz_d10, show fX3_pairOf m.nT m.pair (nI t) = some (m.pair t) from by rw [H.rt.n]; exact pb_pairOf ht hT, pu_bs, if_neg c, e1', pu_bs]
        exact g1
      have M : fX6_advise o.teams o.water o.vats o.moulds o.crews o.posts o.loft o.nums (nI t) = some (r, 0, o.vats, o.moulds, o.crews, o.posts, o.loft, o.nums) := by
        have e2' : fX6_dayOn o.teams o.water o.vats o.moulds (upd o.crews (3 * t + 1) 0) o.posts o.loft o.nums = some z' := e2
        have cw : -nI 1 < nI (W + A) := (pu_mlt (by omega)).mpr trivial
        have c4 : ¬ (4 : Int32) ≤ 0 := by decide
        unfold fX6_advise
        rw [show fX6_isTeam o.teams (nI t) = some 1 from by rw [H.rt.n']; exact i2, pu_bs, if_neg pz_d10, hcr, pu_bs, if_neg c]
        unfold fX6_advise_L44
        rw [if_neg c4, pc4, pz_k3, pz_k1, pu_mul, pu_add, pu_ck (by omega) (by omega), pu_tn (by omega), e2', pu_bs, e3, if_pos cw]
        exact g2
      exact ⟨_, _, wl_advise C, M, rfl, fun _ => lo_ok lo _, h.up⟩
  · have C : fX5_advise m.day m.coins m.felts m.made m.worth m.rags m.water m.pulp m.beat m.sort m.nM m.mark m.size m.worn m.nT m.skill m.vat m.pair m.nQ m.allS m.pmark m.pgrade m.psheets m.loft τ.day τ.coins τ.felts τ.made τ.worth τ.rags τ.water τ.pulp τ.beat τ.sort τ.nM τ.mark τ.size τ.worn τ.nT τ.skill τ.vat τ.pair τ.nQ τ.allS τ.pmark τ.pgrade τ.psheets τ.loft a1 = some (.inr 0) := by
      unfold fX5_advise
      rw [H.rt.n, i1, pu_bs, if_pos d00]
    have M : fX6_advise o.teams o.water o.vats o.moulds o.crews o.posts o.loft o.nums a1 = some (0, 1, o.vats, o.moulds, o.crews, o.posts, o.loft, o.nums) := by
      unfold fX6_advise
      rw [H.rt.n', i2, pu_bs, if_pos d00, pz_f6, pu_bs]
    exact ⟨_, _, wr_advise_0 C, M, rfl, ne0 (by first | exact pz_d10 | exact pz_d20 | exact pz_d30), h.up⟩
theorem pb_mix (x : Int64) (z : Int32) : fX5_mix x z = some (x * 31 + z.toInt64) := rfl
theorem dg_counts {D N T F W : Nat} {l : List pz_PT} {m : MS} {o : OS} (H : PInv D N T F W l m o) (th : Int32) : ∀ (d j k k' : Nat) (x : Int64), j + d = 12 → d < k → d < k' →
    ∃ x', fX5_digestCountsAndRiver_L5 m.day m.coins m.felts m.made m.worth m.rags m.water m.pulp m.nQ m.allS m.loft k x (nI j) = fX5_digestCountsAndRiver_L35 m.water 300 x' 0 ∧ fX6_digest_L11 o.pairs o.teams o.water o.vats o.moulds o.crews o.posts o.loft o.nums k' th x (nI j) = fX6_digest_L48 o.pairs o.teams o.water o.vats o.moulds o.crews o.posts o.loft o.nums 300 th x' 7 0
  | 0, j, k + 1, k' + 1, x, hj, _, _ => by
    have ct : nI 12 ≤ nI j := by rw [pu_le (by omega) (by omega)]; omega
    refine ⟨x, ?_, ?_⟩
    · rw [fX5_digestCountsAndRiver_L5, k12, if_pos ct]
    · rw [fX6_digest_L11, k12, if_pos ct]
  | d + 1, j, k + 1, k' + 1, x, hj, hk, hk' => by
    have ct : ¬ nI 12 ≤ nI j := by rw [pu_le (by omega) (by omega)]; omega
    obtain ⟨r, r1, r2⟩ := H.tell (n := j) (by omega)
    obtain ⟨x', e1, e2⟩ := dg_counts H th d (j + 1) k k' (x * 31 + r.toInt64) (by omega) (by omega) (by omega)
    refine ⟨x', ?_, ?_⟩
    · rw [fX5_digestCountsAndRiver_L5, k12, if_neg ct, r1, pu_bs, pb_mix, pu_bs, pz_k1, pu_add]
      exact e1
    · rw [fX6_digest_L11, k12, if_neg ct, r2, pu_bs, pz_k1, pu_add]
      exact e2
theorem dg_river {D N T F W : Nat} {l : List pz_PT} {m : MS} {o : OS} (H : PInv D N T F W l m o) (th : Int32) : ∀ (d j k k' : Nat) (x : Int64), j + d = 7 → d < k → d < k' →
    ∃ x', fX5_digestCountsAndRiver_L35 m.water k x (nI j) = some x' ∧ fX6_digest_L48 o.pairs o.teams o.water o.vats o.moulds o.crews o.posts o.loft o.nums k' th x (nI 7) (nI j) = fX6_digest_L89 o.pairs o.teams o.vats o.moulds o.crews o.posts o.loft o.nums 300 th x' 12 0
  | 0, j, k + 1, k' + 1, x, hj, _, _ => by
    have ct : nI 7 ≤ nI j := by rw [pu_le (by omega) (by omega)]; omega
    refine ⟨x, ?_, ?_⟩
    · rw [fX5_digestCountsAndRiver_L35, pz_k7, if_pos ct]
    · rw [fX6_digest_L48, if_pos ct]
  | d + 1, j, k + 1, k' + 1, x, hj, hk, hk' => by
    have ct : ¬ nI 7 ≤ nI j := by rw [pu_le (by omega) (by omega)]; omega
    obtain ⟨x', e1, e2⟩ := dg_river H th d (j + 1) k k' (x * 31 + (m.water j).toInt64) (by omega) (by omega) (by omega)
    refine ⟨x', ?_, ?_⟩
    · rw [fX5_digestCountsAndRiver_L35, pz_k7, if_neg ct, pu_ck (by omega) (by omega), pu_tn (by omega), pb_mix, pu_bs, pz_k1, pu_add]
      exact e1
    · rw [fX6_digest_L48, if_neg ct, pu_ck (by omega) (by omega), pu_tn (by omega), pz_k1, pu_add, H.water j (by omega)]
      exact e2
theorem dg_vat {D N T F W : Nat} {l : List pz_PT} {m : MS} {o : OS} (H : PInv D N T F W l m o) (th : Int32) (K : Int64 → Int32 → Option Int64) {v : Nat} (hv : v < 4) : ∀ (d w k k' : Nat) (x : Int64), w + d = 3 → d < k →
    ∃ x', fX5_digestVats_L14 m.pulp m.beat m.sort K k x (nI v) (nI w) = K x' (nI (v + 1)) ∧ fX6_digest_L89 o.pairs o.teams o.vats o.moulds o.crews o.posts o.loft o.nums (k' + d) th x (nI 12) (nI (3 * v + w)) = fX6_digest_L89 o.pairs o.teams o.vats o.moulds o.crews o.posts o.loft o.nums k' th x' (nI 12) (nI (3 * (v + 1)))
  | 0, w, k + 1, k', x, hj, _ => by
    have ct : nI 3 ≤ nI w := by rw [pu_le (by omega) (by omega)]; omega
    refine ⟨x, ?_, ?_⟩
    · rw [fX5_digestVats_L14, pz_k3, if_pos ct, pz_k1, pu_add]
    · rw [show 3 * v + w = 3 * (v + 1) by omega]; rfl
  | d + 1, w, k + 1, k', x, hj, hk => by
    have ct : ¬ nI 3 ≤ nI w := by rw [pu_le (by omega) (by omega)]; omega
    have cv : ¬ nI 12 ≤ nI (3 * v + w) := by rw [pu_le (by omega) (by omega)]; omega
    obtain ⟨r, r1, r2⟩ := H.rv.tell hv (w := w) (by omega)
    obtain ⟨x', e1, e2⟩ := dg_vat H th K hv d (w + 1) k k' (x * 31 + r.toInt64) (by omega) (by omega)
    refine ⟨x', ?_, ?_⟩
    · rw [fX5_digestVats_L14, pz_k3, if_neg ct, r1, pu_bs, pb_mix, pu_bs, pz_k1, pu_add]
      exact e1
    · rw [show k' + (d + 1) = (k' + d) + 1 by omega, fX6_digest_L89, if_neg cv, pu_ck (by omega) (by omega), pu_tn (by omega), r2, pz_k1, pu_add]
      exact e2
theorem dg_vats {D N T F W : Nat} {l : List pz_PT} {m : MS} {o : OS} (H : PInv D N T F W l m o) (th : Int32) : ∀ (d v k k' : Nat) (x : Int64), v + d = 4 → d < k →
    ∃ x', fX5_digestVats_L5 m.pulp m.beat m.sort k x (nI v) = some x' ∧ fX6_digest_L89 o.pairs o.teams o.vats o.moulds o.crews o.posts o.loft o.nums (k' + 1 + 3 * d) th x (nI 12) (nI (3 * v)) = fX6_digest_L120 o.pairs o.teams o.vats o.moulds o.crews o.posts o.loft o.nums 300 th x' 0
  | 0, v, k + 1, k', x, hj, _ => by
    have ct : nI 4 ≤ nI v := by rw [pu_le (by omega) (by omega)]; omega
    have cv : nI 12 ≤ nI (3 * v) := by rw [pu_le (by omega) (by omega)]; omega
    refine ⟨x, ?_, ?_⟩
    · rw [fX5_digestVats_L5, pz_k4, if_pos ct]
    · rw [show k' + 1 + 3 * 0 = k' + 1 from rfl, fX6_digest_L89, if_pos cv]
  | d + 1, v, k + 1, k', x, hj, hk => by
    have ct : ¬ nI 4 ≤ nI v := by rw [pu_le (by omega) (by omega)]; omega
    obtain ⟨x1, e1, e2⟩ := dg_vat H th (fX5_digestVats_L5 m.pulp m.beat m.sort k) (v := v) (by omega) 3 0 300 (k' + 1 + 3 * d) x rfl (by omega)
    obtain ⟨x', g1, g2⟩ := dg_vats H th d (v + 1) k k' x1 (by omega) (by omega)
    refine ⟨x', ?_, ?_⟩
    · rw [fX5_digestVats_L5, pz_k4, if_neg ct]
      exact e1.trans g1
    · rw [show k' + 1 + 3 * (d + 1) = k' + 1 + 3 * d + 3 by omega]
      exact e2.trans g2
theorem dg_pair {D N T F W : Nat} {l : List pz_PT} {m : MS} {o : OS} (H : PInv D N T F W l m o) (th : Int32) (K : Int64 → Int32 → Option Int64) (K' : Int32 → Int64 → Int32 → Option (Int64 × Int32)) {p : Nat} (hp : p < N) : ∀ (d w k k' : Nat) (x : Int64), w + d = 4 → d < k → d < k' →
    ∃ x', fX5_digestPairs_L23 m.nM m.mark m.size m.worn m.nT m.pair K k x (nI p) (nI w) = K x' (nI (p + 1)) ∧ fX6_digest_L131 o.teams o.moulds o.crews K' k' th x (nI p) (nI w) = K' th x' (nI (p + 1))
  | 0, w, k + 1, k' + 1, x, hj, _, _ => by
    have ct : nI 4 ≤ nI w := by rw [pu_le (by omega) (by omega)]; omega
    refine ⟨x, ?_, ?_⟩
    · rw [fX5_digestPairs_L23, pz_k4, if_pos ct, pz_k1, pu_add]
    · rw [fX6_digest_L131, pz_k4, if_pos ct, pz_k1, pu_add]
  | d + 1, w, k + 1, k' + 1, x, hj, hk, hk' => by
    have ct : ¬ nI 4 ≤ nI w := by rw [pu_le (by omega) (by omega)]; omega
    obtain ⟨r, r1, r2⟩ := H.tellPair hp (w := w) (by omega)
    obtain ⟨x', e1, e2⟩ := dg_pair H th K K' hp d (w + 1) k k' (x * 31 + r.toInt64) (by omega) (by omega) (by omega)
    refine ⟨x', ?_, ?_⟩
    · rw [fX5_digestPairs_L23, pz_k4, if_neg ct, r1, pu_bs, pb_mix, pu_bs, pz_k1, pu_add]
      exact e1
    · rw [fX6_digest_L131, pz_k4, if_neg ct, r2, pu_bs, pz_k1, pu_add]
      exact e2
theorem dg_pairs {D N T F W : Nat} {l : List pz_PT} {m : MS} {o : OS} (H : PInv D N T F W l m o) (th : Int32) : ∀ (d p k k' : Nat) (x : Int64), p + d = N → d < k → d < k' →
    ∃ x', fX5_digestPairs_L5 m.nM m.mark m.size m.worn m.nT m.pair k x (nI p) = some x' ∧ fX6_digest_L120 o.pairs o.teams o.vats o.moulds o.crews o.posts o.loft o.nums k' th x (nI p) = fX6_digest_L166 o.teams o.vats o.moulds o.crews o.posts o.loft o.nums 300 th x' 0
  | 0, p, k + 1, k' + 1, x, hj, _, _ => by
    have hN := H.rm.le
    have ct : nI N ≤ nI p := by rw [pu_le (by omega) (by omega)]; omega
    refine ⟨x, ?_, ?_⟩
    · rw [fX5_digestPairs_L5, H.rm.n, if_pos ct]
    · rw [fX6_digest_L120, H.rm.n', if_pos ct]
  | d + 1, p, k + 1, k' + 1, x, hj, hk, hk' => by
    have hN := H.rm.le
    have ct : ¬ m.nM ≤ nI p := by rw [H.rm.n, pu_le (by omega) (by omega)]; omega
    have ct' : ¬ o.pairs ≤ nI p := by rw [H.rm.n', pu_le (by omega) (by omega)]; omega
    obtain ⟨x1, e1, e2⟩ := dg_pair H th (fX5_digestPairs_L5 m.nM m.mark m.size m.worn m.nT m.pair k) (fX6_digest_L120 o.pairs o.teams o.vats o.moulds o.crews o.posts o.loft o.nums k') (p := p) (by omega) 4 0 300 300 x rfl (by omega) (by omega)
    obtain ⟨x', g1, g2⟩ := dg_pairs H th d (p + 1) k k' x1 (by omega) (by omega) (by omega)
    refine ⟨x', ?_, ?_⟩
    · rw [fX5_digestPairs_L5, if_neg ct]
      exact e1.trans g1
    · rw [fX6_digest_L120, if_neg ct']
      exact e2.trans g2
theorem dg_team {D N T F W : Nat} {l : List pz_PT} {m : MS} {o : OS} (H : PInv D N T F W l m o) (th : Int32) (K : Int64 → Int32 → Option Int64) (K' : Int32 → Int64 → Int32 → Option (Int64 × Int32)) {p : Nat} (hp : p < T) : ∀ (d w k k' : Nat) (x : Int64), w + d = 4 → d < k → d < k' →
    ∃ x', fX5_digestTeams_L23 m.felts m.pulp m.beat m.nM m.size m.nT m.skill m.vat m.pair m.allS K k x (nI p) (nI w) = K x' (nI (p + 1)) ∧ fX6_digest_L177 o.vats o.moulds o.crews o.posts o.nums K' k' th x (nI p) (nI w) = K' th x' (nI (p + 1))
  | 0, w, k + 1, k' + 1, x, hj, _, _ => by
    have ct : nI 4 ≤ nI w := by rw [pu_le (by omega) (by omega)]; omega
    refine ⟨x, ?_, ?_⟩
    · rw [fX5_digestTeams_L23, pz_k4, if_pos ct, pz_k1, pu_add]
    · rw [fX6_digest_L177, pz_k4, if_pos ct, pz_k1, pu_add]
  | d + 1, w, k + 1, k' + 1, x, hj, hk, hk' => by
    have ct : ¬ nI 4 ≤ nI w := by rw [pu_le (by omega) (by omega)]; omega
    obtain ⟨r, r1, r2⟩ := H.tellTeam hp (w := w) (by omega)
    obtain ⟨x', e1, e2⟩ := dg_team H th K K' hp d (w + 1) k k' (x * 31 + r.toInt64) (by omega) (by omega) (by omega)
    refine ⟨x', ?_, ?_⟩
    · rw [fX5_digestTeams_L23, pz_k4, if_neg ct, r1, pu_bs, pb_mix, pu_bs, pz_k1, pu_add]
      exact e1
    · rw [fX6_digest_L177, pz_k4, if_neg ct, r2, pu_bs, pz_k1, pu_add]
      exact e2
theorem dg_teams {D N T F W : Nat} {l : List pz_PT} {m : MS} {o : OS} (H : PInv D N T F W l m o) (th : Int32) : ∀ (d p k k' : Nat) (x : Int64), p + d = T → d < k → d < k' →
    ∃ x', fX5_digestTeams_L5 m.felts m.pulp m.beat m.nM m.size m.nT m.skill m.vat m.pair m.allS k x (nI p) = some x' ∧ fX6_digest_L166 o.teams o.vats o.moulds o.crews o.posts o.loft o.nums k' th x (nI p) = fX6_digest_L212 o.posts o.loft o.nums 300 th x' 0
  | 0, p, k + 1, k' + 1, x, hj, _, _ => by
    have hT := H.rt.le
    have ct : nI T ≤ nI p := by rw [pu_le (by omega) (by omega)]; omega
    refine ⟨x, ?_, ?_⟩
    · rw [fX5_digestTeams_L5, H.rt.n, if_pos ct]
    · rw [fX6_digest_L166, H.rt.n', if_pos ct]
  | d + 1, p, k + 1, k' + 1, x, hj, hk, hk' => by
    have hT := H.rt.le
    have ct : ¬ m.nT ≤ nI p := by rw [H.rt.n, pu_le (by omega) (by omega)]; omega
    have ct' : ¬ o.teams ≤ nI p := by rw [H.rt.n', pu_le (by omega) (by omega)]; omega
    obtain ⟨x1, e1, e2⟩ := dg_team H th (fX5_digestTeams_L5 m.felts m.pulp m.beat m.nM m.size m.nT m.skill m.vat m.pair m.allS k) (fX6_digest_L166 o.teams o.vats o.moulds o.crews o.posts o.loft o.nums k') (p := p) (by omega) 4 0 300 300 x rfl (by omega) (by omega)
    obtain ⟨x', g1, g2⟩ := dg_teams H th d (p + 1) k k' x1 (by omega) (by omega) (by omega)
    refine ⟨x', ?_, ?_⟩
    · rw [fX5_digestTeams_L5, if_neg ct]
      exact e1.trans g1
    · rw [fX6_digest_L166, if_neg ct']
      exact e2.trans g2
theorem dg_post {D N T F W : Nat} {l : List pz_PT} {m : MS} {o : OS} (H : PInv D N T F W l m o) (th : Int32) (K : Int64 → Int32 → Option Int64) {v : Nat} (hv : v < l.length) : ∀ (d w k k' : Nat) (x : Int64), w + d = 3 → d < k →
    ∃ x', fX5_digestPosts_L23 m.nQ m.pmark m.pgrade m.psheets K k x (nI v) (nI w) = K x' (nI (v + 1)) ∧ fX6_digest_L212 o.posts o.loft o.nums (k' + d) th x (nI (3 * v + w)) = fX6_digest_L212 o.posts o.loft o.nums k' th x' (nI (3 * (v + 1)))
  | 0, w, k + 1, k', x, hj, _ => by
    have ct : nI 3 ≤ nI w := by rw [pu_le (by omega) (by omega)]; omega
    have hQ : l.length ≤ 90 := by have := H.rq.len; have := H.rq.le; omega
    refine ⟨x, ?_, ?_⟩
    · rw [fX5_digestPosts_L23, pz_k3, if_pos ct, pz_k1, pu_add]
    · rw [show 3 * v + w = 3 * (v + 1) by omega]; rfl
  | d + 1, w, k + 1, k', x, hj, hk => by
    have hQ : l.length ≤ 90 := by have := H.rq.len; have := H.rq.le; omega
    have ct : ¬ nI 3 ≤ nI w := by rw [pu_le (by omega) (by omega)]; omega
    have cv : ¬ nI (3 * l.length) ≤ nI (3 * v + w) := by rw [pu_le (by omega) (by omega)]; omega
    obtain ⟨r, r1, r2⟩ := H.rq.tell hv (w := w) (by omega)
    obtain ⟨x', e1, e2⟩ := dg_post H th K hv d (w + 1) k k' (x * 31 + r.toInt64) (by omega) (by omega)
    refine ⟨x', ?_, ?_⟩
    · rw [fX5_digestPosts_L23, pz_k3, if_neg ct, r1, pu_bs, pb_mix, pu_bs, pz_k1, pu_add]
      exact e1
    · rw [show k' + (d + 1) = (k' + d) + 1 by omega, fX6_digest_L212, pc5, H.rq.n', pz_k3, pu_mul, if_neg cv, pu_ck (by omega) (by omega), pu_tn (by omega), r2, pz_k1, pu_add]
      exact e2
theorem dg_posts {D N T F W : Nat} {l : List pz_PT} {m : MS} {o : OS} (H : PInv D N T F W l m o) (th : Int32) : ∀ (d v k k' : Nat) (x : Int64), v + d = l.length → d < k →
    ∃ x', fX5_digestPosts_L5 m.nQ m.pmark m.pgrade m.psheets k x (nI v) = some x' ∧ fX6_digest_L212 o.posts o.loft o.nums (k' + 1 + 3 * d) th x (nI (3 * v)) = fX6_digest_L256 o.loft 300 th x' 30 0
  | 0, v, k + 1, k', x, hj, _ => by
    have hQ : l.length ≤ 90 := by have := H.rq.len; have := H.rq.le; omega
    have ct : nI l.length ≤ nI v := by rw [pu_le (by omega) (by omega)]; omega
    have cv : nI (3 * l.length) ≤ nI (3 * v) := by rw [pu_le (by omega) (by omega)]; omega
    refine ⟨x, ?_, ?_⟩
    · rw [fX5_digestPosts_L5, H.rq.n, if_pos ct]
    · rw [show k' + 1 + 3 * 0 = k' + 1 from rfl, fX6_digest_L212, pc5, H.rq.n', pz_k3, pu_mul, if_pos cv]
  | d + 1, v, k + 1, k', x, hj, hk => by
    have hQ : l.length ≤ 90 := by have := H.rq.len; have := H.rq.le; omega
    have ct : ¬ m.nQ ≤ nI v := by rw [H.rq.n, pu_le (by omega) (by omega)]; omega
    obtain ⟨x1, e1, e2⟩ := dg_post H th (fX5_digestPosts_L5 m.nQ m.pmark m.pgrade m.psheets k) (v := v) (by omega) 3 0 300 (k' + 1 + 3 * d) x rfl (by omega)
    obtain ⟨x', g1, g2⟩ := dg_posts H th d (v + 1) k k' x1 (by omega) (by omega)
    refine ⟨x', ?_, ?_⟩
    · rw [fX5_digestPosts_L5, if_neg ct]
      exact e1.trans g1
    · rw [show k' + 1 + 3 * (d + 1) = k' + 1 + 3 * d + 3 by omega]
      exact e2.trans g2
theorem dg_mark {f g : FN} (h : ∀ j, j < 30 → g j = f j) (th : Int32) (K : Int64 → Int32 → Option Int64) {v : Nat} (hv : v < 10) : ∀ (d w k k' : Nat) (x : Int64), w + d = 3 → d < k →
    ∃ x', fX5_digestLoft_L15 f K k x (nI v) (nI w) = K x' (nI (v + 1)) ∧ fX6_digest_L256 g (k' + d) th x (nI 30) (nI (3 * v + w)) = fX6_digest_L256 g k' th x' (nI 30) (nI (3 * (v + 1)))
  | 0, w, k + 1, k', x, hj, _ => by
    have ct : nI 3 ≤ nI w := by rw [pu_le (by omega) (by omega)]; omega
    refine ⟨x, ?_, ?_⟩
    · rw [fX5_digestLoft_L15, pz_k3, if_pos ct, pz_k1, pu_add]
    · rw [show 3 * v + w = 3 * (v + 1) by omega]; rfl
  | d + 1, w, k + 1, k', x, hj, hk => by
    have ct : ¬ nI 3 ≤ nI w := by rw [pu_le (by omega) (by omega)]; omega
    have cv : ¬ nI 30 ≤ nI (3 * v + w) := by rw [pu_le (by omega) (by omega)]; omega
    obtain ⟨x', e1, e2⟩ := dg_mark h th K hv d (w + 1) k k' (x * 31 + (f (3 * v + w)).toInt64) (by omega) (by omega)
    refine ⟨x', ?_, ?_⟩
    · rw [fX5_digestLoft_L15, pz_k3, if_neg ct, pb_hanging hv (by omega), pu_bs, pb_mix, pu_bs, pz_k1, pu_add]
      exact e1
    · rw [show k' + (d + 1) = (k' + d) + 1 by omega, fX6_digest_L256, if_neg cv, pu_ck (by omega) (by omega), pu_tn (by omega), h _ (by omega), pz_k1, pu_add]
      exact e2
theorem dg_loft {f g : FN} (h : ∀ j, j < 30 → g j = f j) (th : Int32) : ∀ (d v k k' : Nat) (x : Int64), v + d = 10 → d < k →
    ∃ x', fX5_digestLoft_L5 f k x (nI v) = some x' ∧ fX6_digest_L256 g (k' + 1 + 3 * d) th x (nI 30) (nI (3 * v)) = some (x', th)
  | 0, v, k + 1, k', x, hj, _ => by
    have ct : nI 10 ≤ nI v := by rw [pu_le (by omega) (by omega)]; omega
    have cv : nI 30 ≤ nI (3 * v) := by rw [pu_le (by omega) (by omega)]; omega
    refine ⟨x, ?_, ?_⟩
    · rw [fX5_digestLoft_L5, k10, if_pos ct]
    · rw [show k' + 1 + 3 * 0 = k' + 1 from rfl, fX6_digest_L256, if_pos cv]
  | d + 1, v, k + 1, k', x, hj, hk => by
    have ct : ¬ nI 10 ≤ nI v := by rw [pu_le (by omega) (by omega)]; omega
    obtain ⟨x1, e1, e2⟩ := dg_mark h th (fX5_digestLoft_L5 f k) (v := v) (by omega) 3 0 300 (k' + 1 + 3 * d) x rfl (by omega)
    obtain ⟨x', g1, g2⟩ := dg_loft h th d (v + 1) k k' x1 (by omega) (by omega)
    refine ⟨x', ?_, ?_⟩
    · rw [fX5_digestLoft_L5, k10, if_neg ct]
      exact e1.trans g1
    · rw [show k' + 1 + 3 * (d + 1) = k' + 1 + 3 * d + 3 by omega]
      exact e2.trans g2
theorem op_digest {k : Nat} {m : MS} {o : OS} (h : pz_St k m o) :
    ∃ z, fX5_digest m.day m.coins m.felts m.made m.worth m.rags m.water m.pulp m.beat m.sort m.nM m.mark m.size m.worn m.nT m.skill m.vat m.pair m.nQ m.allS m.pmark m.pgrade m.psheets m.loft = some z ∧ fX6_digest o.pairs o.teams o.water o.vats o.moulds o.crews o.posts o.loft o.nums = some (z, 0) ∧ pz_St (k + 1) m o := by
  obtain ⟨D, N, T, F, W, l, H, h1, h2⟩ := id h
  have hT := H.rt.le
  have hN := H.rm.le
  have hQ : l.length ≤ 90 := by have := H.rq.len; have := H.rq.le; omega
  obtain ⟨x1, a1, b1⟩ := dg_counts H 0 12 0 300 300 1429 rfl (by omega) (by omega)
  obtain ⟨x2, a2, b2⟩ := dg_river H 0 7 0 300 300 x1 rfl (by omega) (by omega)
  obtain ⟨x3, a3, b3⟩ := dg_vats H 0 4 0 300 287 x2 rfl (by omega)
  obtain ⟨x4, a4, b4⟩ := dg_pairs H 0 N 0 300 300 x3 (by omega) (by omega) (by omega)
  obtain ⟨x5, a5, b5⟩ := dg_teams H 0 T 0 300 300 x4 (by omega) (by omega) (by omega)
  obtain ⟨x6, a6, b6⟩ := dg_posts H 0 l.length 0 300 (299 - 3 * l.length) x5 (by omega) (by omega)
  obtain ⟨x7, a7, b7⟩ := dg_loft H.loft 0 10 0 300 269 x6 rfl (by omega)
  refine ⟨x7, ?_, ?_, h.up⟩
  · unfold fX5_digest fX5_digestCountsAndRiver fX5_digestVats fX5_digestPairs fX5_digestTeams fX5_digestPosts fX5_digestLoft
    rw [show fX5_digestCountsAndRiver_L5 m.day m.coins m.felts m.made m.worth m.rags m.water m.pulp m.nQ m.allS m.loft 300 1429 0 = some x2 from a1.trans a2, pu_bs, show fX5_digestVats_L5 m.pulp m.beat m.sort 300 x2 0 = some x3 from a3, pu_bs, show fX5_digestPairs_L5 m.nM m.mark m.size m.worn m.nT m.pair 300 x3 0 = some x4 from a4, pu_bs, show fX5_digestTeams_L5 m.felts m.pulp m.beat m.nM m.size m.nT m.skill m.vat m.pair m.allS 300 x4 0 = some x5 from a5, pu_bs, show fX5_digestPosts_L5 m.nQ m.pmark m.pgrade m.psheets 300 x5 0 = some x6 from a6, pu_bs, show fX5_digestLoft_L5 m.loft 300 x6 0 = some x7 from a7, pu_bs]
  · rw [show 299 - 3 * l.length + 1 + 3 * l.length = 300 by omega] at b6
    unfold fX6_digest
    exact b1.trans (b2.trans (b3.trans (b4.trans (b5.trans (b6.trans b7)))))
