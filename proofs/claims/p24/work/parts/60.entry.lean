/-! The law's entry: what the Statement gives, put into the forms that the contracts ask. -/
def enF : List Cond := flatC (Jvm.Cond.and given_1 narrow_1)
theorem en_tab {b : Addr} {s : State} {A : Nat → Prop} (n : String) (N : Nat) (vs : List Int32) (hts : ∀ w ∈ lw_tbl, w.before #[Value.ref b] s = true) (hs : ∀ w ∈ enF, w.before #[Value.ref b] s = true) (hA : ∀ a : Nat, a < s.heap.size → ¬ A a) (hN : N < 2 ^ 31)
    (m1 : Cond.arrayOf (.static RX5 n "[I") .int ∈ enF) (m2 : Cond.eq (.length (.static RX5 n "[I")) (.int (Int32.ofNat N)) ∈ enF) (m3 : ∀ j, j < N → Cond.eq (.elem (.static RX5 n "[I") (.int (Int32.ofNat j))) (.int (vs.getD j 0)) ∈ enF) (m4 : Cond.laysStatic RX5 n "[I" ∈ lw_tbl) (m5 : Cond.initialized RX5 ∈ lw_tbl) :
    ∃ t : Nat, va_Z RX5 n "[I" (.ref t) A s s.heap ∧ va_T .int t N (fun j => .int (vs.getD j 0)) A s s.heap := by
  obtain ⟨t, ht, hT⟩ := va_Tof (tm := .static RX5 n "[I") (f := fun j => .int (vs.getD j 0)) hN (hs _ m1) (va_eqt (hs _ m2)) (fun j hj => va_eqt (hs _ (m3 j hj))) hA
  exact ⟨t, va_Zof (hts _ m4) (hts _ m5) ht hA, hT⟩
set_option maxRecDepth 100000 in
theorem en_in : ∀ w ∈ nwA, w ∈ lw_tbl := by decide +kernel
set_option maxRecDepth 100000 in
theorem en_on : ∀ w ∈ nwA, w.onTables = true := by decide +kernel
set_option maxRecDepth 100000 in
theorem en_nc : ∀ q ∈ ncL, Cond.not (.castable q.1 q.2) ∈ enF := fun _ h => absurd h List.not_mem_nil
set_option maxRecDepth 100000 in
theorem en_s1 : ∀ q ∈ strL, Cond.stringRef RX5 q.1 q.2 ∈ lw_tbl := by decide +kernel
set_option maxRecDepth 100000 in
theorem en_s2 : ∀ q ∈ strL, Cond.exactly (.string RX5 q.1) "java/lang/String" ∈ enF := by decide +kernel
set_option maxRecDepth 100000 in
theorem en_p1 : Cond.arrayOf (.static RX5 "PRICES" "[I") .int ∈ enF ∧ Cond.arrayOf (.static RX5 "SORT_POINTS" "[I") .int ∈ enF ∧ Cond.arrayOf (.static RX5 "SHEET_WORTH" "[I") .int ∈ enF := by decide +kernel
set_option maxRecDepth 100000 in
theorem en_p2 : Cond.eq (.length (.static RX5 "PRICES" "[I")) (.int (Int32.ofNat 4)) ∈ enF ∧ Cond.eq (.length (.static RX5 "SORT_POINTS" "[I")) (.int (Int32.ofNat 3)) ∈ enF ∧ Cond.eq (.length (.static RX5 "SHEET_WORTH" "[I")) (.int (Int32.ofNat 3)) ∈ enF := by decide +kernel
set_option maxRecDepth 100000 in
theorem en_p3 : ∀ j, j < 4 → Cond.eq (.elem (.static RX5 "PRICES" "[I") (.int (Int32.ofNat j))) (.int (([3, 2, 1, 2] : List Int32).getD j 0)) ∈ enF := by decide +kernel
set_option maxRecDepth 100000 in
theorem en_q3 : ∀ j, j < 3 → Cond.eq (.elem (.static RX5 "SORT_POINTS" "[I") (.int (Int32.ofNat j))) (.int (([6, 3, 0] : List Int32).getD j 0)) ∈ enF := by decide +kernel
set_option maxRecDepth 100000 in
theorem en_r3 : ∀ j, j < 3 → Cond.eq (.elem (.static RX5 "SHEET_WORTH" "[I") (.int (Int32.ofNat j))) (.int (([12, 7, 3] : List Int32).getD j 0)) ∈ enF := by decide +kernel
set_option maxRecDepth 100000 in
theorem en_p4 : Cond.laysStatic RX5 "PRICES" "[I" ∈ lw_tbl ∧ Cond.laysStatic RX5 "SORT_POINTS" "[I" ∈ lw_tbl ∧ Cond.laysStatic RX5 "SHEET_WORTH" "[I" ∈ lw_tbl := by decide +kernel
set_option maxRecDepth 100000 in
theorem en_i : Cond.initialized RX5 ∈ lw_tbl ∧ Cond.initialized Bundle.tN ∈ lw_tbl ∧ Cond.arrayOver (.array .int) ∈ lw_tbl ∧ Cond.arrayClass .int ∈ lw_tbl := by decide +kernel
set_option maxRecDepth 100000 in
theorem en_u : Cond.laysStatic Bundle.tN "UNASSIGNED_STACK" Bundle.steD ∈ lw_tbl ∧ Cond.laysStatic Bundle.tN "SUPPRESSED_SENTINEL" Bundle.listD ∈ lw_tbl := by decide +kernel
set_option maxRecDepth 100000 in
theorem en_v : Cond.isRef (.static Bundle.tN "UNASSIGNED_STACK" Bundle.steD) ∈ enF ∧ Cond.isRef (.static Bundle.tN "SUPPRESSED_SENTINEL" Bundle.listD) ∈ enF := by decide +kernel
/-- what holds everywhere, at the entry, the script among it -/
theorem start_GE {b L : Nat} {xs : Nat → Int32} {s : State} {A : Nat → Prop} (hts : ∀ w ∈ lw_tbl, w.before #[Value.ref b] s = true) (hgv : (Jvm.Cond.and given_1 narrow_1).before #[Value.ref b] s = true) (hA : ∀ a : Nat, a < s.heap.size → ¬ A a) (hX : va_X b L xs s s.heap) (hbA : ¬ A b) : ∃ sa : SAT, sa.1 3 = b ∧ sa.2.1 = L ∧ GE sa A s s.heap := by
  have hs : ∀ w ∈ enF, w.before #[Value.ref b] s = true := flat_of_before _ hgv
  obtain ⟨t0, z0, c0⟩ := en_tab "PRICES" 4 [3, 2, 1, 2] hts hs hA (by decide) en_p1.1 en_p2.1 en_p3 en_p4.1 en_i.1
  obtain ⟨t1, z1, c1⟩ := en_tab "SORT_POINTS" 3 [6, 3, 0] hts hs hA (by decide) en_p1.2.1 en_p2.2.1 en_q3 en_p4.2.1 en_i.1
  obtain ⟨t2, z2, c2⟩ := en_tab "SHEET_WORTH" 3 [12, 7, 3] hts hs hA (by decide) en_p1.2.2 en_p2.2.2 en_r3 en_p4.2.2 en_i.1
  have h1 : ∀ w ∈ nwA, va_Nw w s := fun w hw => va_Nw.of (en_on w hw) (hts w (en_in w hw))
  have h2 : ∀ q ∈ ncL, va_Nc q.1 q.2 s := fun q hq => va_Nc.of (hs _ (en_nc q hq))
  have h3 : ∀ q ∈ strL, ∃ a, vk_R RX5 q.1 q.2 a s := by
    intro q hq
    obtain ⟨a, c, cell, k, h, -⟩ := Cond.exactly_spec (hs _ (en_s2 q hq))
    exact ⟨a, vk_R.of (hts _ (en_s1 q hq)) h⟩
  have h4 : AOA s := hts _ en_i.2.2.1
  obtain ⟨scr, x1, x2, x3, x4, x5⟩ := hX
  have hT : va_T .int b L (fun j => .int (xs j)) A s s.heap := ⟨scr, x1, x2, x3, Nat.le_of_eq x4.symm, by rw [x4], x5, hbA⟩
  exact ⟨(fun k => match k with
    | 0 => t0
    | 1 => t1
    | 2 => t2
    | _ => b, (L, xs)), rfl, rfl, ⟨h1, h2, h3, h4⟩, ⟨z0, c0⟩, ⟨z1, c1⟩, ⟨z2, c2⟩, vx_Zqof (hts _ en_u.1) (hts _ en_i.2.1) (hs _ en_v.1) hA, vx_Zqof (hts _ en_u.2) (hts _ en_i.2.1) (hs _ en_v.2) hA, hT⟩
theorem en_arr {args : Array Value} {s : State} {t : FieldType} (h : (Cond.arrayClass t).before args s = true) (ht : ∀ cA, s.vm.findClass ("[" ++ t.toString) = some cA → va_RA s cA t) : ∃ cA, ArrOfT s cA t ∧ va_RA s cA t := by
  obtain ⟨c, k, comp, h1, h2, h3⟩ := Cond.arrayClass_spec h
  exact ⟨c, fun N z => ⟨(fun k h => by cases h), k, h2, comp, h3⟩, ht c h1⟩
theorem en_arrA {args : Array Value} {s : State} (h : (Cond.arrayOver (.array .int)).before args s = true) : ∃ cA, ArrOfT s cA (.array .int) ∧ va_RA s cA (.array .int) := by
  obtain ⟨comp, c, k, h1, h2, h3, h4, h5⟩ := arrayOverA_spec h
  exact ⟨c, fun N z => ⟨(fun k h => by cases h), k, h3, comp, h4⟩, h5⟩
set_option maxRecDepth 100000 in
theorem en_n : Cond.instantiable RX0 12 ∈ lw_tbl ∧ Cond.instantiable RX1 4 ∈ lw_tbl ∧ Cond.instantiable RX2 5 ∈ lw_tbl ∧ Cond.instantiable RX3 4 ∈ lw_tbl ∧ Cond.instantiable RX4 3 ∈ lw_tbl ∧ Cond.instantiable RX5 2 ∈ lw_tbl ∧ Cond.instantiable RX6 12 ∈ lw_tbl := by decide +kernel
/-- the seven kinds and the three rows, at the entry -/
theorem start_K {b : Addr} {s : State} (hts : ∀ w ∈ lw_tbl, w.before #[Value.ref b] s = true) : ∃ (D : va_G) (cy : Nat → ClassId), va_K D vwCl (tyW cy) s := by
  obtain ⟨c0, i0, k0⟩ := u_known (C := RX0) (T := TX0) (N := 12) (n := 12) hts inX0 (hts _ en_n.1)
  obtain ⟨c1, i1, k1⟩ := u_known (C := RX1) (T := TX1) (N := 4) (n := 4) hts inX1 (hts _ en_n.2.1)
  obtain ⟨c2, i2, k2⟩ := u_known (C := RX2) (T := TX2) (N := 5) (n := 5) hts inX2 (hts _ en_n.2.2.1)
  obtain ⟨c3, i3, k3⟩ := u_known (C := RX3) (T := TX3) (N := 4) (n := 4) hts inX3 (hts _ en_n.2.2.2.1)
  obtain ⟨c4, i4, k4⟩ := u_known (C := RX4) (T := TX4) (N := 3) (n := 3) hts inX4 (hts _ en_n.2.2.2.2.1)
  obtain ⟨c5, i5, k5⟩ := u_known (C := RX5) (T := TX5) (N := 2) (n := 2) hts inX5 (hts _ en_n.2.2.2.2.2.1)
  obtain ⟨c6, i6, k6⟩ := u_known (C := RX6) (T := TX6) (N := 12) (n := 12) hts inX6 (hts _ en_n.2.2.2.2.2.2)
  obtain ⟨a0, g0⟩ := en_arr (hts _ en_i.2.2.2) (fun _ h => h)
  obtain ⟨a1, g1⟩ := en_arrA (hts _ en_i.2.2.1)
  refine ⟨(fun k => match k with
    | 0 => c0
    | 1 => c1
    | 2 => c2
    | 3 => c3
    | 4 => c4
    | 5 => c5
    | _ => c6, fun k => match k with
    | 0 => i0
    | 1 => i1
    | 2 => i2
    | 3 => i3
    | 4 => i4
    | 5 => i5
    | _ => i6), fun k => match k with
    | 0 => a0
    | _ => a1, ?_, ?_⟩
  · intro k q hq
    match k, hq with
    | 0, hq => cases hq; exact k0
    | 1, hq => cases hq; exact k1
    | 2, hq => cases hq; exact k2
    | 3, hq => cases hq; exact k3
    | 4, hq => cases hq; exact k4
    | 5, hq => cases hq; exact k5
    | 6, hq => cases hq; exact k6
    | k + 7, hq => simp [vwCl] at hq
  · intro k q hq
    match k, hq with
    | 0, hq => cases hq; exact g0
    | 1, hq => cases hq; exact g1
    | k + 2, hq => simp [tyW] at hq
set_option maxHeartbeats 4000000 in
/-- THE LAW, from its entry -/
theorem whole_start {p : Program} {e : Env} {s : State} {m : MethodId} {below : List Frame} {meth : Method} {c : Code} (l : Launch) (hflags : l.flags = flags0) {b L : Nat} {xs : Nat → Int32} (hL : L ≤ 260) (C0 : lw_At p s m meth c b L xs) : W p l e room_1 s m #[Value.ref b] below meth c s.heap [] 0 0 (lw_Z below #[Value.ref b] s) (entryFrame m ([Value.ref b] : List Value).toArray 21) := by
  obtain ⟨hx, hb, hr, hml, hown, hts, hX, hbl, hlocks, hgv⟩ := id C0
  have hA : ∀ q : Nat, s.heap.size ≤ q → (fun q : Nat => s.heap.size ≤ q) q := fun _ h => h
  have hbA : ¬ (fun q : Nat => s.heap.size ≤ q) b := Nat.not_le.mpr hbl
  obtain ⟨D, cy, hK⟩ := start_K hts
  obtain ⟨sa, h3, h4, hG⟩ := start_GE (A := fun q : Nat => s.heap.size ≤ q) hts hgv (fun a h => Nat.not_le.mpr h) hX hbA
  have hl := lv_entry ([.ref b]) (n := 21) (Nat.le_of_ble_eq_true rfl)
  rw [lg_entry_eq]
  generalize (lg_sl ([.ref b]) ++ List.replicate (21 - (lg_sl ([.ref b])).length) Slot.unset).toArray = ls at hl ⊢
  have hl : lv_has ls 21 [(0, .ref b)] := hl
  refine kL_law (D := D) (cy := cy) (sa := sa) (A := fun q : Nat => s.heap.size ≤ q) hx hb hml hown (fun w hw => hts w (wsL_law_in w hw)) hA hK hG ?_ (pure_law sa (by rw [h4]; exact hL)) ls (by rw [h3]; exact hl)
  intro H locs cells slots pc ls hdg hS h1 h2
  have key := lw_ret (l := l) (e := e) (p := p) (s := s) (m := m) (below := below) (b := b) (H := H) (ls := ls) (d0 := s.drawn) (Drawn.sameBut.refl s.drawn lw_cs) hx hb hr hlocks hdg
  exact va_forget hS.2.2 (W.widen h1 h2 key)
