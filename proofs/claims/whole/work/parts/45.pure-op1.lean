theorem wl_buy {m_coins : Int32} {m_felts : Int32} {m_rags : FN} {a1 : Int32} {a2 : Int32} {lo : Nat → Int64} {z} (h : fX5_buy m_coins m_felts m_rags a1 a2 = some (.inl z)) : fL_buy m_coins m_felts m_rags a1 a2 lo = some (0, z.2.1, z.2.2.1, z.2.2.2, vp_updL lo (0 : Int32).toNatClampNeg z.1.toInt64) := by unfold fL_buy; rw [h]
theorem wr_buy_0 {m_coins : Int32} {m_felts : Int32} {m_rags : FN} {a1 : Int32} {a2 : Int32} {lo : Nat → Int64} (h : fX5_buy m_coins m_felts m_rags a1 a2 = some (.inr 0)) : fL_buy m_coins m_felts m_rags a1 a2 lo = some (1, m_coins, m_felts, m_rags, lo) := by unfold fL_buy; rw [h]; rfl
theorem wr_buy_1 {m_coins : Int32} {m_felts : Int32} {m_rags : FN} {a1 : Int32} {a2 : Int32} {lo : Nat → Int64} (h : fX5_buy m_coins m_felts m_rags a1 a2 = some (.inr 1)) : fL_buy m_coins m_felts m_rags a1 a2 lo = some (2, m_coins, m_felts, m_rags, lo) := by unfold fL_buy; rw [h]; rfl
theorem wr_buy_2 {m_coins : Int32} {m_felts : Int32} {m_rags : FN} {a1 : Int32} {a2 : Int32} {lo : Nat → Int64} (h : fX5_buy m_coins m_felts m_rags a1 a2 = some (.inr 2)) : fL_buy m_coins m_felts m_rags a1 a2 lo = some (3, m_coins, m_felts, m_rags, lo) := by unfold fL_buy; rw [h]; rfl
theorem wl_sell {m_coins : Int32} {m_loft : FN} {a1 : Int32} {a2 : Int32} {a3 : Int32} {lo : Nat → Int64} {z} (h : fX5_sell m_coins m_loft a1 a2 a3 = some (.inl z)) : fL_sell m_coins m_loft a1 a2 a3 lo = some (0, z.2.1, z.2.2, vp_updL lo (0 : Int32).toNatClampNeg z.1.toInt64) := by unfold fL_sell; rw [h]
theorem wr_sell_0 {m_coins : Int32} {m_loft : FN} {a1 : Int32} {a2 : Int32} {a3 : Int32} {lo : Nat → Int64} (h : fX5_sell m_coins m_loft a1 a2 a3 = some (.inr 0)) : fL_sell m_coins m_loft a1 a2 a3 lo = some (1, m_coins, m_loft, lo) := by unfold fL_sell; rw [h]; rfl
theorem wr_sell_1 {m_coins : Int32} {m_loft : FN} {a1 : Int32} {a2 : Int32} {a3 : Int32} {lo : Nat → Int64} (h : fX5_sell m_coins m_loft a1 a2 a3 = some (.inr 1)) : fL_sell m_coins m_loft a1 a2 a3 lo = some (2, m_coins, m_loft, lo) := by unfold fL_sell; rw [h]; rfl
theorem wr_sell_2 {m_coins : Int32} {m_loft : FN} {a1 : Int32} {a2 : Int32} {a3 : Int32} {lo : Nat → Int64} (h : fX5_sell m_coins m_loft a1 a2 a3 = some (.inr 2)) : fL_sell m_coins m_loft a1 a2 a3 lo = some (3, m_coins, m_loft, lo) := by unfold fL_sell; rw [h]; rfl
theorem wl_fill {m_rags : FN} {m_pulp : FN} {m_beat : FN} {m_sort : FN} {a1 : Int32} {a2 : Int32} {a3 : Int32} {lo : Nat → Int64} {z} (h : fX5_fill m_rags m_pulp m_beat m_sort a1 a2 a3 = some (.inl z)) : fL_fill m_rags m_pulp m_beat m_sort a1 a2 a3 lo = some (0, z.2.1, z.2.2.1, z.2.2.2.1, z.2.2.2.2, vp_updL lo (0 : Int32).toNatClampNeg z.1.toInt64) := by unfold fL_fill; rw [h]
theorem wr_fill_0 {m_rags : FN} {m_pulp : FN} {m_beat : FN} {m_sort : FN} {a1 : Int32} {a2 : Int32} {a3 : Int32} {lo : Nat → Int64} (h : fX5_fill m_rags m_pulp m_beat m_sort a1 a2 a3 = some (.inr 0)) : fL_fill m_rags m_pulp m_beat m_sort a1 a2 a3 lo = some (1, m_rags, m_pulp, m_beat, m_sort, lo) := by unfold fL_fill; rw [h]; rfl
theorem wr_fill_1 {m_rags : FN} {m_pulp : FN} {m_beat : FN} {m_sort : FN} {a1 : Int32} {a2 : Int32} {a3 : Int32} {lo : Nat → Int64} (h : fX5_fill m_rags m_pulp m_beat m_sort a1 a2 a3 = some (.inr 1)) : fL_fill m_rags m_pulp m_beat m_sort a1 a2 a3 lo = some (2, m_rags, m_pulp, m_beat, m_sort, lo) := by unfold fL_fill; rw [h]; rfl
theorem wr_fill_2 {m_rags : FN} {m_pulp : FN} {m_beat : FN} {m_sort : FN} {a1 : Int32} {a2 : Int32} {a3 : Int32} {lo : Nat → Int64} (h : fX5_fill m_rags m_pulp m_beat m_sort a1 a2 a3 = some (.inr 2)) : fL_fill m_rags m_pulp m_beat m_sort a1 a2 a3 lo = some (3, m_rags, m_pulp, m_beat, m_sort, lo) := by unfold fL_fill; rw [h]; rfl
theorem wl_drain {m_pulp : FN} {m_beat : FN} {m_sort : FN} {a1 : Int32} {lo : Nat → Int64} {z} (h : fX5_drain m_pulp m_beat m_sort a1 = some (.inl z)) : fL_drain m_pulp m_beat m_sort a1 lo = some (0, z.2.1, z.2.2.1, z.2.2.2, vp_updL lo (0 : Int32).toNatClampNeg z.1.toInt64) := by unfold fL_drain; rw [h]
theorem wr_drain_0 {m_pulp : FN} {m_beat : FN} {m_sort : FN} {a1 : Int32} {lo : Nat → Int64} (h : fX5_drain m_pulp m_beat m_sort a1 = some (.inr 0)) : fL_drain m_pulp m_beat m_sort a1 lo = some (1, m_pulp, m_beat, m_sort, lo) := by unfold fL_drain; rw [h]; rfl
theorem wr_drain_2 {m_pulp : FN} {m_beat : FN} {m_sort : FN} {a1 : Int32} {lo : Nat → Int64} (h : fX5_drain m_pulp m_beat m_sort a1 = some (.inr 2)) : fL_drain m_pulp m_beat m_sort a1 lo = some (2, m_pulp, m_beat, m_sort, lo) := by unfold fL_drain; rw [h]; rfl
theorem wl_pair {m_nM : Int32} {m_mark : FN} {m_size : FN} {m_worn : FN} {a1 : Int32} {a2 : Int32} {lo : Nat → Int64} {z} (h : fX5_pair m_nM m_mark m_size m_worn a1 a2 = some (.inl z)) : fL_pair m_nM m_mark m_size m_worn a1 a2 lo = some (0, z.2.1, z.2.2.1, z.2.2.2.1, z.2.2.2.2, vp_updL lo (0 : Int32).toNatClampNeg z.1.toInt64) := by unfold fL_pair; rw [h]
theorem wr_pair_0 {m_nM : Int32} {m_mark : FN} {m_size : FN} {m_worn : FN} {a1 : Int32} {a2 : Int32} {lo : Nat → Int64} (h : fX5_pair m_nM m_mark m_size m_worn a1 a2 = some (.inr 0)) : fL_pair m_nM m_mark m_size m_worn a1 a2 lo = some (1, m_nM, m_mark, m_size, m_worn, lo) := by unfold fL_pair; rw [h]; rfl
theorem wr_pair_1 {m_nM : Int32} {m_mark : FN} {m_size : FN} {m_worn : FN} {a1 : Int32} {a2 : Int32} {lo : Nat → Int64} (h : fX5_pair m_nM m_mark m_size m_worn a1 a2 = some (.inr 1)) : fL_pair m_nM m_mark m_size m_worn a1 a2 lo = some (2, m_nM, m_mark, m_size, m_worn, lo) := by unfold fL_pair; rw [h]; rfl
theorem wr_pair_2 {m_nM : Int32} {m_mark : FN} {m_size : FN} {m_worn : FN} {a1 : Int32} {a2 : Int32} {lo : Nat → Int64} (h : fX5_pair m_nM m_mark m_size m_worn a1 a2 = some (.inr 2)) : fL_pair m_nM m_mark m_size m_worn a1 a2 lo = some (3, m_nM, m_mark, m_size, m_worn, lo) := by unfold fL_pair; rw [h]; rfl
theorem wl_wire {m_coins : Int32} {m_nM : Int32} {m_worn : FN} {a1 : Int32} {lo : Nat → Int64} {z} (h : fX5_wire m_coins m_nM m_worn a1 = some (.inl z)) : fL_wire m_coins m_nM m_worn a1 lo = some (0, z.2.1, z.2.2, vp_updL lo (0 : Int32).toNatClampNeg z.1.toInt64) := by unfold fL_wire; rw [h]
theorem wr_wire_0 {m_coins : Int32} {m_nM : Int32} {m_worn : FN} {a1 : Int32} {lo : Nat → Int64} (h : fX5_wire m_coins m_nM m_worn a1 = some (.inr 0)) : fL_wire m_coins m_nM m_worn a1 lo = some (1, m_coins, m_worn, lo) := by unfold fL_wire; rw [h]; rfl
theorem wr_wire_2 {m_coins : Int32} {m_nM : Int32} {m_worn : FN} {a1 : Int32} {lo : Nat → Int64} (h : fX5_wire m_coins m_nM m_worn a1 = some (.inr 2)) : fL_wire m_coins m_nM m_worn a1 lo = some (2, m_coins, m_worn, lo) := by unfold fL_wire; rw [h]; rfl
theorem wl_team {m_nT : Int32} {m_skill : FN} {m_vat : FN} {m_pair : FN} {a1 : Int32} {lo : Nat → Int64} {z} (h : fX5_team m_nT m_skill m_vat m_pair a1 = some (.inl z)) : fL_team m_nT m_skill m_vat m_pair a1 lo = some (0, z.2.1, z.2.2.1, z.2.2.2.1, z.2.2.2.2, vp_updL lo (0 : Int32).toNatClampNeg z.1.toInt64) := by unfold fL_team; rw [h]
theorem wr_team_1 {m_nT : Int32} {m_skill : FN} {m_vat : FN} {m_pair : FN} {a1 : Int32} {lo : Nat → Int64} (h : fX5_team m_nT m_skill m_vat m_pair a1 = some (.inr 1)) : fL_team m_nT m_skill m_vat m_pair a1 lo = some (1, m_nT, m_skill, m_vat, m_pair, lo) := by unfold fL_team; rw [h]; rfl
theorem wr_team_2 {m_nT : Int32} {m_skill : FN} {m_vat : FN} {m_pair : FN} {a1 : Int32} {lo : Nat → Int64} (h : fX5_team m_nT m_skill m_vat m_pair a1 = some (.inr 2)) : fL_team m_nT m_skill m_vat m_pair a1 lo = some (2, m_nT, m_skill, m_vat, m_pair, lo) := by unfold fL_team; rw [h]; rfl
theorem wl_place {m_felts : Int32} {m_pulp : FN} {m_beat : FN} {m_nM : Int32} {m_size : FN} {m_nT : Int32} {m_skill : FN} {m_vat : FN} {m_pair : FN} {m_allS : Int32} {a1 : Int32} {a2 : Int32} {a3 : Int32} {lo : Nat → Int64} {z} (h : fX5_place m_felts m_pulp m_beat m_nM m_size m_nT m_skill m_vat m_pair m_allS a1 a2 a3 = some (.inl z)) : fL_place m_felts m_pulp m_beat m_nM m_size m_nT m_skill m_vat m_pair m_allS a1 a2 a3 lo = some (0, z.2.1, z.2.2, vp_updL lo (0 : Int32).toNatClampNeg z.1.toInt64) := by unfold fL_place; rw [h]
theorem wr_place_0 {m_felts : Int32} {m_pulp : FN} {m_beat : FN} {m_nM : Int32} {m_size : FN} {m_nT : Int32} {m_skill : FN} {m_vat : FN} {m_pair : FN} {m_allS : Int32} {a1 : Int32} {a2 : Int32} {a3 : Int32} {lo : Nat → Int64} (h : fX5_place m_felts m_pulp m_beat m_nM m_size m_nT m_skill m_vat m_pair m_allS a1 a2 a3 = some (.inr 0)) : fL_place m_felts m_pulp m_beat m_nM m_size m_nT m_skill m_vat m_pair m_allS a1 a2 a3 lo = some (1, m_vat, m_pair, lo) := by unfold fL_place; rw [h]; rfl
theorem wr_place_2 {m_felts : Int32} {m_pulp : FN} {m_beat : FN} {m_nM : Int32} {m_size : FN} {m_nT : Int32} {m_skill : FN} {m_vat : FN} {m_pair : FN} {m_allS : Int32} {a1 : Int32} {a2 : Int32} {a3 : Int32} {lo : Nat → Int64} (h : fX5_place m_felts m_pulp m_beat m_nM m_size m_nT m_skill m_vat m_pair m_allS a1 a2 a3 = some (.inr 2)) : fL_place m_felts m_pulp m_beat m_nM m_size m_nT m_skill m_vat m_pair m_allS a1 a2 a3 lo = some (2, m_vat, m_pair, lo) := by unfold fL_place; rw [h]; rfl
theorem wl_setWater {m_water : FN} {a1 : Int32} {a2 : Int32} {lo : Nat → Int64} {z} (h : fX5_setWater m_water a1 a2 = some (.inl z)) : fL_setWater m_water a1 a2 lo = some (0, z.2, vp_updL lo (0 : Int32).toNatClampNeg z.1.toInt64) := by unfold fL_setWater; rw [h]
theorem wr_setWater_0 {m_water : FN} {a1 : Int32} {a2 : Int32} {lo : Nat → Int64} (h : fX5_setWater m_water a1 a2 = some (.inr 0)) : fL_setWater m_water a1 a2 lo = some (1, m_water, lo) := by unfold fL_setWater; rw [h]; rfl
theorem wr_setWater_1 {m_water : FN} {a1 : Int32} {a2 : Int32} {lo : Nat → Int64} (h : fX5_setWater m_water a1 a2 = some (.inr 1)) : fL_setWater m_water a1 a2 lo = some (2, m_water, lo) := by unfold fL_setWater; rw [h]; rfl
theorem wl_about {m_pulp : FN} {m_beat : FN} {m_sort : FN} {a1 : Int32} {a2 : Int32} {lo : Nat → Int64} {z} (h : fX5_about m_pulp m_beat m_sort a1 a2 = some (.inl z)) : fL_about m_pulp m_beat m_sort a1 a2 lo = some (0, vp_updL lo (0 : Int32).toNatClampNeg z.toInt64) := by unfold fL_about; rw [h]
theorem wr_about_0 {m_pulp : FN} {m_beat : FN} {m_sort : FN} {a1 : Int32} {a2 : Int32} {lo : Nat → Int64} (h : fX5_about m_pulp m_beat m_sort a1 a2 = some (.inr 0)) : fL_about m_pulp m_beat m_sort a1 a2 lo = some (1, lo) := by unfold fL_about; rw [h]; rfl
theorem wl_mould {m_nM : Int32} {m_mark : FN} {m_size : FN} {m_worn : FN} {m_nT : Int32} {m_pair : FN} {a1 : Int32} {a2 : Int32} {lo : Nat → Int64} {z} (h : fX5_mould m_nM m_mark m_size m_worn m_nT m_pair a1 a2 = some (.inl z)) : fL_mould m_nM m_mark m_size m_worn m_nT m_pair a1 a2 lo = some (0, vp_updL lo (0 : Int32).toNatClampNeg z.toInt64) := by unfold fL_mould; rw [h]
theorem wr_mould_0 {m_nM : Int32} {m_mark : FN} {m_size : FN} {m_worn : FN} {m_nT : Int32} {m_pair : FN} {a1 : Int32} {a2 : Int32} {lo : Nat → Int64} (h : fX5_mould m_nM m_mark m_size m_worn m_nT m_pair a1 a2 = some (.inr 0)) : fL_mould m_nM m_mark m_size m_worn m_nT m_pair a1 a2 lo = some (1, lo) := by unfold fL_mould; rw [h]; rfl
theorem wl_told {m_felts : Int32} {m_pulp : FN} {m_beat : FN} {m_nM : Int32} {m_size : FN} {m_nT : Int32} {m_skill : FN} {m_vat : FN} {m_pair : FN} {m_allS : Int32} {a1 : Int32} {a2 : Int32} {lo : Nat → Int64} {z} (h : fX5_told m_felts m_pulp m_beat m_nM m_size m_nT m_skill m_vat m_pair m_allS a1 a2 = some (.inl z)) : fL_told m_felts m_pulp m_beat m_nM m_size m_nT m_skill m_vat m_pair m_allS a1 a2 lo = some (0, vp_updL lo (0 : Int32).toNatClampNeg z.toInt64) := by unfold fL_told; rw [h]
theorem wr_told_0 {m_felts : Int32} {m_pulp : FN} {m_beat : FN} {m_nM : Int32} {m_size : FN} {m_nT : Int32} {m_skill : FN} {m_vat : FN} {m_pair : FN} {m_allS : Int32} {a1 : Int32} {a2 : Int32} {lo : Nat → Int64} (h : fX5_told m_felts m_pulp m_beat m_nM m_size m_nT m_skill m_vat m_pair m_allS a1 a2 = some (.inr 0)) : fL_told m_felts m_pulp m_beat m_nM m_size m_nT m_skill m_vat m_pair m_allS a1 a2 lo = some (1, lo) := by unfold fL_told; rw [h]; rfl
theorem wl_post {m_nQ : Int32} {m_pmark : FN} {m_pgrade : FN} {m_psheets : FN} {a1 : Int32} {a2 : Int32} {lo : Nat → Int64} {z} (h : fX5_post m_nQ m_pmark m_pgrade m_psheets a1 a2 = some (.inl z)) : fL_post m_nQ m_pmark m_pgrade m_psheets a1 a2 lo = some (0, vp_updL lo (0 : Int32).toNatClampNeg z.toInt64) := by unfold fL_post; rw [h]
theorem wr_post_0 {m_nQ : Int32} {m_pmark : FN} {m_pgrade : FN} {m_psheets : FN} {a1 : Int32} {a2 : Int32} {lo : Nat → Int64} (h : fX5_post m_nQ m_pmark m_pgrade m_psheets a1 a2 = some (.inr 0)) : fL_post m_nQ m_pmark m_pgrade m_psheets a1 a2 lo = some (1, lo) := by unfold fL_post; rw [h]; rfl
theorem wl_loft {m_loft : FN} {a1 : Int32} {a2 : Int32} {lo : Nat → Int64} {z} (h : fX5_loft m_loft a1 a2 = some (.inl z)) : fL_loft m_loft a1 a2 lo = some (0, vp_updL lo (0 : Int32).toNatClampNeg z.toInt64) := by unfold fL_loft; rw [h]
theorem wr_loft_0 {m_loft : FN} {a1 : Int32} {a2 : Int32} {lo : Nat → Int64} (h : fX5_loft m_loft a1 a2 = some (.inr 0)) : fL_loft m_loft a1 a2 lo = some (1, lo) := by unfold fL_loft; rw [h]; rfl
theorem wl_count {m_day : Int32} {m_coins : Int32} {m_felts : Int32} {m_made : Int32} {m_worth : Int32} {m_rags : FN} {m_pulp : FN} {m_nQ : Int32} {m_allS : Int32} {m_loft : FN} {a1 : Int32} {lo : Nat → Int64} {z} (h : fX5_count m_day m_coins m_felts m_made m_worth m_rags m_pulp m_nQ m_allS m_loft a1 = some (.inl z)) : fL_count m_day m_coins m_felts m_made m_worth m_rags m_pulp m_nQ m_allS m_loft a1 lo = some (0, vp_updL lo (0 : Int32).toNatClampNeg z.toInt64) := by unfold fL_count; rw [h]
theorem wr_count_0 {m_day : Int32} {m_coins : Int32} {m_felts : Int32} {m_made : Int32} {m_worth : Int32} {m_rags : FN} {m_pulp : FN} {m_nQ : Int32} {m_allS : Int32} {m_loft : FN} {a1 : Int32} {lo : Nat → Int64} (h : fX5_count m_day m_coins m_felts m_made m_worth m_rags m_pulp m_nQ m_allS m_loft a1 = some (.inr 0)) : fL_count m_day m_coins m_felts m_made m_worth m_rags m_pulp m_nQ m_allS m_loft a1 lo = some (1, lo) := by unfold fL_count; rw [h]; rfl
theorem wl_pass {m_day : Int32} {m_felts : Int32} {m_made : Int32} {m_worth : Int32} {m_water : FN} {m_pulp : FN} {m_beat : FN} {m_sort : FN} {m_nM : Int32} {m_mark : FN} {m_size : FN} {m_worn : FN} {m_nT : Int32} {m_skill : FN} {m_vat : FN} {m_pair : FN} {m_nQ : Int32} {m_allS : Int32} {m_pmark : FN} {m_pgrade : FN} {m_psheets : FN} {m_loft : FN} {a1 : Int32} {lo : Nat → Int64} {z} (h : fX5_pass m_day m_felts m_made m_worth m_water m_pulp m_beat m_sort m_nM m_mark m_size m_worn m_nT m_skill m_vat m_pair m_nQ m_allS m_pmark m_pgrade m_psheets m_loft a1 = some (.inl z)) : fL_pass m_day m_felts m_made m_worth m_water m_pulp m_beat m_sort m_nM m_mark m_size m_worn m_nT m_skill m_vat m_pair m_nQ m_allS m_pmark m_pgrade m_psheets m_loft a1 lo = some (0, z.2.1, z.2.2.1, z.2.2.2.1, z.2.2.2.2.1, z.2.2.2.2.2.1, z.2.2.2.2.2.2.1, z.2.2.2.2.2.2.2.1, z.2.2.2.2.2.2.2.2.1, z.2.2.2.2.2.2.2.2.2.1, z.2.2.2.2.2.2.2.2.2.2.1, z.2.2.2.2.2.2.2.2.2.2.2.1, z.2.2.2.2.2.2.2.2.2.2.2.2.1, z.2.2.2.2.2.2.2.2.2.2.2.2.2, vp_updL lo (0 : Int32).toNatClampNeg z.1.toInt64) := by unfold fL_pass; rw [h]
theorem wr_pass_1 {m_day : Int32} {m_felts : Int32} {m_made : Int32} {m_worth : Int32} {m_water : FN} {m_pulp : FN} {m_beat : FN} {m_sort : FN} {m_nM : Int32} {m_mark : FN} {m_size : FN} {m_worn : FN} {m_nT : Int32} {m_skill : FN} {m_vat : FN} {m_pair : FN} {m_nQ : Int32} {m_allS : Int32} {m_pmark : FN} {m_pgrade : FN} {m_psheets : FN} {m_loft : FN} {a1 : Int32} {lo : Nat → Int64} (h : fX5_pass m_day m_felts m_made m_worth m_water m_pulp m_beat m_sort m_nM m_mark m_size m_worn m_nT m_skill m_vat m_pair m_nQ m_allS m_pmark m_pgrade m_psheets m_loft a1 = some (.inr 1)) : fL_pass m_day m_felts m_made m_worth m_water m_pulp m_beat m_sort m_nM m_mark m_size m_worn m_nT m_skill m_vat m_pair m_nQ m_allS m_pmark m_pgrade m_psheets m_loft a1 lo = some (1, m_day, m_made, m_worth, m_pulp, m_beat, m_sort, m_worn, m_nQ, m_allS, m_pmark, m_pgrade, m_psheets, m_loft, lo) := by unfold fL_pass; rw [h]; rfl
theorem wl_ripe {m_day : Int32} {m_coins : Int32} {m_felts : Int32} {m_made : Int32} {m_worth : Int32} {m_rags : FN} {m_water : FN} {m_pulp : FN} {m_beat : FN} {m_sort : FN} {m_nM : Int32} {m_mark : FN} {m_size : FN} {m_worn : FN} {m_nT : Int32} {m_skill : FN} {m_vat : FN} {m_pair : FN} {m_nQ : Int32} {m_allS : Int32} {m_pmark : FN} {m_pgrade : FN} {m_psheets : FN} {m_loft : FN} {t_day : Int32} {t_coins : Int32} {t_felts : Int32} {t_made : Int32} {t_worth : Int32} {t_rags : FN} {t_water : FN} {t_pulp : FN} {t_beat : FN} {t_sort : FN} {t_nM : Int32} {t_mark : FN} {t_size : FN} {t_worn : FN} {t_nT : Int32} {t_skill : FN} {t_vat : FN} {t_pair : FN} {t_nQ : Int32} {t_allS : Int32} {t_pmark : FN} {t_pgrade : FN} {t_psheets : FN} {t_loft : FN} {a1 : Int32} {a2 : Int32} {lo : Nat → Int64} {z} (h : fX5_ripe m_day m_coins m_felts m_made m_worth m_rags m_water m_pulp m_beat m_sort m_nM m_mark m_size m_worn m_nT m_skill m_vat m_pair m_nQ m_allS m_pmark m_pgrade m_psheets m_loft a1 a2 = some (.inl z)) : fL_ripe m_day m_coins m_felts m_made m_worth m_rags m_water m_pulp m_beat m_sort m_nM m_mark m_size m_worn m_nT m_skill m_vat m_pair m_nQ m_allS m_pmark m_pgrade m_psheets m_loft t_day t_coins t_felts t_made t_worth t_rags t_water t_pulp t_beat t_sort t_nM t_mark t_size t_worn t_nT t_skill t_vat t_pair t_nQ t_allS t_pmark t_pgrade t_psheets t_loft a1 a2 lo = some (0, z.2.1, z.2.2.1, z.2.2.2.1, z.2.2.2.2.1, z.2.2.2.2.2.1, z.2.2.2.2.2.2.1, z.2.2.2.2.2.2.2.1, z.2.2.2.2.2.2.2.2.1, z.2.2.2.2.2.2.2.2.2.1, z.2.2.2.2.2.2.2.2.2.2.1, z.2.2.2.2.2.2.2.2.2.2.2.1, z.2.2.2.2.2.2.2.2.2.2.2.2.1, z.2.2.2.2.2.2.2.2.2.2.2.2.2.1, z.2.2.2.2.2.2.2.2.2.2.2.2.2.2.1, z.2.2.2.2.2.2.2.2.2.2.2.2.2.2.2.1, z.2.2.2.2.2.2.2.2.2.2.2.2.2.2.2.2.1, z.2.2.2.2.2.2.2.2.2.2.2.2.2.2.2.2.2.1, z.2.2.2.2.2.2.2.2.2.2.2.2.2.2.2.2.2.2.1, z.2.2.2.2.2.2.2.2.2.2.2.2.2.2.2.2.2.2.2.1, z.2.2.2.2.2.2.2.2.2.2.2.2.2.2.2.2.2.2.2.2.1, z.2.2.2.2.2.2.2.2.2.2.2.2.2.2.2.2.2.2.2.2.2.1, z.2.2.2.2.2.2.2.2.2.2.2.2.2.2.2.2.2.2.2.2.2.2.1, z.2.2.2.2.2.2.2.2.2.2.2.2.2.2.2.2.2.2.2.2.2.2.2.1, z.2.2.2.2.2.2.2.2.2.2.2.2.2.2.2.2.2.2.2.2.2.2.2.2, vp_updL lo (0 : Int32).toNatClampNeg z.1.toInt64) := by unfold fL_ripe; rw [h]
theorem wr_ripe_0 {m_day : Int32} {m_coins : Int32} {m_felts : Int32} {m_made : Int32} {m_worth : Int32} {m_rags : FN} {m_water : FN} {m_pulp : FN} {m_beat : FN} {m_sort : FN} {m_nM : Int32} {m_mark : FN} {m_size : FN} {m_worn : FN} {m_nT : Int32} {m_skill : FN} {m_vat : FN} {m_pair : FN} {m_nQ : Int32} {m_allS : Int32} {m_pmark : FN} {m_pgrade : FN} {m_psheets : FN} {m_loft : FN} {t_day : Int32} {t_coins : Int32} {t_felts : Int32} {t_made : Int32} {t_worth : Int32} {t_rags : FN} {t_water : FN} {t_pulp : FN} {t_beat : FN} {t_sort : FN} {t_nM : Int32} {t_mark : FN} {t_size : FN} {t_worn : FN} {t_nT : Int32} {t_skill : FN} {t_vat : FN} {t_pair : FN} {t_nQ : Int32} {t_allS : Int32} {t_pmark : FN} {t_pgrade : FN} {t_psheets : FN} {t_loft : FN} {a1 : Int32} {a2 : Int32} {lo : Nat → Int64} (h : fX5_ripe m_day m_coins m_felts m_made m_worth m_rags m_water m_pulp m_beat m_sort m_nM m_mark m_size m_worn m_nT m_skill m_vat m_pair m_nQ m_allS m_pmark m_pgrade m_psheets m_loft a1 a2 = some (.inr 0)) : fL_ripe m_day m_coins m_felts m_made m_worth m_rags m_water m_pulp m_beat m_sort m_nM m_mark m_size m_worn m_nT m_skill m_vat m_pair m_nQ m_allS m_pmark m_pgrade m_psheets m_loft t_day t_coins t_felts t_made t_worth t_rags t_water t_pulp t_beat t_sort t_nM t_mark t_size t_worn t_nT t_skill t_vat t_pair t_nQ t_allS t_pmark t_pgrade t_psheets t_loft a1 a2 lo = some (1, t_day, t_coins, t_felts, t_made, t_worth, t_rags, t_water, t_pulp, t_beat, t_sort, t_nM, t_mark, t_size, t_worn, t_nT, t_skill, t_vat, t_pair, t_nQ, t_allS, t_pmark, t_pgrade, t_psheets, t_loft, lo) := by unfold fL_ripe; rw [h]; rfl
theorem wr_ripe_1 {m_day : Int32} {m_coins : Int32} {m_felts : Int32} {m_made : Int32} {m_worth : Int32} {m_rags : FN} {m_water : FN} {m_pulp : FN} {m_beat : FN} {m_sort : FN} {m_nM : Int32} {m_mark : FN} {m_size : FN} {m_worn : FN} {m_nT : Int32} {m_skill : FN} {m_vat : FN} {m_pair : FN} {m_nQ : Int32} {m_allS : Int32} {m_pmark : FN} {m_pgrade : FN} {m_psheets : FN} {m_loft : FN} {t_day : Int32} {t_coins : Int32} {t_felts : Int32} {t_made : Int32} {t_worth : Int32} {t_rags : FN} {t_water : FN} {t_pulp : FN} {t_beat : FN} {t_sort : FN} {t_nM : Int32} {t_mark : FN} {t_size : FN} {t_worn : FN} {t_nT : Int32} {t_skill : FN} {t_vat : FN} {t_pair : FN} {t_nQ : Int32} {t_allS : Int32} {t_pmark : FN} {t_pgrade : FN} {t_psheets : FN} {t_loft : FN} {a1 : Int32} {a2 : Int32} {lo : Nat → Int64} (h : fX5_ripe m_day m_coins m_felts m_made m_worth m_rags m_water m_pulp m_beat m_sort m_nM m_mark m_size m_worn m_nT m_skill m_vat m_pair m_nQ m_allS m_pmark m_pgrade m_psheets m_loft a1 a2 = some (.inr 1)) : fL_ripe m_day m_coins m_felts m_made m_worth m_rags m_water m_pulp m_beat m_sort m_nM m_mark m_size m_worn m_nT m_skill m_vat m_pair m_nQ m_allS m_pmark m_pgrade m_psheets m_loft t_day t_coins t_felts t_made t_worth t_rags t_water t_pulp t_beat t_sort t_nM t_mark t_size t_worn t_nT t_skill t_vat t_pair t_nQ t_allS t_pmark t_pgrade t_psheets t_loft a1 a2 lo = some (2, t_day, t_coins, t_felts, t_made, t_worth, t_rags, t_water, t_pulp, t_beat, t_sort, t_nM, t_mark, t_size, t_worn, t_nT, t_skill, t_vat, t_pair, t_nQ, t_allS, t_pmark, t_pgrade, t_psheets, t_loft, lo) := by unfold fL_ripe; rw [h]; rfl
theorem wl_foresee {m_day : Int32} {m_coins : Int32} {m_felts : Int32} {m_made : Int32} {m_worth : Int32} {m_rags : FN} {m_water : FN} {m_pulp : FN} {m_beat : FN} {m_sort : FN} {m_nM : Int32} {m_mark : FN} {m_size : FN} {m_worn : FN} {m_nT : Int32} {m_skill : FN} {m_vat : FN} {m_pair : FN} {m_nQ : Int32} {m_allS : Int32} {m_pmark : FN} {m_pgrade : FN} {m_psheets : FN} {m_loft : FN} {t_day : Int32} {t_coins : Int32} {t_felts : Int32} {t_made : Int32} {t_worth : Int32} {t_rags : FN} {t_water : FN} {t_pulp : FN} {t_beat : FN} {t_sort : FN} {t_nM : Int32} {t_mark : FN} {t_size : FN} {t_worn : FN} {t_nT : Int32} {t_skill : FN} {t_vat : FN} {t_pair : FN} {t_nQ : Int32} {t_allS : Int32} {t_pmark : FN} {t_pgrade : FN} {t_psheets : FN} {t_loft : FN} {a1 : Int32} {a2 : Int32} {lo : Nat → Int64} {z} (h : fX5_foresee m_day m_coins m_felts m_made m_worth m_rags m_water m_pulp m_beat m_sort m_nM m_mark m_size m_worn m_nT m_skill m_vat m_pair m_nQ m_allS m_pmark m_pgrade m_psheets m_loft a1 a2 = some (.inl z)) : fL_foresee m_day m_coins m_felts m_made m_worth m_rags m_water m_pulp m_beat m_sort m_nM m_mark m_size m_worn m_nT m_skill m_vat m_pair m_nQ m_allS m_pmark m_pgrade m_psheets m_loft t_day t_coins t_felts t_made t_worth t_rags t_water t_pulp t_beat t_sort t_nM t_mark t_size t_worn t_nT t_skill t_vat t_pair t_nQ t_allS t_pmark t_pgrade t_psheets t_loft a1 a2 lo = some (0, z.2.1, z.2.2.1, z.2.2.2.1, z.2.2.2.2.1, z.2.2.2.2.2.1, z.2.2.2.2.2.2.1, z.2.2.2.2.2.2.2.1, z.2.2.2.2.2.2.2.2.1, z.2.2.2.2.2.2.2.2.2.1, z.2.2.2.2.2.2.2.2.2.2.1, z.2.2.2.2.2.2.2.2.2.2.2.1, z.2.2.2.2.2.2.2.2.2.2.2.2.1, z.2.2.2.2.2.2.2.2.2.2.2.2.2.1, z.2.2.2.2.2.2.2.2.2.2.2.2.2.2.1, z.2.2.2.2.2.2.2.2.2.2.2.2.2.2.2.1, z.2.2.2.2.2.2.2.2.2.2.2.2.2.2.2.2.1, z.2.2.2.2.2.2.2.2.2.2.2.2.2.2.2.2.2.1, z.2.2.2.2.2.2.2.2.2.2.2.2.2.2.2.2.2.2.1, z.2.2.2.2.2.2.2.2.2.2.2.2.2.2.2.2.2.2.2.1, z.2.2.2.2.2.2.2.2.2.2.2.2.2.2.2.2.2.2.2.2.1, z.2.2.2.2.2.2.2.2.2.2.2.2.2.2.2.2.2.2.2.2.2.1, z.2.2.2.2.2.2.2.2.2.2.2.2.2.2.2.2.2.2.2.2.2.2.1, z.2.2.2.2.2.2.2.2.2.2.2.2.2.2.2.2.2.2.2.2.2.2.2.1, z.2.2.2.2.2.2.2.2.2.2.2.2.2.2.2.2.2.2.2.2.2.2.2.2, vp_updL lo (0 : Int32).toNatClampNeg z.1.toInt64) := by unfold fL_foresee; rw [h]
theorem wr_foresee_1 {m_day : Int32} {m_coins : Int32} {m_felts : Int32} {m_made : Int32} {m_worth : Int32} {m_rags : FN} {m_water : FN} {m_pulp : FN} {m_beat : FN} {m_sort : FN} {m_nM : Int32} {m_mark : FN} {m_size : FN} {m_worn : FN} {m_nT : Int32} {m_skill : FN} {m_vat : FN} {m_pair : FN} {m_nQ : Int32} {m_allS : Int32} {m_pmark : FN} {m_pgrade : FN} {m_psheets : FN} {m_loft : FN} {t_day : Int32} {t_coins : Int32} {t_felts : Int32} {t_made : Int32} {t_worth : Int32} {t_rags : FN} {t_water : FN} {t_pulp : FN} {t_beat : FN} {t_sort : FN} {t_nM : Int32} {t_mark : FN} {t_size : FN} {t_worn : FN} {t_nT : Int32} {t_skill : FN} {t_vat : FN} {t_pair : FN} {t_nQ : Int32} {t_allS : Int32} {t_pmark : FN} {t_pgrade : FN} {t_psheets : FN} {t_loft : FN} {a1 : Int32} {a2 : Int32} {lo : Nat → Int64} (h : fX5_foresee m_day m_coins m_felts m_made m_worth m_rags m_water m_pulp m_beat m_sort m_nM m_mark m_size m_worn m_nT m_skill m_vat m_pair m_nQ m_allS m_pmark m_pgrade m_psheets m_loft a1 a2 = some (.inr 1)) : fL_foresee m_day m_coins m_felts m_made m_worth m_rags m_water m_pulp m_beat m_sort m_nM m_mark m_size m_worn m_nT m_skill m_vat m_pair m_nQ m_allS m_pmark m_pgrade m_psheets m_loft t_day t_coins t_felts t_made t_worth t_rags t_water t_pulp t_beat t_sort t_nM t_mark t_size t_worn t_nT t_skill t_vat t_pair t_nQ t_allS t_pmark t_pgrade t_psheets t_loft a1 a2 lo = some (1, t_day, t_coins, t_felts, t_made, t_worth, t_rags, t_water, t_pulp, t_beat, t_sort, t_nM, t_mark, t_size, t_worn, t_nT, t_skill, t_vat, t_pair, t_nQ, t_allS, t_pmark, t_pgrade, t_psheets, t_loft, lo) := by unfold fL_foresee; rw [h]; rfl
theorem wr_foresee_0 {m_day : Int32} {m_coins : Int32} {m_felts : Int32} {m_made : Int32} {m_worth : Int32} {m_rags : FN} {m_water : FN} {m_pulp : FN} {m_beat : FN} {m_sort : FN} {m_nM : Int32} {m_mark : FN} {m_size : FN} {m_worn : FN} {m_nT : Int32} {m_skill : FN} {m_vat : FN} {m_pair : FN} {m_nQ : Int32} {m_allS : Int32} {m_pmark : FN} {m_pgrade : FN} {m_psheets : FN} {m_loft : FN} {t_day : Int32} {t_coins : Int32} {t_felts : Int32} {t_made : Int32} {t_worth : Int32} {t_rags : FN} {t_water : FN} {t_pulp : FN} {t_beat : FN} {t_sort : FN} {t_nM : Int32} {t_mark : FN} {t_size : FN} {t_worn : FN} {t_nT : Int32} {t_skill : FN} {t_vat : FN} {t_pair : FN} {t_nQ : Int32} {t_allS : Int32} {t_pmark : FN} {t_pgrade : FN} {t_psheets : FN} {t_loft : FN} {a1 : Int32} {a2 : Int32} {lo : Nat → Int64} (h : fX5_foresee m_day m_coins m_felts m_made m_worth m_rags m_water m_pulp m_beat m_sort m_nM m_mark m_size m_worn m_nT m_skill m_vat m_pair m_nQ m_allS m_pmark m_pgrade m_psheets m_loft a1 a2 = some (.inr 0)) : fL_foresee m_day m_coins m_felts m_made m_worth m_rags m_water m_pulp m_beat m_sort m_nM m_mark m_size m_worn m_nT m_skill m_vat m_pair m_nQ m_allS m_pmark m_pgrade m_psheets m_loft t_day t_coins t_felts t_made t_worth t_rags t_water t_pulp t_beat t_sort t_nM t_mark t_size t_worn t_nT t_skill t_vat t_pair t_nQ t_allS t_pmark t_pgrade t_psheets t_loft a1 a2 lo = some (2, t_day, t_coins, t_felts, t_made, t_worth, t_rags, t_water, t_pulp, t_beat, t_sort, t_nM, t_mark, t_size, t_worn, t_nT, t_skill, t_vat, t_pair, t_nQ, t_allS, t_pmark, t_pgrade, t_psheets, t_loft, lo) := by unfold fL_foresee; rw [h]; rfl
theorem wl_advise {m_day : Int32} {m_coins : Int32} {m_felts : Int32} {m_made : Int32} {m_worth : Int32} {m_rags : FN} {m_water : FN} {m_pulp : FN} {m_beat : FN} {m_sort : FN} {m_nM : Int32} {m_mark : FN} {m_size : FN} {m_worn : FN} {m_nT : Int32} {m_skill : FN} {m_vat : FN} {m_pair : FN} {m_nQ : Int32} {m_allS : Int32} {m_pmark : FN} {m_pgrade : FN} {m_psheets : FN} {m_loft : FN} {t_day : Int32} {t_coins : Int32} {t_felts : Int32} {t_made : Int32} {t_worth : Int32} {t_rags : FN} {t_water : FN} {t_pulp : FN} {t_beat : FN} {t_sort : FN} {t_nM : Int32} {t_mark : FN} {t_size : FN} {t_worn : FN} {t_nT : Int32} {t_skill : FN} {t_vat : FN} {t_pair : FN} {t_nQ : Int32} {t_allS : Int32} {t_pmark : FN} {t_pgrade : FN} {t_psheets : FN} {t_loft : FN} {a1 : Int32} {lo : Nat → Int64} {z} (h : fX5_advise m_day m_coins m_felts m_made m_worth m_rags m_water m_pulp m_beat m_sort m_nM m_mark m_size m_worn m_nT m_skill m_vat m_pair m_nQ m_allS m_pmark m_pgrade m_psheets m_loft t_day t_coins t_felts t_made t_worth t_rags t_water t_pulp t_beat t_sort t_nM t_mark t_size t_worn t_nT t_skill t_vat t_pair t_nQ t_allS t_pmark t_pgrade t_psheets t_loft a1 = some (.inl z)) : fL_advise m_day m_coins m_felts m_made m_worth m_rags m_water m_pulp m_beat m_sort m_nM m_mark m_size m_worn m_nT m_skill m_vat m_pair m_nQ m_allS m_pmark m_pgrade m_psheets m_loft t_day t_coins t_felts t_made t_worth t_rags t_water t_pulp t_beat t_sort t_nM t_mark t_size t_worn t_nT t_skill t_vat t_pair t_nQ t_allS t_pmark t_pgrade t_psheets t_loft a1 lo = some (0, z.2.1, z.2.2.1, z.2.2.2.1, z.2.2.2.2.1, z.2.2.2.2.2.1, z.2.2.2.2.2.2.1, z.2.2.2.2.2.2.2.1, z.2.2.2.2.2.2.2.2.1, z.2.2.2.2.2.2.2.2.2.1, z.2.2.2.2.2.2.2.2.2.2.1, z.2.2.2.2.2.2.2.2.2.2.2.1, z.2.2.2.2.2.2.2.2.2.2.2.2.1, z.2.2.2.2.2.2.2.2.2.2.2.2.2.1, z.2.2.2.2.2.2.2.2.2.2.2.2.2.2.1, z.2.2.2.2.2.2.2.2.2.2.2.2.2.2.2.1, z.2.2.2.2.2.2.2.2.2.2.2.2.2.2.2.2.1, z.2.2.2.2.2.2.2.2.2.2.2.2.2.2.2.2.2.1, z.2.2.2.2.2.2.2.2.2.2.2.2.2.2.2.2.2.2.1, z.2.2.2.2.2.2.2.2.2.2.2.2.2.2.2.2.2.2.2.1, z.2.2.2.2.2.2.2.2.2.2.2.2.2.2.2.2.2.2.2.2.1, z.2.2.2.2.2.2.2.2.2.2.2.2.2.2.2.2.2.2.2.2.2.1, z.2.2.2.2.2.2.2.2.2.2.2.2.2.2.2.2.2.2.2.2.2.2.1, z.2.2.2.2.2.2.2.2.2.2.2.2.2.2.2.2.2.2.2.2.2.2.2.1, z.2.2.2.2.2.2.2.2.2.2.2.2.2.2.2.2.2.2.2.2.2.2.2.2, vp_updL lo (0 : Int32).toNatClampNeg z.1.toInt64) := by unfold fL_advise; rw [h]
theorem wr_advise_0 {m_day : Int32} {m_coins : Int32} {m_felts : Int32} {m_made : Int32} {m_worth : Int32} {m_rags : FN} {m_water : FN} {m_pulp : FN} {m_beat : FN} {m_sort : FN} {m_nM : Int32} {m_mark : FN} {m_size : FN} {m_worn : FN} {m_nT : Int32} {m_skill : FN} {m_vat : FN} {m_pair : FN} {m_nQ : Int32} {m_allS : Int32} {m_pmark : FN} {m_pgrade : FN} {m_psheets : FN} {m_loft : FN} {t_day : Int32} {t_coins : Int32} {t_felts : Int32} {t_made : Int32} {t_worth : Int32} {t_rags : FN} {t_water : FN} {t_pulp : FN} {t_beat : FN} {t_sort : FN} {t_nM : Int32} {t_mark : FN} {t_size : FN} {t_worn : FN} {t_nT : Int32} {t_skill : FN} {t_vat : FN} {t_pair : FN} {t_nQ : Int32} {t_allS : Int32} {t_pmark : FN} {t_pgrade : FN} {t_psheets : FN} {t_loft : FN} {a1 : Int32} {lo : Nat → Int64} (h : fX5_advise m_day m_coins m_felts m_made m_worth m_rags m_water m_pulp m_beat m_sort m_nM m_mark m_size m_worn m_nT m_skill m_vat m_pair m_nQ m_allS m_pmark m_pgrade m_psheets m_loft t_day t_coins t_felts t_made t_worth t_rags t_water t_pulp t_beat t_sort t_nM t_mark t_size t_worn t_nT t_skill t_vat t_pair t_nQ t_allS t_pmark t_pgrade t_psheets t_loft a1 = some (.inr 0)) : fL_advise m_day m_coins m_felts m_made m_worth m_rags m_water m_pulp m_beat m_sort m_nM m_mark m_size m_worn m_nT m_skill m_vat m_pair m_nQ m_allS m_pmark m_pgrade m_psheets m_loft t_day t_coins t_felts t_made t_worth t_rags t_water t_pulp t_beat t_sort t_nM t_mark t_size t_worn t_nT t_skill t_vat t_pair t_nQ t_allS t_pmark t_pgrade t_psheets t_loft a1 lo = some (1, t_day, t_coins, t_felts, t_made, t_worth, t_rags, t_water, t_pulp, t_beat, t_sort, t_nM, t_mark, t_size, t_worn, t_nT, t_skill, t_vat, t_pair, t_nQ, t_allS, t_pmark, t_pgrade, t_psheets, t_loft, lo) := by unfold fL_advise; rw [h]; rfl
def pz_St (k : Nat) (m : MS) (o : OS) : Prop := ∃ D N T F W l, PInv D N T F W l m o ∧ D ≤ 40 * k ∧ W ≤ 432 * D
theorem pz_St.up {k : Nat} {m : MS} {o : OS} (h : pz_St k m o) : pz_St (k + 1) m o := by
  obtain ⟨D, N, T, F, W, l, H, h1, h2⟩ := h
  exact ⟨D, N, T, F, W, l, H, by omega, h2⟩
theorem pz_St.of {D N T F W k : Nat} {l : List pz_PT} {m : MS} {o : OS} (H : PInv D N T F W l m o) (h1 : D ≤ 40 * k) (h2 : W ≤ 432 * D) : pz_St (k + 1) m o := ⟨D, N, T, F, W, l, H, by omega, h2⟩
theorem PInv.money {D N T F W : Nat} {l : List pz_PT} {m : MS} {o : OS} (H : PInv D N T F W l m o) (c : Int32) : PInv D N T F W l (MS.of m.day (c) m.felts m.made m.worth m.rags m.water m.pulp m.beat m.sort m.nM m.mark m.size m.worn m.nT m.skill m.vat m.pair m.nQ m.allS m.pmark m.pgrade m.psheets m.loft) (OS.of o.pairs o.teams o.water o.vats o.moulds o.crews o.posts o.loft (upd o.nums 1 c)) :=
  ⟨(H.day),
   (H.day'),
   (rfl),
   (H.made),
   (H.wth),
   (H.wth'),
   (fun j hj => Eq.trans (if_neg (by omega)) (H.rags j hj)),
   (H.water),
   (H.wle),
   (H.loft),
   (H.rv),
   (H.rm),
   (H.rt),
   (⟨H.rq.f, (H.rq.f'), H.rq.le, H.rq.n, (H.rq.n'), H.rq.s, H.rq.sle, H.rq.ok, H.rq.ec, H.rq.em⟩)⟩
theorem PInv.rag {D N T F W : Nat} {l : List pz_PT} {m : MS} {o : OS} (H : PInv D N T F W l m o) {i : Nat} (_ : i < 3) (x : Int32) : PInv D N T F W l (MS.of m.day m.coins m.felts m.made m.worth (upd m.rags i x) m.water m.pulp m.beat m.sort m.nM m.mark m.size m.worn m.nT m.skill m.vat m.pair m.nQ m.allS m.pmark m.pgrade m.psheets m.loft) (OS.of o.pairs o.teams o.water o.vats o.moulds o.crews o.posts o.loft (upd o.nums (6 + i) x)) :=
  ⟨(H.day),
   (Eq.trans (if_neg (by omega)) H.day'),
   (Eq.trans (if_neg (by omega)) H.coins),
   (Eq.trans (if_neg (by omega)) H.made),
   (H.wth),
   (Eq.trans (if_neg (by omega)) H.wth'),
   (fun j hj => by
    show upd o.nums (6 + i) x (6 + j) = upd m.rags i x j
    by_cases c : j = i
    · subst c; rw [pu_up, pu_up]
    · rw [pu_un (by omega), pu_un c]; exact H.rags j hj),
   (H.water),
   (H.wle),
   (H.loft),
   (H.rv),
   (H.rm),
   (H.rt),
   (⟨H.rq.f, (Eq.trans (if_neg (by omega)) H.rq.f'), H.rq.le, H.rq.n, (Eq.trans (if_neg (by omega)) H.rq.n'), H.rq.s, H.rq.sle, H.rq.ok, H.rq.ec, H.rq.em⟩)⟩
theorem PInv.felt {D N T F W q : Nat} {l : List pz_PT} {m : MS} {o : OS} (H : PInv D N T F W l m o) (hq : F + q ≤ 90) : PInv D N T (F + q) W l (MS.of m.day m.coins (nI (F + q)) m.made m.worth m.rags m.water m.pulp m.beat m.sort m.nM m.mark m.size m.worn m.nT m.skill m.vat m.pair m.nQ m.allS m.pmark m.pgrade m.psheets m.loft) (OS.of o.pairs o.teams o.water o.vats o.moulds o.crews o.posts o.loft (upd o.nums 2 (nI (F + q)))) :=
  ⟨(H.day),
   (H.day'),
   (H.coins),
   (H.made),
   (H.wth),
   (H.wth'),
   (fun j hj => Eq.trans (if_neg (by omega)) (H.rags j hj)),
   (H.water),
   (H.wle),
   (H.loft),
   (H.rv),
   (H.rm),
   (H.rt),
   (⟨(rfl), (rfl), (hq), H.rq.n, (H.rq.n'), H.rq.s, (by have := H.rq.sle; omega), H.rq.ok, H.rq.ec, H.rq.em⟩)⟩
theorem hung' {f g : FN} (h : ∀ j, j < 30 → f j = g j) (i : Nat) (x : Int32) : ∀ j, j < 30 → upd f i x j = upd g i x j := fun j hj => by
  unfold upd
  rw [h j hj]
theorem PInv.hung {D N T F W : Nat} {l : List pz_PT} {m : MS} {o : OS} (H : PInv D N T F W l m o) (i : Nat) (x : Int32) : PInv D N T F W l (MS.of m.day m.coins m.felts m.made m.worth m.rags m.water m.pulp m.beat m.sort m.nM m.mark m.size m.worn m.nT m.skill m.vat m.pair m.nQ m.allS m.pmark m.pgrade m.psheets (upd m.loft i x)) (OS.of o.pairs o.teams o.water o.vats o.moulds o.crews o.posts (upd o.loft i x) o.nums) := ⟨H.day, H.day', H.coins, H.made, H.wth, H.wth', H.rags, H.water, H.wle, (hung' H.loft i x), H.rv, H.rm, H.rt, H.rq⟩
theorem lo_ok (lo : Nat → Int64) (r : Int32) : lg_cmp (vp_updL lo (0 : Int32).toNatClampNeg r.toInt64 (0 : Int32).toNatClampNeg) r.toInt64 = 0 := (lg_cmp_eq _ _).mpr (if_pos rfl)
theorem pz_d10 : ¬ (1 : Int32) = 0 := by decide
theorem pz_d20 : ¬ (2 : Int32) = 0 := by decide
theorem pz_d30 : ¬ (3 : Int32) = 0 := by decide
theorem d00 : (0 : Int32) = 0 := rfl
theorem ne0 {c : Int32} {P : Prop} (h : ¬ c = 0) : c = 0 → P := fun q => absurd q h
theorem pu_nle' {a b : Int32} (h : ¬ a ≤ b) : b < a := by rw [Int32.le_iff_toInt_le] at h; rw [Int32.lt_iff_toInt_lt]; omega
theorem pu_nlt' {a b : Int32} (h : a ≤ b) : ¬ b < a := by rw [Int32.le_iff_toInt_le] at h; rw [Int32.lt_iff_toInt_lt]; omega
def prF (n : Nat) : Nat := if n = 0 then 3 else if n = 1 then 2 else if n = 2 then 1 else 2
theorem pz_f6 (c : Int32) : fX6_fail c = some ((0 : Int32), c) := rfl
theorem op_buy {k : Nat} {m : MS} {o : OS} (h : pz_St k m o) (a1 a2 : Int32) (lo : Nat → Int64) :
    ∃ z y, fL_buy m.coins m.felts m.rags a1 a2 lo = some z ∧ fX6_buy o.nums a1 a2 = some y ∧ y.2.1 = z.1 ∧ (z.1 = 0 → lg_cmp (z.2.2.2.2 (0 : Int32).toNatClampNeg) y.1.toInt64 = 0) ∧ pz_St (k + 1) (MS.of m.day (z.2.1) (z.2.2.1) m.made m.worth (z.2.2.2.1) m.water m.pulp m.beat m.sort m.nM m.mark m.size m.worn m.nT m.skill m.vat m.pair m.nQ m.allS m.pmark m.pgrade m.psheets m.loft) (OS.of o.pairs o.teams o.water o.vats o.moulds o.crews o.posts o.loft (y.2.2)) := by
  have e3 : (3 : Int32) = nI 3 := rfl
  have e4 : (4 : Int32) = nI 4 := rfl
  have e99 : (99 : Int32) = nI 99 := rfl
  have e90 : (90 : Int32) = nI 90 := rfl
  have e41 : nI 4 - 1 = nI 3 := by decide
  rcases pu_isB (a := a1) (b := 4) (by omega) with ⟨n, hn, rfl, i1, i2⟩ | ⟨i1, i2⟩
  · rw [e41] at i2
    rcases pu_is1 (a := a2) (b := 99) (by omega) with ⟨q, hq1, hq, rfl, j1, j2⟩ | ⟨j1, j2⟩
    · obtain ⟨D, N, T, F, W, l, H, h1, h2⟩ := id h
      have hF := H.rq.le
      have hcost : ([3, 2, 1, 2] : List Int32).getD (nI n).toNatClampNeg 0 * nI q = nI (prF n * q) := by
        rw [pu_tn (by omega), ← pu_mul]
        rcases (show n = 0 ∨ n = 1 ∨ n = 2 ∨ n = 3 by omega) with rfl | rfl | rfl | rfl <;> rfl
      have M : fX6_buy o.nums (nI n) (nI q) = fX6_buy_L52 o.nums (nI n) (nI q) 0 (nI (prF n * q)) := by
        unfold fX6_buy
        rw [e3, i2, pu_bs, if_neg pz_d10, e99, j2, pu_bs, if_neg pz_d10, ← pu_mul]
        rcases (show n = 0 ∨ n = 1 ∨ n = 2 ∨ n = 3 by omega) with rfl | rfl | rfl | rfl <;> rfl
      have C : fX5_buy m.coins m.felts m.rags (nI n) (nI q) = if nI (prF n * q) ≤ m.coins then (if nI n = nI 3 then if (m.felts + nI q) ≤ nI 90 then (fX0_takeIn m.felts m.rags (nI n) (nI q)).bind fun z10 => some (.inl (z10.1, m.coins - nI (prF n * q), z10.2.1, z10.2.2)) else some (.inr 2) else (fX0_takeIn m.felts m.rags (nI n) (nI q)).bind fun z8 => some (.inl (z8.1, m.coins - nI (prF n * q), z8.2.1, z8.2.2))) else some (.inr 2) := by
        unfold fX5_buy
        rw [e4, i1, pu_bs, if_neg pz_d10, e99, j1, pu_bs, if_neg pz_d10, pu_ck (by omega) (by omega), hcost]
        rfl
      by_cases c : nI (prF n * q) ≤ m.coins
      · have cl : ¬ o.nums 1 < nI (prF n * q) := by rw [H.coins]; exact pu_nlt' c
        by_cases cn : n = 3
        · subst cn
          have h90 : (nI (F + q) ≤ nI 90) ↔ F + q ≤ 90 := pu_le (by omega) (by omega)
          by_cases c9 : F + q ≤ 90
          · have C' : fX5_buy m.coins m.felts m.rags (nI 3) (nI q) = some (.inl (nI (F + q), m.coins - nI (prF 3 * q), nI (F + q), m.rags)) := by
              rw [C, if_pos c, if_pos rfl, H.rq.f, pu_add, if_pos (h90.mpr c9), show fX0_takeIn (nI F) m.rags (nI 3) (nI q) = some (nI F + nI q, nI F + nI q, m.rags) from rfl, pu_bs, pu_add]
            have M' : fX6_buy o.nums (nI 3) (nI q) = some (nI (F + q), 0, upd (upd o.nums 1 (m.coins - nI (prF 3 * q))) 2 (nI (F + q))) := by
              rw [M]
              unfold fX6_buy_L52 fX6_buy_L87 fX6_buy_L110
              rw [pc1, if_neg cl, e3, if_pos rfl, pc2, H.rq.f', pu_add, e90, if_pos (h90.mpr c9), if_pos rfl, show (2 : Int32) = nI 2 from rfl, pu_ck (by omega) (by omega), pu_ck (by omega) (by omega), pu_ck (by omega) (by omega), pu_up, pu_un (by decide), H.rq.f', pu_add, H.coins]
            refine ⟨_, _, wl_buy C', M', rfl, fun _ => lo_ok lo _, ?_⟩
            exact pz_St.of ((H.money (m.coins - nI (prF 3 * q))).felt c9) h1 h2
          · have C' : fX5_buy m.coins m.felts m.rags (nI 3) (nI q) = some (.inr 2) := by
              rw [C, if_pos c, if_pos rfl, H.rq.f, pu_add, if_neg (fun h => c9 (h90.mp h))]
            have M' : fX6_buy o.nums (nI 3) (nI q) = some (0, 3, o.nums) := by
              rw [M]
              unfold fX6_buy_L52
              rw [pc1, if_neg cl, if_pos e3.symm, pc2, H.rq.f', pu_add, e90, if_neg (fun h => c9 (h90.mp h)), pz_f6, pu_bs]
            exact ⟨_, _, wr_buy_2 C', M', rfl, ne0 (by first | exact pz_d10 | exact pz_d20 | exact pz_d30), h.up⟩
        · have cn3 : ¬ nI n = nI 3 := by rw [pu_eq (by omega) (by omega)]; exact cn
          have hn3 : n < 3 := by omega
          have C' : fX5_buy m.coins m.felts m.rags (nI n) (nI q) = some (.inl (m.rags n + nI q, m.coins - nI (prF n * q), m.felts, upd m.rags n (m.rags n + nI q))) := by
            rw [C, if_pos c, if_neg cn3]
            unfold fX0_takeIn
            rw [e3, pb_in hn3 (by omega), pu_bs, if_neg pz_d10, pu_ck hn3 (by omega), pu_ck hn3 (by omega), pu_ck hn3 (by omega), pu_tn (by omega), pu_up, pu_bs]
          have M' : fX6_buy o.nums (nI n) (nI q) = some (m.rags n + nI q, 0, upd (upd o.nums 1 (m.coins - nI (prF n * q))) (6 + n) (m.rags n + nI q)) := by
            rw [M]
            unfold fX6_buy_L52 fX6_buy_L87 fX6_buy_L110
            rw [pc1, if_neg cl, e3, if_neg cn3, if_neg cn3, show (6 : Int32) = nI 6 from rfl, pu_add, pu_ck (by omega) (by omega), pu_ck (by omega) (by omega), pu_ck (by omega) (by omega), pu_tn (by omega), pu_up, pu_un (by omega), H.rags n hn3, H.coins]
          refine ⟨_, _, wl_buy C', M', rfl, fun _ => lo_ok lo _, ?_⟩
          exact pz_St.of ((H.money (m.coins - nI (prF n * q))).rag hn3 (m.rags n + nI q)) h1 h2
      · have cl : o.nums 1 < nI (prF n * q) := by rw [H.coins]; exact pu_nle' c
        have C' : fX5_buy m.coins m.felts m.rags (nI n) (nI q) = some (.inr 2) := by
          rw [C, if_neg c]
        have M' : fX6_buy o.nums (nI n) (nI q) = some (0, 3, o.nums) := by
          rw [M]
          unfold fX6_buy_L52
          rw [pc1, if_pos cl, pz_f6, pu_bs]
        exact ⟨_, _, wr_buy_2 C', M', rfl, ne0 (by first | exact pz_d10 | exact pz_d20 | exact pz_d30), h.up⟩
    · have C : fX5_buy m.coins m.felts m.rags (nI n) a2 = some (.inr 1) := by
        unfold fX5_buy
        rw [e4, i1, pu_bs, if_neg pz_d10, e99, j1, pu_bs, if_pos d00]
      have M : fX6_buy o.nums (nI n) a2 = some (0, 2, o.nums) := by
        unfold fX6_buy
        rw [e3, i2, pu_bs, if_neg pz_d10, e99, j2, pu_bs, if_pos d00, pz_f6, pu_bs]
      exact ⟨_, _, wr_buy_1 C, M, rfl, ne0 (by first | exact pz_d10 | exact pz_d20 | exact pz_d30), h.up⟩
  · rw [e41] at i2
    have C : fX5_buy m.coins m.felts m.rags a1 a2 = some (.inr 0) := by
      unfold fX5_buy
      rw [e4, i1, pu_bs, if_pos d00]
    have M : fX6_buy o.nums a1 a2 = some (0, 1, o.nums) := by
      unfold fX6_buy
      rw [e3, i2, pu_bs, if_pos d00, pz_f6, pu_bs]
    exact ⟨_, _, wr_buy_0 C, M, rfl, ne0 (by first | exact pz_d10 | exact pz_d20 | exact pz_d30), h.up⟩
theorem pz_e10 : nI 10 - 1 = nI 9 := by decide
theorem e4' : nI 4 - 1 = nI 3 := by decide
theorem e3' : nI 3 - 1 = nI 2 := by decide
theorem e7' : nI 7 - 1 = nI 6 := by decide
theorem e12' : nI 12 - 1 = nI 11 := by decide
theorem pz_k1 : (1 : Int32) = nI 1 := rfl
theorem pz_k2 : (2 : Int32) = nI 2 := rfl
theorem pz_k3 : (3 : Int32) = nI 3 := rfl
theorem pz_k4 : (4 : Int32) = nI 4 := rfl
theorem pz_k5 : (5 : Int32) = nI 5 := rfl
theorem pz_k6 : (6 : Int32) = nI 6 := rfl
theorem pz_k7 : (7 : Int32) = nI 7 := rfl
theorem k9 : (9 : Int32) = nI 9 := rfl
theorem k10 : (10 : Int32) = nI 10 := rfl
theorem k11 : (11 : Int32) = nI 11 := rfl
theorem k12 : (12 : Int32) = nI 12 := rfl
theorem k24 : (24 : Int32) = nI 24 := rfl
theorem k30 : (30 : Int32) = nI 30 := rfl
theorem k40 : (40 : Int32) = nI 40 := rfl
theorem k90 : (90 : Int32) = nI 90 := rfl
theorem k99 : (99 : Int32) = nI 99 := rfl
theorem pb_hanging {f : FN} {a b : Nat} (ha : a < 10) (hb : b < 3) : fX0_hanging f (nI a) (nI b) = some (f (3 * a + b)) := by
  unfold fX0_hanging
  rw [k10, pz_k3, pb_in ha (by omega), pu_bs, if_neg pz_d10, pb_in hb (by omega), pu_bs, if_neg pz_d10, pu_mul, pu_add, pu_ck (by omega) (by omega), pu_tn (by omega), Nat.mul_comm a 3]
theorem op_sell {k : Nat} {m : MS} {o : OS} (h : pz_St k m o) (a1 a2 a3 : Int32) (lo : Nat → Int64) :
    ∃ z y, fL_sell m.coins m.loft a1 a2 a3 lo = some z ∧ fX6_sell o.loft o.nums a1 a2 a3 = some y ∧ y.2.1 = z.1 ∧ (z.1 = 0 → lg_cmp (z.2.2.2 (0 : Int32).toNatClampNeg) y.1.toInt64 = 0) ∧ pz_St (k + 1) (MS.of m.day (z.2.1) m.felts m.made m.worth m.rags m.water m.pulp m.beat m.sort m.nM m.mark m.size m.worn m.nT m.skill m.vat m.pair m.nQ m.allS m.pmark m.pgrade m.psheets (z.2.2.1)) (OS.of o.pairs o.teams o.water o.vats o.moulds o.crews o.posts (y.2.2.1) (y.2.2.2)) := by
  rcases pu_isB (a := a1) (b := 10) (by omega) with ⟨a, ha, rfl, i1, i2⟩ | ⟨i1, i2⟩
  · rw [pz_e10] at i2
    rcases pu_isB (a := a2) (b := 3) (by omega) with ⟨b, hb, rfl, j1, j2⟩ | ⟨j1, j2⟩
    · rw [e3'] at j2
      rcases pu_is1 (a := a3) (b := 9) (by omega) with ⟨q, hq1, hq, rfl, l1, l2⟩ | ⟨l1, l2⟩
      · obtain ⟨D, N, T, F, W, l, H, h1, h2⟩ := id h
        obtain ⟨w1, w2⟩ := pb_worth (g := b) (by omega)
        have hl := H.loft (3 * a + b) (by omega)
        by_cases c : nI (24 * q) ≤ m.loft (3 * a + b)
        · have C : fX5_sell m.coins m.loft (nI a) (nI b) (nI q) = some (.inl (nI (q * wtF b), m.coins + nI (q * wtF b), upd m.loft (3 * a + b) (m.loft (3 * a + b) - nI (24 * q)))) := by
            unfold fX5_sell
            rw [k10, i1, pu_bs, if_neg pz_d10, pz_k3, j1, pu_bs, if_neg pz_d10, k9, l1, pu_bs, if_neg pz_d10, pb_hanging ha hb, pu_bs, k24, pu_mul, Nat.mul_comm q 24, if_pos c, w1, pu_bs, pb_hang (by omega) (by omega), pu_bs, pu_mul, Int32.sub_eq_add_neg]
          have M : fX6_sell o.loft o.nums (nI a) (nI b) (nI q) = some (nI (q * wtF b), 0, upd o.loft (3 * a + b) (m.loft (3 * a + b) - nI (24 * q)), upd o.nums 1 (m.coins + nI (q * wtF b))) := by
            unfold fX6_sell
            rw [k9, i2, pu_bs, if_neg pz_d10, pz_k2, j2, pu_bs, if_neg pz_d10, l2, pu_bs, if_neg pz_d10, pz_k3, k24, pu_mul, pu_mul, pu_add, pu_ck (by omega) (by omega), pu_ck (by omega) (by omega), pu_ck (by omega) (by omega), pu_tn (by omega), hl, if_pos c, w2, pu_bs, pu_bs, pu_mul, pc1, H.coins, Nat.mul_comm (wtF b) q]
          exact ⟨_, _, wl_sell C, M, rfl, fun _ => lo_ok lo _, pz_St.of ((H.money (m.coins + nI (q * wtF b))).hung (3 * a + b) (m.loft (3 * a + b) - nI (24 * q))) h1 h2⟩
        · have C : fX5_sell m.coins m.loft (nI a) (nI b) (nI q) = some (.inr 2) := by
            unfold fX5_sell
            rw [k10, i1, pu_bs, if_neg pz_d10, pz_k3, j1, pu_bs, if_neg pz_d10, k9, l1, pu_bs, if_neg pz_d10, pb_hanging ha hb, pu_bs, k24, pu_mul, Nat.mul_comm q 24, if_neg c]
          have M : fX6_sell o.loft o.nums (nI a) (nI b) (nI q) = some (0, 3, o.loft, o.nums) := by
            unfold fX6_sell
            rw [k9, i2, pu_bs, if_neg pz_d10, pz_k2, j2, pu_bs, if_neg pz_d10, l2, pu_bs, if_neg pz_d10, pz_k3, k24, pu_mul, pu_mul, pu_add, pu_ck (by omega) (by omega), pu_tn (by omega), hl, if_neg c, pz_f6, pu_bs]
          exact ⟨_, _, wr_sell_2 C, M, rfl, ne0 (by first | exact pz_d10 | exact pz_d20 | exact pz_d30), h.up⟩
      · have C : fX5_sell m.coins m.loft (nI a) (nI b) a3 = some (.inr 1) := by
          unfold fX5_sell
          rw [k10, i1, pu_bs, if_neg pz_d10, pz_k3, j1, pu_bs, if_neg pz_d10, k9, l1, pu_bs, if_pos d00]
        have M : fX6_sell o.loft o.nums (nI a) (nI b) a3 = some (0, 2, o.loft, o.nums) := by
          unfold fX6_sell
          rw [k9, i2, pu_bs, if_neg pz_d10, pz_k2, j2, pu_bs, if_neg pz_d10, l2, pu_bs, if_pos d00, pz_f6, pu_bs]
        exact ⟨_, _, wr_sell_1 C, M, rfl, ne0 (by first | exact pz_d10 | exact pz_d20 | exact pz_d30), h.up⟩
    · rw [e3'] at j2
      have C : fX5_sell m.coins m.loft (nI a) a2 a3 = some (.inr 0) := by
        unfold fX5_sell
        rw [k10, i1, pu_bs, if_neg pz_d10, pz_k3, j1, pu_bs, if_pos d00]
      have M : fX6_sell o.loft o.nums (nI a) a2 a3 = some (0, 1, o.loft, o.nums) := by
        unfold fX6_sell
        rw [k9, i2, pu_bs, if_neg pz_d10, pz_k2, j2, pu_bs, if_pos d00, pz_f6, pu_bs]
      exact ⟨_, _, wr_sell_0 C, M, rfl, ne0 (by first | exact pz_d10 | exact pz_d20 | exact pz_d30), h.up⟩
  · rw [pz_e10] at i2
    have C : fX5_sell m.coins m.loft a1 a2 a3 = some (.inr 0) := by
      unfold fX5_sell
      rw [k10, i1, pu_bs, if_pos d00]
    have M : fX6_sell o.loft o.nums a1 a2 a3 = some (0, 1, o.loft, o.nums) := by
      unfold fX6_sell
      rw [k9, i2, pu_bs, if_pos d00, pz_f6, pu_bs]
    exact ⟨_, _, wr_sell_0 C, M, rfl, ne0 (by first | exact pz_d10 | exact pz_d20 | exact pz_d30), h.up⟩
theorem pb_isVat {a : Int32} : fX6_isVat a = fX6_isIn a 0 (nI 4 - 1) := by
  unfold fX6_isVat
  rw [pz_k3, e4', pu_in]
  split <;> rfl
theorem op_fill {k : Nat} {m : MS} {o : OS} (h : pz_St k m o) (a1 a2 a3 : Int32) (lo : Nat → Int64) :
    ∃ z y, fL_fill m.rags m.pulp m.beat m.sort a1 a2 a3 lo = some z ∧ fX6_fill o.vats o.nums a1 a2 a3 = some y ∧ y.2.1 = z.1 ∧ (z.1 = 0 → lg_cmp (z.2.2.2.2.2 (0 : Int32).toNatClampNeg) y.1.toInt64 = 0) ∧ pz_St (k + 1) (MS.of m.day m.coins m.felts m.made m.worth (z.2.1) m.water (z.2.2.1) (z.2.2.2.1) (z.2.2.2.2.1) m.nM m.mark m.size m.worn m.nT m.skill m.vat m.pair m.nQ m.allS m.pmark m.pgrade m.psheets m.loft) (OS.of o.pairs o.teams o.water (y.2.2.1) o.moulds o.crews o.posts o.loft (y.2.2.2)) := by
  rcases pu_isB (a := a1) (b := 4) (by omega) with ⟨v, hv, rfl, i1, i2⟩ | ⟨i1, i2⟩
  · rcases pu_isB (a := a2) (b := 3) (by omega) with ⟨b, hb, rfl, j1, j2⟩ | ⟨j1, j2⟩
    · rw [e3'] at j2
      rcases pu_is1 (a := a3) (b := 40) (by omega) with ⟨q, hq1, hq, rfl, l1, l2⟩ | ⟨l1, l2⟩
      · obtain ⟨D, N, T, F, W, l, H, h1, h2⟩ := id h
        obtain ⟨n, hn, en⟩ := H.rv.p v hv
        have ev : fX6_va o.vats (nI v) 0 = some (nI n) := by rw [show (0 : Int32) = nI 0 from rfl, pb_va (by omega), Nat.add_zero, H.rv.e0 v hv, en]
        have hle := pu_le (a := n) (b := 0) (by omega) (by omega)
        have hlt := pu_lt (a := 0) (b := n) (by omega) (by omega)
        have k0 : (0 : Int32) = nI 0 := rfl
        have hr := H.rags b hb
        by_cases c0 : n ≤ 0
        · have c0' : ¬ (0 : Int32) < nI n := fun x => by have := hlt.mp x; omega
          have c1' : nI n ≤ (0 : Int32) := hle.mpr c0
          by_cases c : nI q ≤ m.rags b
          · have C : fX5_fill m.rags m.pulp m.beat m.sort (nI v) (nI b) (nI q) = some (.inl (m.rags b - nI q, upd m.rags b (m.rags b - nI q), upd m.pulp v (nI q), upd m.beat v (nI 0), upd m.sort v (nI b))) := by
              unfold fX5_fill
              rw [pz_k4, i1, pu_bs, if_neg pz_d10, pz_k3, j1, pu_bs, if_neg pz_d10, k40, l1, pu_bs, if_neg pz_d10, pb_pulpOf hv, pu_bs, en, if_pos c1', pu_ck hb (by omega), pu_tn (by omega), if_pos c, pu_ck hb (by omega), pu_ck hb (by omega), pb_charge hv, pu_bs, pu_ck hb (by omega), pu_up]
              rfl
            have M : fX6_fill o.vats o.nums (nI v) (nI b) (nI q) = some (m.rags b - nI q, 0, letF o.vats v (nI q) (nI 0) (nI b), upd o.nums (6 + b) (m.rags b - nI q)) := by
              unfold fX6_fill
              rw [pb_isVat, i2, pu_bs, if_neg pz_d10, pz_k2, j2, pu_bs, if_neg pz_d10, k40, l2, pu_bs, if_neg pz_d10, ev, pu_bs, if_neg c0', pz_k6, pu_add, pu_ck (by omega) (by omega), pu_tn (by omega), hr, if_pos c, pu_ck (by omega) (by omega), pu_ck (by omega) (by omega), pb_let hv (by omega), pu_bs, pu_ck (by omega) (by omega), pu_up, if_neg (by omega), if_neg (by omega)]
              rfl
            refine ⟨_, _, wl_fill C, M, rfl, fun _ => lo_ok lo _, pz_St.of (D := D) (N := N) (T := T) (F := F) (W := W) (l := l) ?_ h1 h2⟩
            have G := H.rag hb (m.rags b - nI q)
            exact ⟨G.day, G.day', G.coins, G.made, G.wth, G.wth', G.rags, G.water, G.wle, G.loft, (H.rv.set hq (by omega) (nI b)), G.rm, G.rt, G.rq⟩
          · have C : fX5_fill m.rags m.pulp m.beat m.sort (nI v) (nI b) (nI q) = some (.inr 2) := by
              unfold fX5_fill
              rw [pz_k4, i1, pu_bs, if_neg pz_d10, pz_k3, j1, pu_bs, if_neg pz_d10, k40, l1, pu_bs, if_neg pz_d10, pb_pulpOf hv, pu_bs, en, if_pos c1', pu_ck hb (by omega), pu_tn (by omega), if_neg c]
            have M : fX6_fill o.vats o.nums (nI v) (nI b) (nI q) = some (0, 3, o.vats, o.nums) := by
              unfold fX6_fill
              rw [pb_isVat, i2, pu_bs, if_neg pz_d10, pz_k2, j2, pu_bs, if_neg pz_d10, k40, l2, pu_bs, if_neg pz_d10, ev, pu_bs, if_neg c0', pz_k6, pu_add, pu_ck (by omega) (by omega), pu_tn (by omega), hr, if_neg c, pz_f6, pu_bs]
            exact ⟨_, _, wr_fill_2 C, M, rfl, ne0 (by first | exact pz_d10 | exact pz_d20 | exact pz_d30), h.up⟩
        · have c0' : (0 : Int32) < nI n := hlt.mpr (by omega)
          have c1' : ¬ nI n ≤ (0 : Int32) := fun x => c0 (hle.mp x)
          have C : fX5_fill m.rags m.pulp m.beat m.sort (nI v) (nI b) (nI q) = some (.inr 2) := by
            unfold fX5_fill
            rw [pz_k4, i1, pu_bs, if_neg pz_d10, pz_k3, j1, pu_bs, if_neg pz_d10, k40, l1, pu_bs, if_neg pz_d10, pb_pulpOf hv, pu_bs, en, if_neg c1']
          have M : fX6_fill o.vats o.nums (nI v) (nI b) (nI q) = some (0, 3, o.vats, o.nums) := by
            unfold fX6_fill
            rw [pb_isVat, i2, pu_bs, if_neg pz_d10, pz_k2, j2, pu_bs, if_neg pz_d10, k40, l2, pu_bs, if_neg pz_d10, ev, pu_bs, if_pos c0', pz_f6, pu_bs]
          exact ⟨_, _, wr_fill_2 C, M, rfl, ne0 (by first | exact pz_d10 | exact pz_d20 | exact pz_d30), h.up⟩
      · have C : fX5_fill m.rags m.pulp m.beat m.sort (nI v) (nI b) a3 = some (.inr 1) := by
          unfold fX5_fill
          rw [pz_k4, i1, pu_bs, if_neg pz_d10, pz_k3, j1, pu_bs, if_neg pz_d10, k40, l1, pu_bs, if_pos d00]
        have M : fX6_fill o.vats o.nums (nI v) (nI b) a3 = some (0, 2, o.vats, o.nums) := by
          unfold fX6_fill
          rw [pb_isVat, i2, pu_bs, if_neg pz_d10, pz_k2, j2, pu_bs, if_neg pz_d10, k40, l2, pu_bs, if_pos d00, pz_f6, pu_bs]
        exact ⟨_, _, wr_fill_1 C, M, rfl, ne0 (by first | exact pz_d10 | exact pz_d20 | exact pz_d30), h.up⟩
    · rw [e3'] at j2
      have C : fX5_fill m.rags m.pulp m.beat m.sort (nI v) a2 a3 = some (.inr 0) := by
        unfold fX5_fill
        rw [pz_k4, i1, pu_bs, if_neg pz_d10, pz_k3, j1, pu_bs, if_pos d00]
      have M : fX6_fill o.vats o.nums (nI v) a2 a3 = some (0, 1, o.vats, o.nums) := by
        unfold fX6_fill
        rw [pb_isVat, i2, pu_bs, if_neg pz_d10, pz_k2, j2, pu_bs, if_pos d00, pz_f6, pu_bs]
      exact ⟨_, _, wr_fill_0 C, M, rfl, ne0 (by first | exact pz_d10 | exact pz_d20 | exact pz_d30), h.up⟩
  · have C : fX5_fill m.rags m.pulp m.beat m.sort a1 a2 a3 = some (.inr 0) := by
      unfold fX5_fill
      rw [pz_k4, i1, pu_bs, if_pos d00]
    have M : fX6_fill o.vats o.nums a1 a2 a3 = some (0, 1, o.vats, o.nums) := by
      unfold fX6_fill
      rw [pb_isVat, i2, pu_bs, if_pos d00, pz_f6, pu_bs]
    exact ⟨_, _, wr_fill_0 C, M, rfl, ne0 (by first | exact pz_d10 | exact pz_d20 | exact pz_d30), h.up⟩
theorem op_drain {k : Nat} {m : MS} {o : OS} (h : pz_St k m o) (a1 : Int32) (lo : Nat → Int64) :
    ∃ z y, fL_drain m.pulp m.beat m.sort a1 lo = some z ∧ fX6_drain o.vats a1 = some y ∧ y.2.1 = z.1 ∧ (z.1 = 0 → lg_cmp (z.2.2.2.2 (0 : Int32).toNatClampNeg) y.1.toInt64 = 0) ∧ pz_St (k + 1) (MS.of m.day m.coins m.felts m.made m.worth m.rags m.water (z.2.1) (z.2.2.1) (z.2.2.2.1) m.nM m.mark m.size m.worn m.nT m.skill m.vat m.pair m.nQ m.allS m.pmark m.pgrade m.psheets m.loft) (OS.of o.pairs o.teams o.water (y.2.2) o.moulds o.crews o.posts o.loft o.nums) := by
  rcases pu_isB (a := a1) (b := 4) (by omega) with ⟨v, hv, rfl, i1, i2⟩ | ⟨i1, i2⟩
  · obtain ⟨D, N, T, F, W, l, H, h1, h2⟩ := id h
    obtain ⟨n, hn, en⟩ := H.rv.p v hv
    have ev : fX6_va o.vats (nI v) 0 = some (nI n) := by rw [show (0 : Int32) = nI 0 from rfl, pb_va (by omega), Nat.add_zero, H.rv.e0 v hv, en]
    by_cases c : n = 0
    · have c' : nI n = 0 := by rw [c]; rfl
      have C : fX5_drain m.pulp m.beat m.sort (nI v) = some (.inr 2) := by
        unfold fX5_drain
        rw [pz_k4, i1, pu_bs, if_neg pz_d10, pb_pulpOf hv, pu_bs, en, if_pos c']
      have M : fX6_drain o.vats (nI v) = some (0, 2, o.vats) := by
        unfold fX6_drain
        rw [pb_isVat, i2, pu_bs, if_neg pz_d10, ev, pu_bs, if_pos c', pz_f6, pu_bs]
      exact ⟨_, _, wr_drain_2 C, M, rfl, ne0 (by first | exact pz_d10 | exact pz_d20 | exact pz_d30), h.up⟩
    · have c' : ¬ nI n = 0 := fun x => c ((pu_eq (by omega) (by omega)).mp (x.trans (show (0 : Int32) = nI 0 from rfl)))
      have C : fX5_drain m.pulp m.beat m.sort (nI v) = some (.inl (nI n, upd m.pulp v 0, upd m.beat v 0, upd m.sort v (-1))) := by
        unfold fX5_drain
        rw [pz_k4, i1, pu_bs, if_neg pz_d10, pb_pulpOf hv, pu_bs, en, if_neg c', pb_takeOut hv en (by omega) (Nat.le_refl n), if_pos rfl, pu_bs]
      have M : fX6_drain o.vats (nI v) = some (nI n, 0, letF o.vats v (nI 0) (nI 0) (-1)) := by
        unfold fX6_drain
        rw [pb_isVat, i2, pu_bs, if_neg pz_d10, ev, pu_bs, if_neg c', show fX6_let o.vats (nI v) 0 0 (-1) = some (letF o.vats v (nI 0) (if 0 = 0 then 0 else 0) (if 0 = 0 then -1 else -1)) from pb_let (n := 0) hv (by omega), pu_bs]
        rfl
      exact ⟨_, _, wl_drain C, M, rfl, fun _ => lo_ok lo _, pz_St.of ⟨H.day, H.day', H.coins, H.made, H.wth, H.wth', H.rags, H.water, H.wle, H.loft, (H.rv.set (n := 0) (k := 0) (by omega) (by omega) (-1)), H.rm, H.rt, H.rq⟩ h1 h2⟩
  · have C : fX5_drain m.pulp m.beat m.sort a1 = some (.inr 0) := by
      unfold fX5_drain
      rw [pz_k4, i1, pu_bs, if_pos d00]
    have M : fX6_drain o.vats a1 = some (0, 1, o.vats) := by
      unfold fX6_drain
      rw [pb_isVat, i2, pu_bs, if_pos d00, pz_f6, pu_bs]
    exact ⟨_, _, wr_drain_0 C, M, rfl, ne0 (by first | exact pz_d10 | exact pz_d20 | exact pz_d30), h.up⟩
