def fL_law_L23 (L : Nat) (xs : FN) : Nat → Int32 → Int32 → Int32 → Int32 → Int32 → FN → FN → FN → FN → FN → Int32 → FN → FN → FN → Int32 → FN → FN → FN → Int32 → Int32 → FN → FN → FN → FN → Int32 → Int32 → Int32 → Int32 → Int32 → FN → FN → FN → FN → FN → Int32 → FN → FN → FN → Int32 → FN → FN → FN → Int32 → Int32 → FN → FN → FN → FN → Int32 → Int32 → Int32 → FN → FN → FN → FN → FN → FN → FN → (Nat → Int64) → Int32 → Option Int32
  | 0, _, _, _, _, _, _, _, _, _, _, _, _, _, _, _, _, _, _, _, _, _, _, _, _, _, _, _, _, _, _, _, _, _, _, _, _, _, _, _, _, _, _, _, _, _, _, _, _, _, _, _, _, _, _, _, _, _, _, _, _ => none
  | k + 1, m_day_23, m_coins_23, m_felts_23, m_made_23, m_worth_23, m_rags_23, m_water_23, m_pulp_23, m_beat_23, m_sort_23, m_nM_23, m_mark_23, m_size_23, m_worn_23, m_nT_23, m_skill_23, m_vat_23, m_pair_23, m_nQ_23, m_allS_23, m_pmark_23, m_pgrade_23, m_psheets_23, m_loft_23, t_day_23, t_coins_23, t_felts_23, t_made_23, t_worth_23, t_rags_23, t_water_23, t_pulp_23, t_beat_23, t_sort_23, t_nM_23, t_mark_23, t_size_23, t_worn_23, t_nT_23, t_skill_23, t_vat_23, t_pair_23, t_nQ_23, t_allS_23, t_pmark_23, t_pgrade_23, t_psheets_23, t_loft_23, o_thrown_23, o_pairs_23, o_teams_23, o_water_23, o_vats_23, o_moulds_23, o_crews_23, o_posts_23, o_loft_23, o_nums_23, lo_23, x4_23 => if ((Int32.ofNat L) - 4) < x4_23 then some 1 else ckI x4_23 L (if (((xs x4_23.toNatClampNeg) &&& 31).toInt < 0 ∨ 20 < ((xs x4_23.toNatClampNeg) &&& 31).toInt) then fL_law_L23 L xs k m_day_23 m_coins_23 m_felts_23 m_made_23 m_worth_23 m_rags_23 m_water_23 m_pulp_23 m_beat_23 m_sort_23 m_nM_23 m_mark_23 m_size_23 m_worn_23 m_nT_23 m_skill_23 m_vat_23 m_pair_23 m_nQ_23 m_allS_23 m_pmark_23 m_pgrade_23 m_psheets_23 m_loft_23 t_day_23 t_coins_23 t_felts_23 t_made_23 t_worth_23 t_rags_23 t_water_23 t_pulp_23 t_beat_23 t_sort_23 t_nM_23 t_mark_23 t_size_23 t_worn_23 t_nT_23 t_skill_23 t_vat_23 t_pair_23 t_nQ_23 t_allS_23 t_pmark_23 t_pgrade_23 t_psheets_23 t_loft_23 o_thrown_23 o_pairs_23 o_teams_23 o_water_23 o_vats_23 o_moulds_23 o_crews_23 o_posts_23 o_loft_23 o_nums_23 lo_23 (x4_23 + 4) else if ((xs x4_23.toNatClampNeg) &&& 31).toInt = 0 then ckI (x4_23 + 1) L (ckI (x4_23 + 2) L ((fL_buy m_coins_23 m_felts_23 m_rags_23 (xs (x4_23 + 1).toNatClampNeg) (xs (x4_23 + 2).toNatClampNeg) lo_23).bind fun z7 => ckI (x4_23 + 1) L (ckI (x4_23 + 2) L ((fX6_buy o_nums_23 (xs (x4_23 + 1).toNatClampNeg) (xs (x4_23 + 2).toNatClampNeg)).bind fun z10 => (fX6_thrown z10.2.1).bind fun z11 => if z11 = z7.1 then if z7.1 = 0 then if (lg_cmp (z7.2.2.2.2 (0 : Int32).toNatClampNeg) z10.1.toInt64) = 0 then fL_law_L23 L xs k m_day_23 z7.2.1 z7.2.2.1 m_made_23 m_worth_23 z7.2.2.2.1 m_water_23 m_pulp_23 m_beat_23 m_sort_23 m_nM_23 m_mark_23 m_size_23 m_worn_23 m_nT_23 m_skill_23 m_vat_23 m_pair_23 m_nQ_23 m_allS_23 m_pmark_23 m_pgrade_23 m_psheets_23 m_loft_23 t_day_23 t_coins_23 t_felts_23 t_made_23 t_worth_23 t_rags_23 t_water_23 t_pulp_23 t_beat_23 t_sort_23 t_nM_23 t_mark_23 t_size_23 t_worn_23 t_nT_23 t_skill_23 t_vat_23 t_pair_23 t_nQ_23 t_allS_23 t_pmark_23 t_pgrade_23 t_psheets_23 t_loft_23 z10.2.1 o_pairs_23 o_teams_23 o_water_23 o_vats_23 o_moulds_23 o_crews_23 o_posts_23 o_loft_23 z10.2.2 z7.2.2.2.2 (x4_23 + 4) else some 0 else fL_law_L23 L xs k m_day_23 z7.2.1 z7.2.2.1 m_made_23 m_worth_23 z7.2.2.2.1 m_water_23 m_pulp_23 m_beat_23 m_sort_23 m_nM_23 m_mark_23 m_size_23 m_worn_23 m_nT_23 m_skill_23 m_vat_23 m_pair_23 m_nQ_23 m_allS_23 m_pmark_23 m_pgrade_23 m_psheets_23 m_loft_23 t_day_23 t_coins_23 t_felts_23 t_made_23 t_worth_23 t_rags_23 t_water_23 t_pulp_23 t_beat_23 t_sort_23 t_nM_23 t_mark_23 t_size_23 t_worn_23 t_nT_23 t_skill_23 t_vat_23 t_pair_23 t_nQ_23 t_allS_23 t_pmark_23 t_pgrade_23 t_psheets_23 t_loft_23 z10.2.1 o_pairs_23 o_teams_23 o_water_23 o_vats_23 o_moulds_23 o_crews_23 o_posts_23 o_loft_23 z10.2.2 z7.2.2.2.2 (x4_23 + 4) else some 0)))) else if ((xs x4_23.toNatClampNeg) &&& 31).toInt = 1 then ckI (x4_23 + 1) L (ckI (x4_23 + 2) L (ckI (x4_23 + 3) L ((fL_sell m_coins_23 m_loft_23 (xs (x4_23 + 1).toNatClampNeg) (xs (x4_23 + 2).toNatClampNeg) (xs (x4_23 + 3).toNatClampNeg) lo_23).bind fun z19 => ckI (x4_23 + 1) L (ckI (x4_23 + 2) L (ckI (x4_23 + 3) L ((fX6_sell o_loft_23 o_nums_23 (xs (x4_23 + 1).toNatClampNeg) (xs (x4_23 + 2).toNatClampNeg) (xs (x4_23 + 3).toNatClampNeg)).bind fun z23 => (fX6_thrown z23.2.1).bind fun z24 => if z24 = z19.1 then if z19.1 = 0 then if (lg_cmp (z19.2.2.2 (0 : Int32).toNatClampNeg) z23.1.toInt64) = 0 then fL_law_L23 L xs k m_day_23 z19.2.1 m_felts_23 m_made_23 m_worth_23 m_rags_23 m_water_23 m_pulp_23 m_beat_23 m_sort_23 m_nM_23 m_mark_23 m_size_23 m_worn_23 m_nT_23 m_skill_23 m_vat_23 m_pair_23 m_nQ_23 m_allS_23 m_pmark_23 m_pgrade_23 m_psheets_23 z19.2.2.1 t_day_23 t_coins_23 t_felts_23 t_made_23 t_worth_23 t_rags_23 t_water_23 t_pulp_23 t_beat_23 t_sort_23 t_nM_23 t_mark_23 t_size_23 t_worn_23 t_nT_23 t_skill_23 t_vat_23 t_pair_23 t_nQ_23 t_allS_23 t_pmark_23 t_pgrade_23 t_psheets_23 t_loft_23 z23.2.1 o_pairs_23 o_teams_23 o_water_23 o_vats_23 o_moulds_23 o_crews_23 o_posts_23 z23.2.2.1 z23.2.2.2 z19.2.2.2 (x4_23 + 4) else some 0 else fL_law_L23 L xs k m_day_23 z19.2.1 m_felts_23 m_made_23 m_worth_23 m_rags_23 m_water_23 m_pulp_23 m_beat_23 m_sort_23 m_nM_23 m_mark_23 m_size_23 m_worn_23 m_nT_23 m_skill_23 m_vat_23 m_pair_23 m_nQ_23 m_allS_23 m_pmark_23 m_pgrade_23 m_psheets_23 z19.2.2.1 t_day_23 t_coins_23 t_felts_23 t_made_23 t_worth_23 t_rags_23 t_water_23 t_pulp_23 t_beat_23 t_sort_23 t_nM_23 t_mark_23 t_size_23 t_worn_23 t_nT_23 t_skill_23 t_vat_23 t_pair_23 t_nQ_23 t_allS_23 t_pmark_23 t_pgrade_23 t_psheets_23 t_loft_23 z23.2.1 o_pairs_23 o_teams_23 o_water_23 o_vats_23 o_moulds_23 o_crews_23 o_posts_23 z23.2.2.1 z23.2.2.2 z19.2.2.2 (x4_23 + 4) else some 0)))))) else if ((xs x4_23.toNatClampNeg) &&& 31).toInt = 2 then ckI (x4_23 + 1) L (ckI (x4_23 + 2) L (ckI (x4_23 + 3) L ((fL_fill m_rags_23 m_pulp_23 m_beat_23 m_sort_23 (xs (x4_23 + 1).toNatClampNeg) (xs (x4_23 + 2).toNatClampNeg) (xs (x4_23 + 3).toNatClampNeg) lo_23).bind fun z32 => ckI (x4_23 + 1) L (ckI (x4_23 + 2) L (ckI (x4_23 + 3) L ((fX6_fill o_vats_23 o_nums_23 (xs (x4_23 + 1).toNatClampNeg) (xs (x4_23 + 2).toNatClampNeg) (xs (x4_23 + 3).toNatClampNeg)).bind fun z36 => (fX6_thrown z36.2.1).bind fun z37 => if z37 = z32.1 then if z32.1 = 0 then if (lg_cmp (z32.2.2.2.2.2 (0 : Int32).toNatClampNeg) z36.1.toInt64) = 0 then fL_law_L23 L xs k m_day_23 m_coins_23 m_felts_23 m_made_23 m_worth_23 z32.2.1 m_water_23 z32.2.2.1 z32.2.2.2.1 z32.2.2.2.2.1 m_nM_23 m_mark_23 m_size_23 m_worn_23 m_nT_23 m_skill_23 m_vat_23 m_pair_23 m_nQ_23 m_allS_23 m_pmark_23 m_pgrade_23 m_psheets_23 m_loft_23 t_day_23 t_coins_23 t_felts_23 t_made_23 t_worth_23 t_rags_23 t_water_23 t_pulp_23 t_beat_23 t_sort_23 t_nM_23 t_mark_23 t_size_23 t_worn_23 t_nT_23 t_skill_23 t_vat_23 t_pair_23 t_nQ_23 t_allS_23 t_pmark_23 t_pgrade_23 t_psheets_23 t_loft_23 z36.2.1 o_pairs_23 o_teams_23 o_water_23 z36.2.2.1 o_moulds_23 o_crews_23 o_posts_23 o_loft_23 z36.2.2.2 z32.2.2.2.2.2 (x4_23 + 4) else some 0 else fL_law_L23 L xs k m_day_23 m_coins_23 m_felts_23 m_made_23 m_worth_23 z32.2.1 m_water_23 z32.2.2.1 z32.2.2.2.1 z32.2.2.2.2.1 m_nM_23 m_mark_23 m_size_23 m_worn_23 m_nT_23 m_skill_23 m_vat_23 m_pair_23 m_nQ_23 m_allS_23 m_pmark_23 m_pgrade_23 m_psheets_23 m_loft_23 t_day_23 t_coins_23 t_felts_23 t_made_23 t_worth_23 t_rags_23 t_water_23 t_pulp_23 t_beat_23 t_sort_23 t_nM_23 t_mark_23 t_size_23 t_worn_23 t_nT_23 t_skill_23 t_vat_23 t_pair_23 t_nQ_23 t_allS_23 t_pmark_23 t_pgrade_23 t_psheets_23 t_loft_23 z36.2.1 o_pairs_23 o_teams_23 o_water_23 z36.2.2.1 o_moulds_23 o_crews_23 o_posts_23 o_loft_23 z36.2.2.2 z32.2.2.2.2.2 (x4_23 + 4) else some 0)))))) else if ((xs x4_23.toNatClampNeg) &&& 31).toInt = 3 then ckI (x4_23 + 1) L ((fL_drain m_pulp_23 m_beat_23 m_sort_23 (xs (x4_23 + 1).toNatClampNeg) lo_23).bind fun z43 => ckI (x4_23 + 1) L ((fX6_drain o_vats_23 (xs (x4_23 + 1).toNatClampNeg)).bind fun z45 => (fX6_thrown z45.2.1).bind fun z46 => if z46 = z43.1 then if z43.1 = 0 then if (lg_cmp (z43.2.2.2.2 (0 : Int32).toNatClampNeg) z45.1.toInt64) = 0 then fL_law_L23 L xs k m_day_23 m_coins_23 m_felts_23 m_made_23 m_worth_23 m_rags_23 m_water_23 z43.2.1 z43.2.2.1 z43.2.2.2.1 m_nM_23 m_mark_23 m_size_23 m_worn_23 m_nT_23 m_skill_23 m_vat_23 m_pair_23 m_nQ_23 m_allS_23 m_pmark_23 m_pgrade_23 m_psheets_23 m_loft_23 t_day_23 t_coins_23 t_felts_23 t_made_23 t_worth_23 t_rags_23 t_water_23 t_pulp_23 t_beat_23 t_sort_23 t_nM_23 t_mark_23 t_size_23 t_worn_23 t_nT_23 t_skill_23 t_vat_23 t_pair_23 t_nQ_23 t_allS_23 t_pmark_23 t_pgrade_23 t_psheets_23 t_loft_23 z45.2.1 o_pairs_23 o_teams_23 o_water_23 z45.2.2 o_moulds_23 o_crews_23 o_posts_23 o_loft_23 o_nums_23 z43.2.2.2.2 (x4_23 + 4) else some 0 else fL_law_L23 L xs k m_day_23 m_coins_23 m_felts_23 m_made_23 m_worth_23 m_rags_23 m_water_23 z43.2.1 z43.2.2.1 z43.2.2.2.1 m_nM_23 m_mark_23 m_size_23 m_worn_23 m_nT_23 m_skill_23 m_vat_23 m_pair_23 m_nQ_23 m_allS_23 m_pmark_23 m_pgrade_23 m_psheets_23 m_loft_23 t_day_23 t_coins_23 t_felts_23 t_made_23 t_worth_23 t_rags_23 t_water_23 t_pulp_23 t_beat_23 t_sort_23 t_nM_23 t_mark_23 t_size_23 t_worn_23 t_nT_23 t_skill_23 t_vat_23 t_pair_23 t_nQ_23 t_allS_23 t_pmark_23 t_pgrade_23 t_psheets_23 t_loft_23 z45.2.1 o_pairs_23 o_teams_23 o_water_23 z45.2.2 o_moulds_23 o_crews_23 o_posts_23 o_loft_23 o_nums_23 z43.2.2.2.2 (x4_23 + 4) else some 0)) else if ((xs x4_23.toNatClampNeg) &&& 31).toInt = 4 then ckI (x4_23 + 1) L (ckI (x4_23 + 2) L ((fL_pair m_nM_23 m_mark_23 m_size_23 m_worn_23 (xs (x4_23 + 1).toNatClampNeg) (xs (x4_23 + 2).toNatClampNeg) lo_23).bind fun z53 => ckI (x4_23 + 1) L (ckI (x4_23 + 2) L ((fX6_pair o_pairs_23 o_moulds_23 (xs (x4_23 + 1).toNatClampNeg) (xs (x4_23 + 2).toNatClampNeg)).bind fun z56 => (fX6_thrown z56.2.1).bind fun z57 => if z57 = z53.1 then if z53.1 = 0 then if (lg_cmp (z53.2.2.2.2.2 (0 : Int32).toNatClampNeg) z56.1.toInt64) = 0 then fL_law_L23 L xs k m_day_23 m_coins_23 m_felts_23 m_made_23 m_worth_23 m_rags_23 m_water_23 m_pulp_23 m_beat_23 m_sort_23 z53.2.1 z53.2.2.1 z53.2.2.2.1 z53.2.2.2.2.1 m_nT_23 m_skill_23 m_vat_23 m_pair_23 m_nQ_23 m_allS_23 m_pmark_23 m_pgrade_23 m_psheets_23 m_loft_23 t_day_23 t_coins_23 t_felts_23 t_made_23 t_worth_23 t_rags_23 t_water_23 t_pulp_23 t_beat_23 t_sort_23 t_nM_23 t_mark_23 t_size_23 t_worn_23 t_nT_23 t_skill_23 t_vat_23 t_pair_23 t_nQ_23 t_allS_23 t_pmark_23 t_pgrade_23 t_psheets_23 t_loft_23 z56.2.1 z56.2.2.1 o_teams_23 o_water_23 o_vats_23 z56.2.2.2 o_crews_23 o_posts_23 o_loft_23 o_nums_23 z53.2.2.2.2.2 (x4_23 + 4) else some 0 else fL_law_L23 L xs k m_day_23 m_coins_23 m_felts_23 m_made_23 m_worth_23 m_rags_23 m_water_23 m_pulp_23 m_beat_23 m_sort_23 z53.2.1 z53.2.2.1 z53.2.2.2.1 z53.2.2.2.2.1 m_nT_23 m_skill_23 m_vat_23 m_pair_23 m_nQ_23 m_allS_23 m_pmark_23 m_pgrade_23 m_psheets_23 m_loft_23 t_day_23 t_coins_23 t_felts_23 t_made_23 t_worth_23 t_rags_23 t_water_23 t_pulp_23 t_beat_23 t_sort_23 t_nM_23 t_mark_23 t_size_23 t_worn_23 t_nT_23 t_skill_23 t_vat_23 t_pair_23 t_nQ_23 t_allS_23 t_pmark_23 t_pgrade_23 t_psheets_23 t_loft_23 z56.2.1 z56.2.2.1 o_teams_23 o_water_23 o_vats_23 z56.2.2.2 o_crews_23 o_posts_23 o_loft_23 o_nums_23 z53.2.2.2.2.2 (x4_23 + 4) else some 0)))) else if ((xs x4_23.toNatClampNeg) &&& 31).toInt = 5 then ckI (x4_23 + 1) L ((fL_wire m_coins_23 m_nM_23 m_worn_23 (xs (x4_23 + 1).toNatClampNeg) lo_23).bind fun z63 => ckI (x4_23 + 1) L ((fX6_wire o_pairs_23 o_moulds_23 o_nums_23 (xs (x4_23 + 1).toNatClampNeg)).bind fun z65 => (fX6_thrown z65.2.1).bind fun z66 => if z66 = z63.1 then if z63.1 = 0 then if (lg_cmp (z63.2.2.2 (0 : Int32).toNatClampNeg) z65.1.toInt64) = 0 then fL_law_L23 L xs k m_day_23 z63.2.1 m_felts_23 m_made_23 m_worth_23 m_rags_23 m_water_23 m_pulp_23 m_beat_23 m_sort_23 m_nM_23 m_mark_23 m_size_23 z63.2.2.1 m_nT_23 m_skill_23 m_vat_23 m_pair_23 m_nQ_23 m_allS_23 m_pmark_23 m_pgrade_23 m_psheets_23 m_loft_23 t_day_23 t_coins_23 t_felts_23 t_made_23 t_worth_23 t_rags_23 t_water_23 t_pulp_23 t_beat_23 t_sort_23 t_nM_23 t_mark_23 t_size_23 t_worn_23 t_nT_23 t_skill_23 t_vat_23 t_pair_23 t_nQ_23 t_allS_23 t_pmark_23 t_pgrade_23 t_psheets_23 t_loft_23 z65.2.1 o_pairs_23 o_teams_23 o_water_23 o_vats_23 z65.2.2.1 o_crews_23 o_posts_23 o_loft_23 z65.2.2.2 z63.2.2.2 (x4_23 + 4) else some 0 else fL_law_L23 L xs k m_day_23 z63.2.1 m_felts_23 m_made_23 m_worth_23 m_rags_23 m_water_23 m_pulp_23 m_beat_23 m_sort_23 m_nM_23 m_mark_23 m_size_23 z63.2.2.1 m_nT_23 m_skill_23 m_vat_23 m_pair_23 m_nQ_23 m_allS_23 m_pmark_23 m_pgrade_23 m_psheets_23 m_loft_23 t_day_23 t_coins_23 t_felts_23 t_made_23 t_worth_23 t_rags_23 t_water_23 t_pulp_23 t_beat_23 t_sort_23 t_nM_23 t_mark_23 t_size_23 t_worn_23 t_nT_23 t_skill_23 t_vat_23 t_pair_23 t_nQ_23 t_allS_23 t_pmark_23 t_pgrade_23 t_psheets_23 t_loft_23 z65.2.1 o_pairs_23 o_teams_23 o_water_23 o_vats_23 z65.2.2.1 o_crews_23 o_posts_23 o_loft_23 z65.2.2.2 z63.2.2.2 (x4_23 + 4) else some 0)) else if ((xs x4_23.toNatClampNeg) &&& 31).toInt = 6 then ckI (x4_23 + 1) L ((fL_team m_nT_23 m_skill_23 m_vat_23 m_pair_23 (xs (x4_23 + 1).toNatClampNeg) lo_23).bind fun z72 => ckI (x4_23 + 1) L ((fX6_team o_teams_23 o_crews_23 (xs (x4_23 + 1).toNatClampNeg)).bind fun z74 => (fX6_thrown z74.2.1).bind fun z75 => if z75 = z72.1 then if z72.1 = 0 then if (lg_cmp (z72.2.2.2.2.2 (0 : Int32).toNatClampNeg) z74.1.toInt64) = 0 then fL_law_L23 L xs k m_day_23 m_coins_23 m_felts_23 m_made_23 m_worth_23 m_rags_23 m_water_23 m_pulp_23 m_beat_23 m_sort_23 m_nM_23 m_mark_23 m_size_23 m_worn_23 z72.2.1 z72.2.2.1 z72.2.2.2.1 z72.2.2.2.2.1 m_nQ_23 m_allS_23 m_pmark_23 m_pgrade_23 m_psheets_23 m_loft_23 t_day_23 t_coins_23 t_felts_23 t_made_23 t_worth_23 t_rags_23 t_water_23 t_pulp_23 t_beat_23 t_sort_23 t_nM_23 t_mark_23 t_size_23 t_worn_23 t_nT_23 t_skill_23 t_vat_23 t_pair_23 t_nQ_23 t_allS_23 t_pmark_23 t_pgrade_23 t_psheets_23 t_loft_23 z74.2.1 o_pairs_23 z74.2.2.1 o_water_23 o_vats_23 o_moulds_23 z74.2.2.2 o_posts_23 o_loft_23 o_nums_23 z72.2.2.2.2.2 (x4_23 + 4) else some 0 else fL_law_L23 L xs k m_day_23 m_coins_23 m_felts_23 m_made_23 m_worth_23 m_rags_23 m_water_23 m_pulp_23 m_beat_23 m_sort_23 m_nM_23 m_mark_23 m_size_23 m_worn_23 z72.2.1 z72.2.2.1 z72.2.2.2.1 z72.2.2.2.2.1 m_nQ_23 m_allS_23 m_pmark_23 m_pgrade_23 m_psheets_23 m_loft_23 t_day_23 t_coins_23 t_felts_23 t_made_23 t_worth_23 t_rags_23 t_water_23 t_pulp_23 t_beat_23 t_sort_23 t_nM_23 t_mark_23 t_size_23 t_worn_23 t_nT_23 t_skill_23 t_vat_23 t_pair_23 t_nQ_23 t_allS_23 t_pmark_23 t_pgrade_23 t_psheets_23 t_loft_23 z74.2.1 o_pairs_23 z74.2.2.1 o_water_23 o_vats_23 o_moulds_23 z74.2.2.2 o_posts_23 o_loft_23 o_nums_23 z72.2.2.2.2.2 (x4_23 + 4) else some 0)) else if ((xs x4_23.toNatClampNeg) &&& 31).toInt = 7 then ckI (x4_23 + 1) L (ckI (x4_23 + 2) L (ckI (x4_23 + 3) L ((fL_place m_felts_23 m_pulp_23 m_beat_23 m_nM_23 m_size_23 m_nT_23 m_skill_23 m_vat_23 m_pair_23 m_allS_23 (xs (x4_23 + 1).toNatClampNeg) (xs (x4_23 + 2).toNatClampNeg) (xs (x4_23 + 3).toNatClampNeg) lo_23).bind fun z83 => ckI (x4_23 + 1) L (ckI (x4_23 + 2) L (ckI (x4_23 + 3) L ((fX6_place o_pairs_23 o_teams_23 o_vats_23 o_moulds_23 o_crews_23 o_posts_23 o_nums_23 (xs (x4_23 + 1).toNatClampNeg) (xs (x4_23 + 2).toNatClampNeg) (xs (x4_23 + 3).toNatClampNeg)).bind fun z87 => (fX6_thrown z87.2.1).bind fun z88 => if z88 = z83.1 then if z83.1 = 0 then if (lg_cmp (z83.2.2.2 (0 : Int32).toNatClampNeg) z87.1.toInt64) = 0 then fL_law_L23 L xs k m_day_23 m_coins_23 m_felts_23 m_made_23 m_worth_23 m_rags_23 m_water_23 m_pulp_23 m_beat_23 m_sort_23 m_nM_23 m_mark_23 m_size_23 m_worn_23 m_nT_23 m_skill_23 z83.2.1 z83.2.2.1 m_nQ_23 m_allS_23 m_pmark_23 m_pgrade_23 m_psheets_23 m_loft_23 t_day_23 t_coins_23 t_felts_23 t_made_23 t_worth_23 t_rags_23 t_water_23 t_pulp_23 t_beat_23 t_sort_23 t_nM_23 t_mark_23 t_size_23 t_worn_23 t_nT_23 t_skill_23 t_vat_23 t_pair_23 t_nQ_23 t_allS_23 t_pmark_23 t_pgrade_23 t_psheets_23 t_loft_23 z87.2.1 o_pairs_23 o_teams_23 o_water_23 o_vats_23 o_moulds_23 z87.2.2 o_posts_23 o_loft_23 o_nums_23 z83.2.2.2 (x4_23 + 4) else some 0 else fL_law_L23 L xs k m_day_23 m_coins_23 m_felts_23 m_made_23 m_worth_23 m_rags_23 m_water_23 m_pulp_23 m_beat_23 m_sort_23 m_nM_23 m_mark_23 m_size_23 m_worn_23 m_nT_23 m_skill_23 z83.2.1 z83.2.2.1 m_nQ_23 m_allS_23 m_pmark_23 m_pgrade_23 m_psheets_23 m_loft_23 t_day_23 t_coins_23 t_felts_23 t_made_23 t_worth_23 t_rags_23 t_water_23 t_pulp_23 t_beat_23 t_sort_23 t_nM_23 t_mark_23 t_size_23 t_worn_23 t_nT_23 t_skill_23 t_vat_23 t_pair_23 t_nQ_23 t_allS_23 t_pmark_23 t_pgrade_23 t_psheets_23 t_loft_23 z87.2.1 o_pairs_23 o_teams_23 o_water_23 o_vats_23 o_moulds_23 z87.2.2 o_posts_23 o_loft_23 o_nums_23 z83.2.2.2 (x4_23 + 4) else some 0)))))) else if ((xs x4_23.toNatClampNeg) &&& 31).toInt = 8 then ckI (x4_23 + 1) L (ckI (x4_23 + 2) L ((fL_setWater m_water_23 (xs (x4_23 + 1).toNatClampNeg) (xs (x4_23 + 2).toNatClampNeg) lo_23).bind fun z95 => ckI (x4_23 + 1) L (ckI (x4_23 + 2) L ((fX6_setWater o_water_23 (xs (x4_23 + 1).toNatClampNeg) (xs (x4_23 + 2).toNatClampNeg)).bind fun z98 => (fX6_thrown z98.2.1).bind fun z99 => if z99 = z95.1 then if z95.1 = 0 then if (lg_cmp (z95.2.2 (0 : Int32).toNatClampNeg) z98.1.toInt64) = 0 then fL_law_L23 L xs k m_day_23 m_coins_23 m_felts_23 m_made_23 m_worth_23 m_rags_23 z95.2.1 m_pulp_23 m_beat_23 m_sort_23 m_nM_23 m_mark_23 m_size_23 m_worn_23 m_nT_23 m_skill_23 m_vat_23 m_pair_23 m_nQ_23 m_allS_23 m_pmark_23 m_pgrade_23 m_psheets_23 m_loft_23 t_day_23 t_coins_23 t_felts_23 t_made_23 t_worth_23 t_rags_23 t_water_23 t_pulp_23 t_beat_23 t_sort_23 t_nM_23 t_mark_23 t_size_23 t_worn_23 t_nT_23 t_skill_23 t_vat_23 t_pair_23 t_nQ_23 t_allS_23 t_pmark_23 t_pgrade_23 t_psheets_23 t_loft_23 z98.2.1 o_pairs_23 o_teams_23 z98.2.2 o_vats_23 o_moulds_23 o_crews_23 o_posts_23 o_loft_23 o_nums_23 z95.2.2 (x4_23 + 4) else some 0 else fL_law_L23 L xs k m_day_23 m_coins_23 m_felts_23 m_made_23 m_worth_23 m_rags_23 z95.2.1 m_pulp_23 m_beat_23 m_sort_23 m_nM_23 m_mark_23 m_size_23 m_worn_23 m_nT_23 m_skill_23 m_vat_23 m_pair_23 m_nQ_23 m_allS_23 m_pmark_23 m_pgrade_23 m_psheets_23 m_loft_23 t_day_23 t_coins_23 t_felts_23 t_made_23 t_worth_23 t_rags_23 t_water_23 t_pulp_23 t_beat_23 t_sort_23 t_nM_23 t_mark_23 t_size_23 t_worn_23 t_nT_23 t_skill_23 t_vat_23 t_pair_23 t_nQ_23 t_allS_23 t_pmark_23 t_pgrade_23 t_psheets_23 t_loft_23 z98.2.1 o_pairs_23 o_teams_23 z98.2.2 o_vats_23 o_moulds_23 o_crews_23 o_posts_23 o_loft_23 o_nums_23 z95.2.2 (x4_23 + 4) else some 0)))) else if ((xs x4_23.toNatClampNeg) &&& 31).toInt = 9 then ckI (x4_23 + 1) L (ckI (x4_23 + 2) L ((fL_about m_pulp_23 m_beat_23 m_sort_23 (xs (x4_23 + 1).toNatClampNeg) (xs (x4_23 + 2).toNatClampNeg) lo_23).bind fun z106 => ckI (x4_23 + 1) L (ckI (x4_23 + 2) L ((fX6_about o_vats_23 (xs (x4_23 + 1).toNatClampNeg) (xs (x4_23 + 2).toNatClampNeg)).bind fun z109 => (fX6_thrown z109.2).bind fun z110 => if z110 = z106.1 then if z106.1 = 0 then if (lg_cmp (z106.2 (0 : Int32).toNatClampNeg) z109.1.toInt64) = 0 then fL_law_L23 L xs k m_day_23 m_coins_23 m_felts_23 m_made_23 m_worth_23 m_rags_23 m_water_23 m_pulp_23 m_beat_23 m_sort_23 m_nM_23 m_mark_23 m_size_23 m_worn_23 m_nT_23 m_skill_23 m_vat_23 m_pair_23 m_nQ_23 m_allS_23 m_pmark_23 m_pgrade_23 m_psheets_23 m_loft_23 t_day_23 t_coins_23 t_felts_23 t_made_23 t_worth_23 t_rags_23 t_water_23 t_pulp_23 t_beat_23 t_sort_23 t_nM_23 t_mark_23 t_size_23 t_worn_23 t_nT_23 t_skill_23 t_vat_23 t_pair_23 t_nQ_23 t_allS_23 t_pmark_23 t_pgrade_23 t_psheets_23 t_loft_23 z109.2 o_pairs_23 o_teams_23 o_water_23 o_vats_23 o_moulds_23 o_crews_23 o_posts_23 o_loft_23 o_nums_23 z106.2 (x4_23 + 4) else some 0 else fL_law_L23 L xs k m_day_23 m_coins_23 m_felts_23 m_made_23 m_worth_23 m_rags_23 m_water_23 m_pulp_23 m_beat_23 m_sort_23 m_nM_23 m_mark_23 m_size_23 m_worn_23 m_nT_23 m_skill_23 m_vat_23 m_pair_23 m_nQ_23 m_allS_23 m_pmark_23 m_pgrade_23 m_psheets_23 m_loft_23 t_day_23 t_coins_23 t_felts_23 t_made_23 t_worth_23 t_rags_23 t_water_23 t_pulp_23 t_beat_23 t_sort_23 t_nM_23 t_mark_23 t_size_23 t_worn_23 t_nT_23 t_skill_23 t_vat_23 t_pair_23 t_nQ_23 t_allS_23 t_pmark_23 t_pgrade_23 t_psheets_23 t_loft_23 z109.2 o_pairs_23 o_teams_23 o_water_23 o_vats_23 o_moulds_23 o_crews_23 o_posts_23 o_loft_23 o_nums_23 z106.2 (x4_23 + 4) else some 0)))) else if ((xs x4_23.toNatClampNeg) &&& 31).toInt = 10 then ckI (x4_23 + 1) L (ckI (x4_23 + 2) L ((fL_mould m_nM_23 m_mark_23 m_size_23 m_worn_23 m_nT_23 m_pair_23 (xs (x4_23 + 1).toNatClampNeg) (xs (x4_23 + 2).toNatClampNeg) lo_23).bind fun z117 => ckI (x4_23 + 1) L (ckI (x4_23 + 2) L ((fX6_mould o_pairs_23 o_teams_23 o_moulds_23 o_crews_23 (xs (x4_23 + 1).toNatClampNeg) (xs (x4_23 + 2).toNatClampNeg)).bind fun z120 => (fX6_thrown z120.2).bind fun z121 => if z121 = z117.1 then if z117.1 = 0 then if (lg_cmp (z117.2 (0 : Int32).toNatClampNeg) z120.1.toInt64) = 0 then fL_law_L23 L xs k m_day_23 m_coins_23 m_felts_23 m_made_23 m_worth_23 m_rags_23 m_water_23 m_pulp_23 m_beat_23 m_sort_23 m_nM_23 m_mark_23 m_size_23 m_worn_23 m_nT_23 m_skill_23 m_vat_23 m_pair_23 m_nQ_23 m_allS_23 m_pmark_23 m_pgrade_23 m_psheets_23 m_loft_23 t_day_23 t_coins_23 t_felts_23 t_made_23 t_worth_23 t_rags_23 t_water_23 t_pulp_23 t_beat_23 t_sort_23 t_nM_23 t_mark_23 t_size_23 t_worn_23 t_nT_23 t_skill_23 t_vat_23 t_pair_23 t_nQ_23 t_allS_23 t_pmark_23 t_pgrade_23 t_psheets_23 t_loft_23 z120.2 o_pairs_23 o_teams_23 o_water_23 o_vats_23 o_moulds_23 o_crews_23 o_posts_23 o_loft_23 o_nums_23 z117.2 (x4_23 + 4) else some 0 else fL_law_L23 L xs k m_day_23 m_coins_23 m_felts_23 m_made_23 m_worth_23 m_rags_23 m_water_23 m_pulp_23 m_beat_23 m_sort_23 m_nM_23 m_mark_23 m_size_23 m_worn_23 m_nT_23 m_skill_23 m_vat_23 m_pair_23 m_nQ_23 m_allS_23 m_pmark_23 m_pgrade_23 m_psheets_23 m_loft_23 t_day_23 t_coins_23 t_felts_23 t_made_23 t_worth_23 t_rags_23 t_water_23 t_pulp_23 t_beat_23 t_sort_23 t_nM_23 t_mark_23 t_size_23 t_worn_23 t_nT_23 t_skill_23 t_vat_23 t_pair_23 t_nQ_23 t_allS_23 t_pmark_23 t_pgrade_23 t_psheets_23 t_loft_23 z120.2 o_pairs_23 o_teams_23 o_water_23 o_vats_23 o_moulds_23 o_crews_23 o_posts_23 o_loft_23 o_nums_23 z117.2 (x4_23 + 4) else some 0)))) else if ((xs x4_23.toNatClampNeg) &&& 31).toInt = 11 then ckI (x4_23 + 1) L (ckI (x4_23 + 2) L ((fL_told m_felts_23 m_pulp_23 m_beat_23 m_nM_23 m_size_23 m_nT_23 m_skill_23 m_vat_23 m_pair_23 m_allS_23 (xs (x4_23 + 1).toNatClampNeg) (xs (x4_23 + 2).toNatClampNeg) lo_23).bind fun z128 => ckI (x4_23 + 1) L (ckI (x4_23 + 2) L ((fX6_told o_teams_23 o_vats_23 o_moulds_23 o_crews_23 o_posts_23 o_nums_23 (xs (x4_23 + 1).toNatClampNeg) (xs (x4_23 + 2).toNatClampNeg)).bind fun z131 => (fX6_thrown z131.2).bind fun z132 => if z132 = z128.1 then if z128.1 = 0 then if (lg_cmp (z128.2 (0 : Int32).toNatClampNeg) z131.1.toInt64) = 0 then fL_law_L23 L xs k m_day_23 m_coins_23 m_felts_23 m_made_23 m_worth_23 m_rags_23 m_water_23 m_pulp_23 m_beat_23 m_sort_23 m_nM_23 m_mark_23 m_size_23 m_worn_23 m_nT_23 m_skill_23 m_vat_23 m_pair_23 m_nQ_23 m_allS_23 m_pmark_23 m_pgrade_23 m_psheets_23 m_loft_23 t_day_23 t_coins_23 t_felts_23 t_made_23 t_worth_23 t_rags_23 t_water_23 t_pulp_23 t_beat_23 t_sort_23 t_nM_23 t_mark_23 t_size_23 t_worn_23 t_nT_23 t_skill_23 t_vat_23 t_pair_23 t_nQ_23 t_allS_23 t_pmark_23 t_pgrade_23 t_psheets_23 t_loft_23 z131.2 o_pairs_23 o_teams_23 o_water_23 o_vats_23 o_moulds_23 o_crews_23 o_posts_23 o_loft_23 o_nums_23 z128.2 (x4_23 + 4) else some 0 else fL_law_L23 L xs k m_day_23 m_coins_23 m_felts_23 m_made_23 m_worth_23 m_rags_23 m_water_23 m_pulp_23 m_beat_23 m_sort_23 m_nM_23 m_mark_23 m_size_23 m_worn_23 m_nT_23 m_skill_23 m_vat_23 m_pair_23 m_nQ_23 m_allS_23 m_pmark_23 m_pgrade_23 m_psheets_23 m_loft_23 t_day_23 t_coins_23 t_felts_23 t_made_23 t_worth_23 t_rags_23 t_water_23 t_pulp_23 t_beat_23 t_sort_23 t_nM_23 t_mark_23 t_size_23 t_worn_23 t_nT_23 t_skill_23 t_vat_23 t_pair_23 t_nQ_23 t_allS_23 t_pmark_23 t_pgrade_23 t_psheets_23 t_loft_23 z131.2 o_pairs_23 o_teams_23 o_water_23 o_vats_23 o_moulds_23 o_crews_23 o_posts_23 o_loft_23 o_nums_23 z128.2 (x4_23 + 4) else some 0)))) else if ((xs x4_23.toNatClampNeg) &&& 31).toInt = 12 then ckI (x4_23 + 1) L (ckI (x4_23 + 2) L ((fL_post m_nQ_23 m_pmark_23 m_pgrade_23 m_psheets_23 (xs (x4_23 + 1).toNatClampNeg) (xs (x4_23 + 2).toNatClampNeg) lo_23).bind fun z139 => ckI (x4_23 + 1) L (ckI (x4_23 + 2) L ((fX6_post o_posts_23 o_nums_23 (xs (x4_23 + 1).toNatClampNeg) (xs (x4_23 + 2).toNatClampNeg)).bind fun z142 => (fX6_thrown z142.2).bind fun z143 => if z143 = z139.1 then if z139.1 = 0 then if (lg_cmp (z139.2 (0 : Int32).toNatClampNeg) z142.1.toInt64) = 0 then fL_law_L23 L xs k m_day_23 m_coins_23 m_felts_23 m_made_23 m_worth_23 m_rags_23 m_water_23 m_pulp_23 m_beat_23 m_sort_23 m_nM_23 m_mark_23 m_size_23 m_worn_23 m_nT_23 m_skill_23 m_vat_23 m_pair_23 m_nQ_23 m_allS_23 m_pmark_23 m_pgrade_23 m_psheets_23 m_loft_23 t_day_23 t_coins_23 t_felts_23 t_made_23 t_worth_23 t_rags_23 t_water_23 t_pulp_23 t_beat_23 t_sort_23 t_nM_23 t_mark_23 t_size_23 t_worn_23 t_nT_23 t_skill_23 t_vat_23 t_pair_23 t_nQ_23 t_allS_23 t_pmark_23 t_pgrade_23 t_psheets_23 t_loft_23 z142.2 o_pairs_23 o_teams_23 o_water_23 o_vats_23 o_moulds_23 o_crews_23 o_posts_23 o_loft_23 o_nums_23 z139.2 (x4_23 + 4) else some 0 else fL_law_L23 L xs k m_day_23 m_coins_23 m_felts_23 m_made_23 m_worth_23 m_rags_23 m_water_23 m_pulp_23 m_beat_23 m_sort_23 m_nM_23 m_mark_23 m_size_23 m_worn_23 m_nT_23 m_skill_23 m_vat_23 m_pair_23 m_nQ_23 m_allS_23 m_pmark_23 m_pgrade_23 m_psheets_23 m_loft_23 t_day_23 t_coins_23 t_felts_23 t_made_23 t_worth_23 t_rags_23 t_water_23 t_pulp_23 t_beat_23 t_sort_23 t_nM_23 t_mark_23 t_size_23 t_worn_23 t_nT_23 t_skill_23 t_vat_23 t_pair_23 t_nQ_23 t_allS_23 t_pmark_23 t_pgrade_23 t_psheets_23 t_loft_23 z142.2 o_pairs_23 o_teams_23 o_water_23 o_vats_23 o_moulds_23 o_crews_23 o_posts_23 o_loft_23 o_nums_23 z139.2 (x4_23 + 4) else some 0)))) else if ((xs x4_23.toNatClampNeg) &&& 31).toInt = 13 then ckI (x4_23 + 1) L (ckI (x4_23 + 2) L ((fL_loft m_loft_23 (xs (x4_23 + 1).toNatClampNeg) (xs (x4_23 + 2).toNatClampNeg) lo_23).bind fun z150 => ckI (x4_23 + 1) L (ckI (x4_23 + 2) L ((fX6_loft o_loft_23 (xs (x4_23 + 1).toNatClampNeg) (xs (x4_23 + 2).toNatClampNeg)).bind fun z153 => (fX6_thrown z153.2).bind fun z154 => if z154 = z150.1 then if z150.1 = 0 then if (lg_cmp (z150.2 (0 : Int32).toNatClampNeg) z153.1.toInt64) = 0 then fL_law_L23 L xs k m_day_23 m_coins_23 m_felts_23 m_made_23 m_worth_23 m_rags_23 m_water_23 m_pulp_23 m_beat_23 m_sort_23 m_nM_23 m_mark_23 m_size_23 m_worn_23 m_nT_23 m_skill_23 m_vat_23 m_pair_23 m_nQ_23 m_allS_23 m_pmark_23 m_pgrade_23 m_psheets_23 m_loft_23 t_day_23 t_coins_23 t_felts_23 t_made_23 t_worth_23 t_rags_23 t_water_23 t_pulp_23 t_beat_23 t_sort_23 t_nM_23 t_mark_23 t_size_23 t_worn_23 t_nT_23 t_skill_23 t_vat_23 t_pair_23 t_nQ_23 t_allS_23 t_pmark_23 t_pgrade_23 t_psheets_23 t_loft_23 z153.2 o_pairs_23 o_teams_23 o_water_23 o_vats_23 o_moulds_23 o_crews_23 o_posts_23 o_loft_23 o_nums_23 z150.2 (x4_23 + 4) else some 0 else fL_law_L23 L xs k m_day_23 m_coins_23 m_felts_23 m_made_23 m_worth_23 m_rags_23 m_water_23 m_pulp_23 m_beat_23 m_sort_23 m_nM_23 m_mark_23 m_size_23 m_worn_23 m_nT_23 m_skill_23 m_vat_23 m_pair_23 m_nQ_23 m_allS_23 m_pmark_23 m_pgrade_23 m_psheets_23 m_loft_23 t_day_23 t_coins_23 t_felts_23 t_made_23 t_worth_23 t_rags_23 t_water_23 t_pulp_23 t_beat_23 t_sort_23 t_nM_23 t_mark_23 t_size_23 t_worn_23 t_nT_23 t_skill_23 t_vat_23 t_pair_23 t_nQ_23 t_allS_23 t_pmark_23 t_pgrade_23 t_psheets_23 t_loft_23 z153.2 o_pairs_23 o_teams_23 o_water_23 o_vats_23 o_moulds_23 o_crews_23 o_posts_23 o_loft_23 o_nums_23 z150.2 (x4_23 + 4) else some 0)))) else if ((xs x4_23.toNatClampNeg) &&& 31).toInt = 14 then ckI (x4_23 + 1) L ((fL_count m_day_23 m_coins_23 m_felts_23 m_made_23 m_worth_23 m_rags_23 m_pulp_23 m_nQ_23 m_allS_23 m_loft_23 (xs (x4_23 + 1).toNatClampNeg) lo_23).bind fun z160 => ckI (x4_23 + 1) L ((fX6_count o_vats_23 o_posts_23 o_loft_23 o_nums_23 (xs (x4_23 + 1).toNatClampNeg)).bind fun z162 => (fX6_thrown z162.2).bind fun z163 => if z163 = z160.1 then if z160.1 = 0 then if (lg_cmp (z160.2 (0 : Int32).toNatClampNeg) z162.1.toInt64) = 0 then fL_law_L23 L xs k m_day_23 m_coins_23 m_felts_23 m_made_23 m_worth_23 m_rags_23 m_water_23 m_pulp_23 m_beat_23 m_sort_23 m_nM_23 m_mark_23 m_size_23 m_worn_23 m_nT_23 m_skill_23 m_vat_23 m_pair_23 m_nQ_23 m_allS_23 m_pmark_23 m_pgrade_23 m_psheets_23 m_loft_23 t_day_23 t_coins_23 t_felts_23 t_made_23 t_worth_23 t_rags_23 t_water_23 t_pulp_23 t_beat_23 t_sort_23 t_nM_23 t_mark_23 t_size_23 t_worn_23 t_nT_23 t_skill_23 t_vat_23 t_pair_23 t_nQ_23 t_allS_23 t_pmark_23 t_pgrade_23 t_psheets_23 t_loft_23 z162.2 o_pairs_23 o_teams_23 o_water_23 o_vats_23 o_moulds_23 o_crews_23 o_posts_23 o_loft_23 o_nums_23 z160.2 (x4_23 + 4) else some 0 else fL_law_L23 L xs k m_day_23 m_coins_23 m_felts_23 m_made_23 m_worth_23 m_rags_23 m_water_23 m_pulp_23 m_beat_23 m_sort_23 m_nM_23 m_mark_23 m_size_23 m_worn_23 m_nT_23 m_skill_23 m_vat_23 m_pair_23 m_nQ_23 m_allS_23 m_pmark_23 m_pgrade_23 m_psheets_23 m_loft_23 t_day_23 t_coins_23 t_felts_23 t_made_23 t_worth_23 t_rags_23 t_water_23 t_pulp_23 t_beat_23 t_sort_23 t_nM_23 t_mark_23 t_size_23 t_worn_23 t_nT_23 t_skill_23 t_vat_23 t_pair_23 t_nQ_23 t_allS_23 t_pmark_23 t_pgrade_23 t_psheets_23 t_loft_23 z162.2 o_pairs_23 o_teams_23 o_water_23 o_vats_23 o_moulds_23 o_crews_23 o_posts_23 o_loft_23 o_nums_23 z160.2 (x4_23 + 4) else some 0)) else if ((xs x4_23.toNatClampNeg) &&& 31).toInt = 15 then ckI (x4_23 + 1) L ((fL_pass m_day_23 m_felts_23 m_made_23 m_worth_23 m_water_23 m_pulp_23 m_beat_23 m_sort_23 m_nM_23 m_mark_23 m_size_23 m_worn_23 m_nT_23 m_skill_23 m_vat_23 m_pair_23 m_nQ_23 m_allS_23 m_pmark_23 m_pgrade_23 m_psheets_23 m_loft_23 (xs (x4_23 + 1).toNatClampNeg) lo_23).bind fun z169 => ckI (x4_23 + 1) L ((fX6_pass o_teams_23 o_water_23 o_vats_23 o_moulds_23 o_crews_23 o_posts_23 o_loft_23 o_nums_23 (xs (x4_23 + 1).toNatClampNeg)).bind fun z171 => (fX6_thrown z171.2.1).bind fun z172 => if z172 = z169.1 then if z169.1 = 0 then if (lg_cmp (z169.2.2.2.2.2.2.2.2.2.2.2.2.2.2 (0 : Int32).toNatClampNeg) z171.1.toInt64) = 0 then fL_law_L23 L xs k z169.2.1 m_coins_23 m_felts_23 z169.2.2.1 z169.2.2.2.1 m_rags_23 m_water_23 z169.2.2.2.2.1 z169.2.2.2.2.2.1 z169.2.2.2.2.2.2.1 m_nM_23 m_mark_23 m_size_23 z169.2.2.2.2.2.2.2.1 m_nT_23 m_skill_23 m_vat_23 m_pair_23 z169.2.2.2.2.2.2.2.2.1 z169.2.2.2.2.2.2.2.2.2.1 z169.2.2.2.2.2.2.2.2.2.2.1 z169.2.2.2.2.2.2.2.2.2.2.2.1 z169.2.2.2.2.2.2.2.2.2.2.2.2.1 z169.2.2.2.2.2.2.2.2.2.2.2.2.2.1 t_day_23 t_coins_23 t_felts_23 t_made_23 t_worth_23 t_rags_23 t_water_23 t_pulp_23 t_beat_23 t_sort_23 t_nM_23 t_mark_23 t_size_23 t_worn_23 t_nT_23 t_skill_23 t_vat_23 t_pair_23 t_nQ_23 t_allS_23 t_pmark_23 t_pgrade_23 t_psheets_23 t_loft_23 z171.2.1 o_pairs_23 o_teams_23 o_water_23 z171.2.2.1 z171.2.2.2.1 o_crews_23 z171.2.2.2.2.1 z171.2.2.2.2.2.1 z171.2.2.2.2.2.2 z169.2.2.2.2.2.2.2.2.2.2.2.2.2.2 (x4_23 + 4) else some 0 else fL_law_L23 L xs k z169.2.1 m_coins_23 m_felts_23 z169.2.2.1 z169.2.2.2.1 m_rags_23 m_water_23 z169.2.2.2.2.1 z169.2.2.2.2.2.1 z169.2.2.2.2.2.2.1 m_nM_23 m_mark_23 m_size_23 z169.2.2.2.2.2.2.2.1 m_nT_23 m_skill_23 m_vat_23 m_pair_23 z169.2.2.2.2.2.2.2.2.1 z169.2.2.2.2.2.2.2.2.2.1 z169.2.2.2.2.2.2.2.2.2.2.1 z169.2.2.2.2.2.2.2.2.2.2.2.1 z169.2.2.2.2.2.2.2.2.2.2.2.2.1 z169.2.2.2.2.2.2.2.2.2.2.2.2.2.1 t_day_23 t_coins_23 t_felts_23 t_made_23 t_worth_23 t_rags_23 t_water_23 t_pulp_23 t_beat_23 t_sort_23 t_nM_23 t_mark_23 t_size_23 t_worn_23 t_nT_23 t_skill_23 t_vat_23 t_pair_23 t_nQ_23 t_allS_23 t_pmark_23 t_pgrade_23 t_psheets_23 t_loft_23 z171.2.1 o_pairs_23 o_teams_23 o_water_23 z171.2.2.1 z171.2.2.2.1 o_crews_23 z171.2.2.2.2.1 z171.2.2.2.2.2.1 z171.2.2.2.2.2.2 z169.2.2.2.2.2.2.2.2.2.2.2.2.2.2 (x4_23 + 4) else some 0)) else if ((xs x4_23.toNatClampNeg) &&& 31).toInt = 16 then ckI (x4_23 + 1) L (ckI (x4_23 + 2) L ((fL_ripe m_day_23 m_coins_23 m_felts_23 m_made_23 m_worth_23 m_rags_23 m_water_23 m_pulp_23 m_beat_23 m_sort_23 m_nM_23 m_mark_23 m_size_23 m_worn_23 m_nT_23 m_skill_23 m_vat_23 m_pair_23 m_nQ_23 m_allS_23 m_pmark_23 m_pgrade_23 m_psheets_23 m_loft_23 t_day_23 t_coins_23 t_felts_23 t_made_23 t_worth_23 t_rags_23 t_water_23 t_pulp_23 t_beat_23 t_sort_23 t_nM_23 t_mark_23 t_size_23 t_worn_23 t_nT_23 t_skill_23 t_vat_23 t_pair_23 t_nQ_23 t_allS_23 t_pmark_23 t_pgrade_23 t_psheets_23 t_loft_23 (xs (x4_23 + 1).toNatClampNeg) (xs (x4_23 + 2).toNatClampNeg) lo_23).bind fun z179 => ckI (x4_23 + 1) L (ckI (x4_23 + 2) L ((fX6_ripe o_teams_23 o_water_23 o_vats_23 o_moulds_23 o_crews_23 o_posts_23 o_loft_23 o_nums_23 (xs (x4_23 + 1).toNatClampNeg) (xs (x4_23 + 2).toNatClampNeg)).bind fun z182 => (fX6_thrown z182.2.1).bind fun z183 => if z183 = z179.1 then if z179.1 = 0 then if (lg_cmp (z179.2.2.2.2.2.2.2.2.2.2.2.2.2.2.2.2.2.2.2.2.2.2.2.2.2 (0 : Int32).toNatClampNeg) z182.1.toInt64) = 0 then fL_law_L23 L xs k m_day_23 m_coins_23 m_felts_23 m_made_23 m_worth_23 m_rags_23 m_water_23 m_pulp_23 m_beat_23 m_sort_23 m_nM_23 m_mark_23 m_size_23 m_worn_23 m_nT_23 m_skill_23 m_vat_23 m_pair_23 m_nQ_23 m_allS_23 m_pmark_23 m_pgrade_23 m_psheets_23 m_loft_23 z179.2.1 z179.2.2.1 z179.2.2.2.1 z179.2.2.2.2.1 z179.2.2.2.2.2.1 z179.2.2.2.2.2.2.1 z179.2.2.2.2.2.2.2.1 z179.2.2.2.2.2.2.2.2.1 z179.2.2.2.2.2.2.2.2.2.1 z179.2.2.2.2.2.2.2.2.2.2.1 z179.2.2.2.2.2.2.2.2.2.2.2.1 z179.2.2.2.2.2.2.2.2.2.2.2.2.1 z179.2.2.2.2.2.2.2.2.2.2.2.2.2.1 z179.2.2.2.2.2.2.2.2.2.2.2.2.2.2.1 z179.2.2.2.2.2.2.2.2.2.2.2.2.2.2.2.1 z179.2.2.2.2.2.2.2.2.2.2.2.2.2.2.2.2.1 z179.2.2.2.2.2.2.2.2.2.2.2.2.2.2.2.2.2.1 z179.2.2.2.2.2.2.2.2.2.2.2.2.2.2.2.2.2.2.1 z179.2.2.2.2.2.2.2.2.2.2.2.2.2.2.2.2.2.2.2.1 z179.2.2.2.2.2.2.2.2.2.2.2.2.2.2.2.2.2.2.2.2.1 z179.2.2.2.2.2.2.2.2.2.2.2.2.2.2.2.2.2.2.2.2.2.1 z179.2.2.2.2.2.2.2.2.2.2.2.2.2.2.2.2.2.2.2.2.2.2.1 z179.2.2.2.2.2.2.2.2.2.2.2.2.2.2.2.2.2.2.2.2.2.2.2.1 z179.2.2.2.2.2.2.2.2.2.2.2.2.2.2.2.2.2.2.2.2.2.2.2.2.1 z182.2.1 o_pairs_23 o_teams_23 o_water_23 z182.2.2.1 z182.2.2.2.1 z182.2.2.2.2.1 z182.2.2.2.2.2.1 z182.2.2.2.2.2.2.1 z182.2.2.2.2.2.2.2 z179.2.2.2.2.2.2.2.2.2.2.2.2.2.2.2.2.2.2.2.2.2.2.2.2.2 (x4_23 + 4) else some 0 else fL_law_L23 L xs k m_day_23 m_coins_23 m_felts_23 m_made_23 m_worth_23 m_rags_23 m_water_23 m_pulp_23 m_beat_23 m_sort_23 m_nM_23 m_mark_23 m_size_23 m_worn_23 m_nT_23 m_skill_23 m_vat_23 m_pair_23 m_nQ_23 m_allS_23 m_pmark_23 m_pgrade_23 m_psheets_23 m_loft_23 z179.2.1 z179.2.2.1 z179.2.2.2.1 z179.2.2.2.2.1 z179.2.2.2.2.2.1 z179.2.2.2.2.2.2.1 z179.2.2.2.2.2.2.2.1 z179.2.2.2.2.2.2.2.2.1 z179.2.2.2.2.2.2.2.2.2.1 z179.2.2.2.2.2.2.2.2.2.2.1 z179.2.2.2.2.2.2.2.2.2.2.2.1 z179.2.2.2.2.2.2.2.2.2.2.2.2.1 z179.2.2.2.2.2.2.2.2.2.2.2.2.2.1 z179.2.2.2.2.2.2.2.2.2.2.2.2.2.2.1 z179.2.2.2.2.2.2.2.2.2.2.2.2.2.2.2.1 z179.2.2.2.2.2.2.2.2.2.2.2.2.2.2.2.2.1 z179.2.2.2.2.2.2.2.2.2.2.2.2.2.2.2.2.2.1 z179.2.2.2.2.2.2.2.2.2.2.2.2.2.2.2.2.2.2.1 z179.2.2.2.2.2.2.2.2.2.2.2.2.2.2.2.2.2.2.2.1 z179.2.2.2.2.2.2.2.2.2.2.2.2.2.2.2.2.2.2.2.2.1 z179.2.2.2.2.2.2.2.2.2.2.2.2.2.2.2.2.2.2.2.2.2.1 z179.2.2.2.2.2.2.2.2.2.2.2.2.2.2.2.2.2.2.2.2.2.2.1 z179.2.2.2.2.2.2.2.2.2.2.2.2.2.2.2.2.2.2.2.2.2.2.2.1 z179.2.2.2.2.2.2.2.2.2.2.2.2.2.2.2.2.2.2.2.2.2.2.2.2.1 z182.2.1 o_pairs_23 o_teams_23 o_water_23 z182.2.2.1 z182.2.2.2.1 z182.2.2.2.2.1 z182.2.2.2.2.2.1 z182.2.2.2.2.2.2.1 z182.2.2.2.2.2.2.2 z179.2.2.2.2.2.2.2.2.2.2.2.2.2.2.2.2.2.2.2.2.2.2.2.2.2 (x4_23 + 4) else some 0)))) else if ((xs x4_23.toNatClampNeg) &&& 31).toInt = 17 then ckI (x4_23 + 1) L (ckI (x4_23 + 2) L ((fL_foresee m_day_23 m_coins_23 m_felts_23 m_made_23 m_worth_23 m_rags_23 m_water_23 m_pulp_23 m_beat_23 m_sort_23 m_nM_23 m_mark_23 m_size_23 m_worn_23 m_nT_23 m_skill_23 m_vat_23 m_pair_23 m_nQ_23 m_allS_23 m_pmark_23 m_pgrade_23 m_psheets_23 m_loft_23 t_day_23 t_coins_23 t_felts_23 t_made_23 t_worth_23 t_rags_23 t_water_23 t_pulp_23 t_beat_23 t_sort_23 t_nM_23 t_mark_23 t_size_23 t_worn_23 t_nT_23 t_skill_23 t_vat_23 t_pair_23 t_nQ_23 t_allS_23 t_pmark_23 t_pgrade_23 t_psheets_23 t_loft_23 (xs (x4_23 + 1).toNatClampNeg) (xs (x4_23 + 2).toNatClampNeg) lo_23).bind fun z190 => ckI (x4_23 + 1) L (ckI (x4_23 + 2) L ((fX6_foresee o_teams_23 o_water_23 o_vats_23 o_moulds_23 o_crews_23 o_posts_23 o_loft_23 o_nums_23 (xs (x4_23 + 1).toNatClampNeg) (xs (x4_23 + 2).toNatClampNeg)).bind fun z193 => (fX6_thrown z193.2).bind fun z194 => if z194 = z190.1 then if z190.1 = 0 then if (lg_cmp (z190.2.2.2.2.2.2.2.2.2.2.2.2.2.2.2.2.2.2.2.2.2.2.2.2.2 (0 : Int32).toNatClampNeg) z193.1.toInt64) = 0 then fL_law_L23 L xs k m_day_23 m_coins_23 m_felts_23 m_made_23 m_worth_23 m_rags_23 m_water_23 m_pulp_23 m_beat_23 m_sort_23 m_nM_23 m_mark_23 m_size_23 m_worn_23 m_nT_23 m_skill_23 m_vat_23 m_pair_23 m_nQ_23 m_allS_23 m_pmark_23 m_pgrade_23 m_psheets_23 m_loft_23 z190.2.1 z190.2.2.1 z190.2.2.2.1 z190.2.2.2.2.1 z190.2.2.2.2.2.1 z190.2.2.2.2.2.2.1 z190.2.2.2.2.2.2.2.1 z190.2.2.2.2.2.2.2.2.1 z190.2.2.2.2.2.2.2.2.2.1 z190.2.2.2.2.2.2.2.2.2.2.1 z190.2.2.2.2.2.2.2.2.2.2.2.1 z190.2.2.2.2.2.2.2.2.2.2.2.2.1 z190.2.2.2.2.2.2.2.2.2.2.2.2.2.1 z190.2.2.2.2.2.2.2.2.2.2.2.2.2.2.1 z190.2.2.2.2.2.2.2.2.2.2.2.2.2.2.2.1 z190.2.2.2.2.2.2.2.2.2.2.2.2.2.2.2.2.1 z190.2.2.2.2.2.2.2.2.2.2.2.2.2.2.2.2.2.1 z190.2.2.2.2.2.2.2.2.2.2.2.2.2.2.2.2.2.2.1 z190.2.2.2.2.2.2.2.2.2.2.2.2.2.2.2.2.2.2.2.1 z190.2.2.2.2.2.2.2.2.2.2.2.2.2.2.2.2.2.2.2.2.1 z190.2.2.2.2.2.2.2.2.2.2.2.2.2.2.2.2.2.2.2.2.2.1 z190.2.2.2.2.2.2.2.2.2.2.2.2.2.2.2.2.2.2.2.2.2.2.1 z190.2.2.2.2.2.2.2.2.2.2.2.2.2.2.2.2.2.2.2.2.2.2.2.1 z190.2.2.2.2.2.2.2.2.2.2.2.2.2.2.2.2.2.2.2.2.2.2.2.2.1 z193.2 o_pairs_23 o_teams_23 o_water_23 o_vats_23 o_moulds_23 o_crews_23 o_posts_23 o_loft_23 o_nums_23 z190.2.2.2.2.2.2.2.2.2.2.2.2.2.2.2.2.2.2.2.2.2.2.2.2.2 (x4_23 + 4) else some 0 else fL_law_L23 L xs k m_day_23 m_coins_23 m_felts_23 m_made_23 m_worth_23 m_rags_23 m_water_23 m_pulp_23 m_beat_23 m_sort_23 m_nM_23 m_mark_23 m_size_23 m_worn_23 m_nT_23 m_skill_23 m_vat_23 m_pair_23 m_nQ_23 m_allS_23 m_pmark_23 m_pgrade_23 m_psheets_23 m_loft_23 z190.2.1 z190.2.2.1 z190.2.2.2.1 z190.2.2.2.2.1 z190.2.2.2.2.2.1 z190.2.2.2.2.2.2.1 z190.2.2.2.2.2.2.2.1 z190.2.2.2.2.2.2.2.2.1 z190.2.2.2.2.2.2.2.2.2.1 z190.2.2.2.2.2.2.2.2.2.2.1 z190.2.2.2.2.2.2.2.2.2.2.2.1 z190.2.2.2.2.2.2.2.2.2.2.2.2.1 z190.2.2.2.2.2.2.2.2.2.2.2.2.2.1 z190.2.2.2.2.2.2.2.2.2.2.2.2.2.2.1 z190.2.2.2.2.2.2.2.2.2.2.2.2.2.2.2.1 z190.2.2.2.2.2.2.2.2.2.2.2.2.2.2.2.2.1 z190.2.2.2.2.2.2.2.2.2.2.2.2.2.2.2.2.2.1 z190.2.2.2.2.2.2.2.2.2.2.2.2.2.2.2.2.2.2.1 z190.2.2.2.2.2.2.2.2.2.2.2.2.2.2.2.2.2.2.2.1 z190.2.2.2.2.2.2.2.2.2.2.2.2.2.2.2.2.2.2.2.2.1 z190.2.2.2.2.2.2.2.2.2.2.2.2.2.2.2.2.2.2.2.2.2.1 z190.2.2.2.2.2.2.2.2.2.2.2.2.2.2.2.2.2.2.2.2.2.2.1 z190.2.2.2.2.2.2.2.2.2.2.2.2.2.2.2.2.2.2.2.2.2.2.2.1 z190.2.2.2.2.2.2.2.2.2.2.2.2.2.2.2.2.2.2.2.2.2.2.2.2.1 z193.2 o_pairs_23 o_teams_23 o_water_23 o_vats_23 o_moulds_23 o_crews_23 o_posts_23 o_loft_23 o_nums_23 z190.2.2.2.2.2.2.2.2.2.2.2.2.2.2.2.2.2.2.2.2.2.2.2.2.2 (x4_23 + 4) else some 0)))) else if ((xs x4_23.toNatClampNeg) &&& 31).toInt = 18 then ckI (x4_23 + 1) L ((fL_advise m_day_23 m_coins_23 m_felts_23 m_made_23 m_worth_23 m_rags_23 m_water_23 m_pulp_23 m_beat_23 m_sort_23 m_nM_23 m_mark_23 m_size_23 m_worn_23 m_nT_23 m_skill_23 m_vat_23 m_pair_23 m_nQ_23 m_allS_23 m_pmark_23 m_pgrade_23 m_psheets_23 m_loft_23 t_day_23 t_coins_23 t_felts_23 t_made_23 t_worth_23 t_rags_23 t_water_23 t_pulp_23 t_beat_23 t_sort_23 t_nM_23 t_mark_23 t_size_23 t_worn_23 t_nT_23 t_skill_23 t_vat_23 t_pair_23 t_nQ_23 t_allS_23 t_pmark_23 t_pgrade_23 t_psheets_23 t_loft_23 (xs (x4_23 + 1).toNatClampNeg) lo_23).bind fun z200 => ckI (x4_23 + 1) L ((fX6_advise o_teams_23 o_water_23 o_vats_23 o_moulds_23 o_crews_23 o_posts_23 o_loft_23 o_nums_23 (xs (x4_23 + 1).toNatClampNeg)).bind fun z202 => (fX6_thrown z202.2.1).bind fun z203 => if z203 = z200.1 then if z200.1 = 0 then if (lg_cmp (z200.2.2.2.2.2.2.2.2.2.2.2.2.2.2.2.2.2.2.2.2.2.2.2.2.2 (0 : Int32).toNatClampNeg) z202.1.toInt64) = 0 then fL_law_L23 L xs k m_day_23 m_coins_23 m_felts_23 m_made_23 m_worth_23 m_rags_23 m_water_23 m_pulp_23 m_beat_23 m_sort_23 m_nM_23 m_mark_23 m_size_23 m_worn_23 m_nT_23 m_skill_23 m_vat_23 m_pair_23 m_nQ_23 m_allS_23 m_pmark_23 m_pgrade_23 m_psheets_23 m_loft_23 z200.2.1 z200.2.2.1 z200.2.2.2.1 z200.2.2.2.2.1 z200.2.2.2.2.2.1 z200.2.2.2.2.2.2.1 z200.2.2.2.2.2.2.2.1 z200.2.2.2.2.2.2.2.2.1 z200.2.2.2.2.2.2.2.2.2.1 z200.2.2.2.2.2.2.2.2.2.2.1 z200.2.2.2.2.2.2.2.2.2.2.2.1 z200.2.2.2.2.2.2.2.2.2.2.2.2.1 z200.2.2.2.2.2.2.2.2.2.2.2.2.2.1 z200.2.2.2.2.2.2.2.2.2.2.2.2.2.2.1 z200.2.2.2.2.2.2.2.2.2.2.2.2.2.2.2.1 z200.2.2.2.2.2.2.2.2.2.2.2.2.2.2.2.2.1 z200.2.2.2.2.2.2.2.2.2.2.2.2.2.2.2.2.2.1 z200.2.2.2.2.2.2.2.2.2.2.2.2.2.2.2.2.2.2.1 z200.2.2.2.2.2.2.2.2.2.2.2.2.2.2.2.2.2.2.2.1 z200.2.2.2.2.2.2.2.2.2.2.2.2.2.2.2.2.2.2.2.2.1 z200.2.2.2.2.2.2.2.2.2.2.2.2.2.2.2.2.2.2.2.2.2.1 z200.2.2.2.2.2.2.2.2.2.2.2.2.2.2.2.2.2.2.2.2.2.2.1 z200.2.2.2.2.2.2.2.2.2.2.2.2.2.2.2.2.2.2.2.2.2.2.2.1 z200.2.2.2.2.2.2.2.2.2.2.2.2.2.2.2.2.2.2.2.2.2.2.2.2.1 z202.2.1 o_pairs_23 o_teams_23 o_water_23 z202.2.2.1 z202.2.2.2.1 z202.2.2.2.2.1 z202.2.2.2.2.2.1 z202.2.2.2.2.2.2.1 z202.2.2.2.2.2.2.2 z200.2.2.2.2.2.2.2.2.2.2.2.2.2.2.2.2.2.2.2.2.2.2.2.2.2 (x4_23 + 4) else some 0 else fL_law_L23 L xs k m_day_23 m_coins_23 m_felts_23 m_made_23 m_worth_23 m_rags_23 m_water_23 m_pulp_23 m_beat_23 m_sort_23 m_nM_23 m_mark_23 m_size_23 m_worn_23 m_nT_23 m_skill_23 m_vat_23 m_pair_23 m_nQ_23 m_allS_23 m_pmark_23 m_pgrade_23 m_psheets_23 m_loft_23 z200.2.1 z200.2.2.1 z200.2.2.2.1 z200.2.2.2.2.1 z200.2.2.2.2.2.1 z200.2.2.2.2.2.2.1 z200.2.2.2.2.2.2.2.1 z200.2.2.2.2.2.2.2.2.1 z200.2.2.2.2.2.2.2.2.2.1 z200.2.2.2.2.2.2.2.2.2.2.1 z200.2.2.2.2.2.2.2.2.2.2.2.1 z200.2.2.2.2.2.2.2.2.2.2.2.2.1 z200.2.2.2.2.2.2.2.2.2.2.2.2.2.1 z200.2.2.2.2.2.2.2.2.2.2.2.2.2.2.1 z200.2.2.2.2.2.2.2.2.2.2.2.2.2.2.2.1 z200.2.2.2.2.2.2.2.2.2.2.2.2.2.2.2.2.1 z200.2.2.2.2.2.2.2.2.2.2.2.2.2.2.2.2.2.1 z200.2.2.2.2.2.2.2.2.2.2.2.2.2.2.2.2.2.2.1 z200.2.2.2.2.2.2.2.2.2.2.2.2.2.2.2.2.2.2.2.1 z200.2.2.2.2.2.2.2.2.2.2.2.2.2.2.2.2.2.2.2.2.1 z200.2.2.2.2.2.2.2.2.2.2.2.2.2.2.2.2.2.2.2.2.2.1 z200.2.2.2.2.2.2.2.2.2.2.2.2.2.2.2.2.2.2.2.2.2.2.1 z200.2.2.2.2.2.2.2.2.2.2.2.2.2.2.2.2.2.2.2.2.2.2.2.1 z200.2.2.2.2.2.2.2.2.2.2.2.2.2.2.2.2.2.2.2.2.2.2.2.2.1 z202.2.1 o_pairs_23 o_teams_23 o_water_23 z202.2.2.1 z202.2.2.2.1 z202.2.2.2.2.1 z202.2.2.2.2.2.1 z202.2.2.2.2.2.2.1 z202.2.2.2.2.2.2.2 z200.2.2.2.2.2.2.2.2.2.2.2.2.2.2.2.2.2.2.2.2.2.2.2.2.2 (x4_23 + 4) else some 0)) else if ((xs x4_23.toNatClampNeg) &&& 31).toInt = 19 then (fX5_mean m_nM_23 m_worn_23).bind fun z208 => (fX6_mean o_pairs_23 o_moulds_23).bind fun z209 => if (Op.cmpValue (FP.dcmp z208 z209.1) .l) = 0 then fL_law_L23 L xs k m_day_23 m_coins_23 m_felts_23 m_made_23 m_worth_23 m_rags_23 m_water_23 m_pulp_23 m_beat_23 m_sort_23 m_nM_23 m_mark_23 m_size_23 m_worn_23 m_nT_23 m_skill_23 m_vat_23 m_pair_23 m_nQ_23 m_allS_23 m_pmark_23 m_pgrade_23 m_psheets_23 m_loft_23 t_day_23 t_coins_23 t_felts_23 t_made_23 t_worth_23 t_rags_23 t_water_23 t_pulp_23 t_beat_23 t_sort_23 t_nM_23 t_mark_23 t_size_23 t_worn_23 t_nT_23 t_skill_23 t_vat_23 t_pair_23 t_nQ_23 t_allS_23 t_pmark_23 t_pgrade_23 t_psheets_23 t_loft_23 z209.2 o_pairs_23 o_teams_23 o_water_23 o_vats_23 o_moulds_23 o_crews_23 o_posts_23 o_loft_23 o_nums_23 lo_23 (x4_23 + 4) else if (Op.cmpValue (FP.dcmp z208 z208) .l) = 0 then some 0 else if (Op.cmpValue (FP.dcmp z209.1 z209.1) .l) = 0 then some 0 else fL_law_L23 L xs k m_day_23 m_coins_23 m_felts_23 m_made_23 m_worth_23 m_rags_23 m_water_23 m_pulp_23 m_beat_23 m_sort_23 m_nM_23 m_mark_23 m_size_23 m_worn_23 m_nT_23 m_skill_23 m_vat_23 m_pair_23 m_nQ_23 m_allS_23 m_pmark_23 m_pgrade_23 m_psheets_23 m_loft_23 t_day_23 t_coins_23 t_felts_23 t_made_23 t_worth_23 t_rags_23 t_water_23 t_pulp_23 t_beat_23 t_sort_23 t_nM_23 t_mark_23 t_size_23 t_worn_23 t_nT_23 t_skill_23 t_vat_23 t_pair_23 t_nQ_23 t_allS_23 t_pmark_23 t_pgrade_23 t_psheets_23 t_loft_23 z209.2 o_pairs_23 o_teams_23 o_water_23 o_vats_23 o_moulds_23 o_crews_23 o_posts_23 o_loft_23 o_nums_23 lo_23 (x4_23 + 4) else (fX5_digest m_day_23 m_coins_23 m_felts_23 m_made_23 m_worth_23 m_rags_23 m_water_23 m_pulp_23 m_beat_23 m_sort_23 m_nM_23 m_mark_23 m_size_23 m_worn_23 m_nT_23 m_skill_23 m_vat_23 m_pair_23 m_nQ_23 m_allS_23 m_pmark_23 m_pgrade_23 m_psheets_23 m_loft_23).bind fun z213 => (fX6_digest o_pairs_23 o_teams_23 o_water_23 o_vats_23 o_moulds_23 o_crews_23 o_posts_23 o_loft_23 o_nums_23).bind fun z214 => if (lg_cmp z213 z214.1) = 0 then fL_law_L23 L xs k m_day_23 m_coins_23 m_felts_23 m_made_23 m_worth_23 m_rags_23 m_water_23 m_pulp_23 m_beat_23 m_sort_23 m_nM_23 m_mark_23 m_size_23 m_worn_23 m_nT_23 m_skill_23 m_vat_23 m_pair_23 m_nQ_23 m_allS_23 m_pmark_23 m_pgrade_23 m_psheets_23 m_loft_23 t_day_23 t_coins_23 t_felts_23 t_made_23 t_worth_23 t_rags_23 t_water_23 t_pulp_23 t_beat_23 t_sort_23 t_nM_23 t_mark_23 t_size_23 t_worn_23 t_nT_23 t_skill_23 t_vat_23 t_pair_23 t_nQ_23 t_allS_23 t_pmark_23 t_pgrade_23 t_psheets_23 t_loft_23 z214.2 o_pairs_23 o_teams_23 o_water_23 o_vats_23 o_moulds_23 o_crews_23 o_posts_23 o_loft_23 o_nums_23 lo_23 (x4_23 + 4) else some 0)
set_option maxHeartbeats 40000000 in
set_option maxRecDepth 100000 in
theorem kL_law {p : Program} {l : Launch} {e : Env} {s : State} {m : MethodId} {below : List Frame} {meth : Method} {c : Code} {D : va_G} {cy : Nat → ClassId} {sa : Nat → Nat} {b L : Nat} {xs : FN} {Q : State → Prop} {A : Nat → Prop} (hst : l.stackTraces = false) (hx : p.tables.exec = Jvm.exec) (hb : c.code = cL_law) (hml : c.maxLocals = 9) (hown : s.vm.findClass RL = some m.cls) (hts : ∀ w ∈ wsL_law, w.before #[Value.ref b] s = true) (hX : va_X b L xs s s.heap) (hbl : b < s.heap.size) (hbA : ¬ A b) (hA : ∀ q : Nat, s.heap.size ≤ q → A q) (hK : va_K D vwCl (tyW cy) s) (hG : GE sa A s s.heap) (h g : Nat → Nat) (xo : Nat)
    (hQ : ∀ (H : Heap) (locs : List Loc) (cells slots pc : Nat) (ls : Array Slot), decode cL_law pc = .ok (.ireturn, 1) → va_S A s.heap H locs → cells ≤ 601024 → slots ≤ 7293034 → W p l e room_1 s m #[Value.ref b] below meth c H locs cells slots Q (F0 m pc ls [.int 1])) :
    ∀ (k : Nat) (m_day_23 : Int32) (m_coins_23 : Int32) (m_felts_23 : Int32) (m_made_23 : Int32) (m_worth_23 : Int32) (m_rags_23 : FN) (m_water_23 : FN) (m_pulp_23 : FN) (m_beat_23 : FN) (m_sort_23 : FN) (m_nM_23 : Int32) (m_mark_23 : FN) (m_size_23 : FN) (m_worn_23 : FN) (m_nT_23 : Int32) (m_skill_23 : FN) (m_vat_23 : FN) (m_pair_23 : FN) (m_nQ_23 : Int32) (m_allS_23 : Int32) (m_pmark_23 : FN) (m_pgrade_23 : FN) (m_psheets_23 : FN) (m_loft_23 : FN) (t_day_23 : Int32) (t_coins_23 : Int32) (t_felts_23 : Int32) (t_made_23 : Int32) (t_worth_23 : Int32) (t_rags_23 : FN) (t_water_23 : FN) (t_pulp_23 : FN) (t_beat_23 : FN) (t_sort_23 : FN) (t_nM_23 : Int32) (t_mark_23 : FN) (t_size_23 : FN) (t_worn_23 : FN) (t_nT_23 : Int32) (t_skill_23 : FN) (t_vat_23 : FN) (t_pair_23 : FN) (t_nQ_23 : Int32) (t_allS_23 : Int32) (t_pmark_23 : FN) (t_pgrade_23 : FN) (t_psheets_23 : FN) (t_loft_23 : FN) (o_thrown_23 : Int32) (o_pairs_23 : Int32) (o_teams_23 : Int32) (o_water_23 : FN) (o_vats_23 : FN) (o_moulds_23 : FN) (o_crews_23 : FN) (o_posts_23 : FN) (o_loft_23 : FN) (o_nums_23 : FN) (lo_23 : Nat → Int64) (x4_23 : Int32), fL_law_L23 L xs k m_day_23 m_coins_23 m_felts_23 m_made_23 m_worth_23 m_rags_23 m_water_23 m_pulp_23 m_beat_23 m_sort_23 m_nM_23 m_mark_23 m_size_23 m_worn_23 m_nT_23 m_skill_23 m_vat_23 m_pair_23 m_nQ_23 m_allS_23 m_pmark_23 m_pgrade_23 m_psheets_23 m_loft_23 t_day_23 t_coins_23 t_felts_23 t_made_23 t_worth_23 t_rags_23 t_water_23 t_pulp_23 t_beat_23 t_sort_23 t_nM_23 t_mark_23 t_size_23 t_worn_23 t_nT_23 t_skill_23 t_vat_23 t_pair_23 t_nQ_23 t_allS_23 t_pmark_23 t_pgrade_23 t_psheets_23 t_loft_23 o_thrown_23 o_pairs_23 o_teams_23 o_water_23 o_vats_23 o_moulds_23 o_crews_23 o_posts_23 o_loft_23 o_nums_23 lo_23 x4_23 = some 1 → ∀ (cu su : Nat), cu + 260 * k ≤ 133440 → su + 1120 * k ≤ 575760 → ∀ (H : Heap) (locs : List Loc) (ls : Array Slot), va_P D vwCl (wX5X6L cy h g m_day_23 m_coins_23 m_felts_23 m_made_23 m_worth_23 m_rags_23 m_water_23 m_pulp_23 m_beat_23 m_sort_23 m_nM_23 m_mark_23 m_size_23 m_worn_23 m_nT_23 m_skill_23 m_vat_23 m_pair_23 m_nQ_23 m_allS_23 m_pmark_23 m_pgrade_23 m_psheets_23 m_loft_23 t_day_23 t_coins_23 t_felts_23 t_made_23 t_worth_23 t_rags_23 t_water_23 t_pulp_23 t_beat_23 t_sort_23 t_nM_23 t_mark_23 t_size_23 t_worn_23 t_nT_23 t_skill_23 t_vat_23 t_pair_23 t_nQ_23 t_allS_23 t_pmark_23 t_pgrade_23 t_psheets_23 t_loft_23 o_thrown_23 o_pairs_23 o_teams_23 o_water_23 o_vats_23 o_moulds_23 o_crews_23 o_posts_23 o_loft_23 o_nums_23 xo lo_23) H → va_D A (wX5X6L cy h g m_day_23 m_coins_23 m_felts_23 m_made_23 m_worth_23 m_rags_23 m_water_23 m_pulp_23 m_beat_23 m_sort_23 m_nM_23 m_mark_23 m_size_23 m_worn_23 m_nT_23 m_skill_23 m_vat_23 m_pair_23 m_nQ_23 m_allS_23 m_pmark_23 m_pgrade_23 m_psheets_23 m_loft_23 t_day_23 t_coins_23 t_felts_23 t_made_23 t_worth_23 t_rags_23 t_water_23 t_pulp_23 t_beat_23 t_sort_23 t_nM_23 t_mark_23 t_size_23 t_worn_23 t_nT_23 t_skill_23 t_vat_23 t_pair_23 t_nQ_23 t_allS_23 t_pmark_23 t_pgrade_23 t_psheets_23 t_loft_23 o_thrown_23 o_pairs_23 o_teams_23 o_water_23 o_vats_23 o_moulds_23 o_crews_23 o_posts_23 o_loft_23 o_nums_23 xo lo_23) → va_S A s.heap H locs → lv_has ls 9 [(0, .ref b), (1, .ref (h 0)), (2, .ref (g 0)), (3, .ref xo), (4, .int x4_23)] → W p l e room_1 s m #[Value.ref b] below meth c H locs cu su Q (F0 m 23 ls []) := by
  intro k
  induction k with
  | zero =>
    intro m_day_23 m_coins_23 m_felts_23 m_made_23 m_worth_23 m_rags_23 m_water_23 m_pulp_23 m_beat_23 m_sort_23 m_nM_23 m_mark_23 m_size_23 m_worn_23 m_nT_23 m_skill_23 m_vat_23 m_pair_23 m_nQ_23 m_allS_23 m_pmark_23 m_pgrade_23 m_psheets_23 m_loft_23 t_day_23 t_coins_23 t_felts_23 t_made_23 t_worth_23 t_rags_23 t_water_23 t_pulp_23 t_beat_23 t_sort_23 t_nM_23 t_mark_23 t_size_23 t_worn_23 t_nT_23 t_skill_23 t_vat_23 t_pair_23 t_nQ_23 t_allS_23 t_pmark_23 t_pgrade_23 t_psheets_23 t_loft_23 o_thrown_23 o_pairs_23 o_teams_23 o_water_23 o_vats_23 o_moulds_23 o_crews_23 o_posts_23 o_loft_23 o_nums_23 lo_23 x4_23 hF
    rw [fL_law_L23] at hF
    cases hF
  | succ k ih =>
    intro m_day_23 m_coins_23 m_felts_23 m_made_23 m_worth_23 m_rags_23 m_water_23 m_pulp_23 m_beat_23 m_sort_23 m_nM_23 m_mark_23 m_size_23 m_worn_23 m_nT_23 m_skill_23 m_vat_23 m_pair_23 m_nQ_23 m_allS_23 m_pmark_23 m_pgrade_23 m_psheets_23 m_loft_23 t_day_23 t_coins_23 t_felts_23 t_made_23 t_worth_23 t_rags_23 t_water_23 t_pulp_23 t_beat_23 t_sort_23 t_nM_23 t_mark_23 t_size_23 t_worn_23 t_nT_23 t_skill_23 t_vat_23 t_pair_23 t_nQ_23 t_allS_23 t_pmark_23 t_pgrade_23 t_psheets_23 t_loft_23 o_thrown_23 o_pairs_23 o_teams_23 o_water_23 o_vats_23 o_moulds_23 o_crews_23 o_posts_23 o_loft_23 o_nums_23 lo_23 x4_23 hF cu su hcu hsu H locs ls hP hD hS hl
    rw [fL_law_L23] at hF
    refine lv_iload hx hb dL_law_23 (lv_at hl 4 rfl) ?_
    refine lv_aload_n hx hb dL_law_25 rfl (lv_at hl 0 rfl) ?_
    refine va_slen hx hb hX hbl hbA hS dL_law_26 ?_
    refine lv_iconst (v := 4) hx hb dL_law_27 (by decide) ?_
    refine lv_isub hx hb dL_law_28 ?_
    refine lv_icmp_gt (tgt := 1453) hx hb dL_law_29 (by decide) (fun c_1 => ?_) (fun c_1 => ?_)
    · replace hF := if_t hF c_1
      refine lv_iconst (v := 1) hx hb dL_law_1453 (by decide) ?_
      exact hQ _ _ _ _ _ _ dL_law_1454 hS (by omega) (by omega)
    · replace hF := if_f hF c_1
      refine lv_aload_n hx hb dL_law_32 rfl (lv_at hl 0 rfl) ?_
      refine lv_iload hx hb dL_law_33 (lv_at hl 4 rfl) ?_
      replace hF := ckI_some hF
      obtain ⟨hi_2, hF⟩ := hF
      refine va_sld hx hb hX hbl hbA hS hi_2 dL_law_35 ?_
      refine lv_bipush (v := 31) hx hb dL_law_36 (by decide) ?_
      refine lv_iand hx hb dL_law_38 ?_
      by_cases c_3 : ((xs x4_23.toNatClampNeg) &&& 31).toInt < 0 ∨ 20 < ((xs x4_23.toNatClampNeg) &&& 31).toInt
      · replace hF := if_t hF c_3
        refine lv_tableOut (tgt := 1447) hx hb dL_law_39 c_3 (by decide) ?_
        refine lv_iinc (v := x4_23 + 4) (lv' := [(4, .int (x4_23 + 4)), (0, .ref b), (1, .ref (h 0)), (2, .ref (g 0)), (3, .ref xo)]) hx hb dL_law_1447 hl (k := 4) rfl rfl (by decide) rfl (fun ls hl => ?_)
        refine lv_goto (tgt := 23) hx hb dL_law_1450 (by decide) ?_
        exact ih  m_day_23 m_coins_23 m_felts_23 m_made_23 m_worth_23 m_rags_23 m_water_23 m_pulp_23 m_beat_23 m_sort_23 m_nM_23 m_mark_23 m_size_23 m_worn_23 m_nT_23 m_skill_23 m_vat_23 m_pair_23 m_nQ_23 m_allS_23 m_pmark_23 m_pgrade_23 m_psheets_23 m_loft_23 t_day_23 t_coins_23 t_felts_23 t_made_23 t_worth_23 t_rags_23 t_water_23 t_pulp_23 t_beat_23 t_sort_23 t_nM_23 t_mark_23 t_size_23 t_worn_23 t_nT_23 t_skill_23 t_vat_23 t_pair_23 t_nQ_23 t_allS_23 t_pmark_23 t_pgrade_23 t_psheets_23 t_loft_23 o_thrown_23 o_pairs_23 o_teams_23 o_water_23 o_vats_23 o_moulds_23 o_crews_23 o_posts_23 o_loft_23 o_nums_23 lo_23 (x4_23 + 4)  hF (cu) (su) (by omega) (by omega) _ _ _ hP hD hS (lv_sub hl [1, 2, 3, 4, 0] rfl)
      · replace hF := if_f hF c_3
        by_cases c_4 : ((xs x4_23.toNatClampNeg) &&& 31).toInt = 0
        · replace hF := if_t hF c_4
          refine lv_tableIn (off := 97) (tgt := 136) hx hb dL_law_39 (fun h9 => c_3 (Or.inl h9)) (fun h9 => c_3 (Or.inr h9)) (by rw [c_4] <;> rfl) (by decide) ?_
          refine lv_aload_n hx hb dL_law_136 rfl (lv_at hl 1 rfl) ?_
          refine lv_aload_n hx hb dL_law_137 rfl (lv_at hl 0 rfl) ?_
          refine lv_iload hx hb dL_law_138 (lv_at hl 4 rfl) ?_
          refine lv_iconst (v := 1) hx hb dL_law_140 (by decide) ?_
          refine lv_iadd hx hb dL_law_141 ?_
          replace hF := ckI_some hF
          obtain ⟨hi_5, hF⟩ := hF
          refine va_sld hx hb hX hbl hbA hS hi_5 dL_law_142 ?_
          refine lv_aload_n hx hb dL_law_143 rfl (lv_at hl 0 rfl) ?_
          refine lv_iload hx hb dL_law_144 (lv_at hl 4 rfl) ?_
          refine lv_iconst (v := 2) hx hb dL_law_146 (by decide) ?_
          refine lv_iadd hx hb dL_law_147 ?_
          replace hF := ckI_some hF
          obtain ⟨hi_6, hF⟩ := hF
          refine va_sld hx hb hX hbl hbA hS hi_6 dL_law_148 ?_
          refine lv_aload_n hx hb dL_law_149 rfl (lv_at hl 3 rfl) ?_
          replace hF := bnd_some hF
          obtain ⟨z7, hz_7, hF⟩ := hF
          refine kwIE (kSW (hh := [(0, 10, 13, 13), (0, 10, 17, 15), (0, 10, 21, 17)]) (As := [.ref (h 0), .int (xs (x4_23 + 1).toNatClampNeg), .int (xs (x4_23 + 2).toNatClampNeg), .ref xo]) ⟨hx, hb, hml, hown, hts⟩ (kL_buy l D cy sa h m_day_23 m_coins_23 m_felts_23 m_made_23 m_worth_23 m_rags_23 m_water_23 m_pulp_23 m_beat_23 m_sort_23 m_nM_23 m_mark_23 m_size_23 m_worn_23 m_nT_23 m_skill_23 m_vat_23 m_pair_23 m_nQ_23 m_allS_23 m_pmark_23 m_pgrade_23 m_psheets_23 m_loft_23 t_day_23 t_coins_23 t_felts_23 t_made_23 t_worth_23 t_rags_23 t_water_23 t_pulp_23 t_beat_23 t_sort_23 t_nM_23 t_mark_23 t_size_23 t_worn_23 t_nT_23 t_skill_23 t_vat_23 t_pair_23 t_nQ_23 t_allS_23 t_pmark_23 t_pgrade_23 t_psheets_23 t_loft_23 xo lo_23 (xs (x4_23 + 1).toNatClampNeg) (xs (x4_23 + 2).toNatClampNeg) hst z7 hz_7 _) (vx_cwSW 4 hts gL_law_L_buy rfl rfl rfl (by decide +kernel) ⟨Nat.le_of_ble_eq_true rfl, Nat.le_of_ble_eq_true rfl⟩) hK hP hD hS hA hG [0, 1, 2, 3, 4, 5, 6, 7, 8, 9, 10, 11, 12, 13, 14, 15, 16, 17, 18, 19, 20, 21, 22, 23, 24, 25, 26, 27, 28, 29, 30, 31, 32, 33, 34, 35, 36, 37, 38, 39, 40, 49] hcW ndW rfl hl.1 [] rfl (Nat.le_of_ble_eq_true rfl) dL_law_150 ⟨(by show _ ≤ (601024 : Nat); omega), (by show _ ≤ (7293034 : Nat); omega)⟩) hP hD hS hA [0, 1, 2, 3, 4, 5, 6, 7, 8, 9, 10, 11, 12, 13, 14, 15, 16, 17, 18, 19, 20, 21, 22, 23, 24, 25, 26, 27, 28, 29, 30, 31, 32, 33, 34, 35, 36, 37, 38, 39, 40, 49] hcW hmW kpW (fun H locs hP hD hS => ?_)
          refine lv_istore (lv' := [(5, .int z7.1), (0, .ref b), (1, .ref (h 0)), (2, .ref (g 0)), (3, .ref xo), (4, .int x4_23)]) hx hb dL_law_153 hl (by decide) rfl (fun ls hl => ?_)
          refine lv_aload_n hx hb dL_law_155 rfl (lv_at hl 3 rfl) ?_
          refine lv_aload_n hx hb dL_law_156 rfl (lv_at hl 1 rfl) ?_
          refine lv_iload hx hb dL_law_157 (lv_at hl 5 rfl) ?_
          refine lv_iconst (v := 1) hx hb dL_law_159 (by decide) ?_
          refine lv_iadd hx hb dL_law_160 ?_
          replace hF := ckI_some hF
          obtain ⟨hi_8, hF⟩ := hF
          refine va_sld hx hb hX hbl hbA hS hi_8 dL_law_161 ?_
          refine lv_aload_n hx hb dL_law_162 rfl (lv_at hl 1 rfl) ?_
          refine lv_iload hx hb dL_law_163 (lv_at hl 5 rfl) ?_
          refine lv_iconst (v := 2) hx hb dL_law_165 (by decide) ?_
          refine lv_iadd hx hb dL_law_166 ?_
          replace hF := ckI_some hF
          obtain ⟨hi_9, hF⟩ := hF
          refine va_sld hx hb hX hbl hbA hS hi_9 dL_law_167 ?_
          replace hF := bnd_some hF
          obtain ⟨z10, hz_10, hF⟩ := hF
          refine kwIE (kV (As := [.int (xs (x4_23 + 1).toNatClampNeg), .int (xs (x4_23 + 2).toNatClampNeg)]) ⟨hx, hb, hml, hown, hts⟩ (kX6_buy l D cy sa g o_thrown_23 o_pairs_23 o_teams_23 o_water_23 o_vats_23 o_moulds_23 o_crews_23 o_posts_23 o_loft_23 o_nums_23 (xs (x4_23 + 1).toNatClampNeg) (xs (x4_23 + 2).toNatClampNeg) z10 hz_10 _) (cwV 2 hts gL_law_X6_buy rfl rfl rfl (by decide +kernel) ⟨Nat.le_of_ble_eq_true rfl, Nat.le_of_ble_eq_true rfl⟩) hK hP hD hS hA hG [41, 42, 43, 44, 45, 46, 47, 48] hcX5X6L_X6_41 ndX6_41 gtX6_0 rfl rfl rfl hl.1 [] rfl (Nat.le_of_ble_eq_true rfl) dL_law_168 ⟨(by show _ ≤ (601024 : Nat); omega), (by show _ ≤ (7293034 : Nat); omega)⟩) hP hD hS hA [41, 42, 43, 44, 45, 46, 47, 48] hcX5X6L_X6_41 hmX6 kpX5X6L_X6_41 (fun H locs hP hD hS => ?_)
          refine lv_istore (lv' := [(6, .int z10.1), (5, .int z7.1), (0, .ref b), (1, .ref (h 0)), (2, .ref (g 0)), (3, .ref xo), (4, .int x4_23)]) hx hb dL_law_171 hl (by decide) rfl (fun ls hl => ?_)
          refine lv_aload_n hx hb dL_law_173 rfl (lv_at hl 4 rfl) ?_
          replace hF := bnd_some hF
          obtain ⟨z11, hz_11, hF⟩ := hF
          refine krI (kV (As := []) ⟨hx, hb, hml, hown, hts⟩ (kX6_thrown l D cy sa g z10.2.1 o_pairs_23 o_teams_23 o_water_23 o_vats_23 o_moulds_23 o_crews_23 o_posts_23 o_loft_23 z10.2.2 z11 hz_11 _) (cwV 0 hts gL_law_X6_thrown rfl rfl rfl (by decide +kernel) ⟨Nat.le_of_ble_eq_true rfl, Nat.le_of_ble_eq_true rfl⟩) hK hP hD hS hA hG [41, 42, 43, 44, 45, 46, 47, 48] hcX5X6L_X6_41 ndX6_41 gtX6_0 rfl rfl rfl hl.1 [] rfl (Nat.le_of_ble_eq_true rfl) dL_law_174 ⟨(by show _ ≤ (601024 : Nat); omega), (by show _ ≤ (7293034 : Nat); omega)⟩) hP hD hS hA [41, 42, 43, 44, 45, 46, 47, 48] hcX5X6L_X6_41 (fun H locs hP hS => ?_)
          refine lv_iload hx hb dL_law_177 (lv_at hl 1 rfl) ?_
          refine lv_icmp_eq (tgt := 184) hx hb dL_law_179 (by decide) (fun c_12 => ?_) (fun c_12 => ?_)
          · replace hF := if_t hF c_12
            refine lv_iload hx hb dL_law_184 (lv_at hl 1 rfl) ?_
            refine lv_if_ne (tgt := 201) hx hb dL_law_186 (by decide) (fun c_13 => ?_) (fun c_13 => ?_)
            · replace hF := if_f hF c_13
              refine lv_goto (tgt := 1447) hx hb dL_law_201 (by decide) ?_
              refine lv_iinc (v := x4_23 + 4) (lv' := [(4, .int (x4_23 + 4)), (6, .int z10.1), (5, .int z7.1), (0, .ref b), (1, .ref (h 0)), (2, .ref (g 0)), (3, .ref xo)]) hx hb dL_law_1447 hl (k := 6) rfl rfl (by decide) rfl (fun ls hl => ?_)
              refine lv_goto (tgt := 23) hx hb dL_law_1450 (by decide) ?_
              exact ih  m_day_23 z7.2.1 z7.2.2.1 m_made_23 m_worth_23 z7.2.2.2.1 m_water_23 m_pulp_23 m_beat_23 m_sort_23 m_nM_23 m_mark_23 m_size_23 m_worn_23 m_nT_23 m_skill_23 m_vat_23 m_pair_23 m_nQ_23 m_allS_23 m_pmark_23 m_pgrade_23 m_psheets_23 m_loft_23 t_day_23 t_coins_23 t_felts_23 t_made_23 t_worth_23 t_rags_23 t_water_23 t_pulp_23 t_beat_23 t_sort_23 t_nM_23 t_mark_23 t_size_23 t_worn_23 t_nT_23 t_skill_23 t_vat_23 t_pair_23 t_nQ_23 t_allS_23 t_pmark_23 t_pgrade_23 t_psheets_23 t_loft_23 z10.2.1 o_pairs_23 o_teams_23 o_water_23 o_vats_23 o_moulds_23 o_crews_23 o_posts_23 o_loft_23 z10.2.2 z7.2.2.2.2 (x4_23 + 4)  hF (cu + 1) (su + 6) (by omega) (by omega) _ _ _ hP hD hS (lv_sub hl [3, 4, 5, 6, 0] rfl)
            · replace hF := if_t hF c_13
              refine lv_aload_n hx hb dL_law_189 rfl (lv_at hl 5 rfl) ?_
              refine lv_iconst (v := 0) hx hb dL_law_190 (by decide) ?_
              refine va_lald hx hb hK hP 49 2 gtX5X6L_49 rfl (show ¬ ((0 : Int32) < 0 ∨ 1 ≤ (0 : Int32).toNatClampNeg) from by decide) dL_law_191 ?_
              refine lv_iload hx hb dL_law_192 (lv_at hl 0 rfl) ?_
              refine lv_i2l hx hb dL_law_194 rfl ?_
              refine W.lcmp hx hb dL_law_195 ?_
              refine lv_if_eq (tgt := 201) hx hb dL_law_196 (by decide) (fun c_14 => ?_) (fun c_14 => ?_)
              · replace hF := if_t hF c_14
                refine lv_goto (tgt := 1447) hx hb dL_law_201 (by decide) ?_
                refine lv_iinc (v := x4_23 + 4) (lv' := [(4, .int (x4_23 + 4)), (6, .int z10.1), (5, .int z7.1), (0, .ref b), (1, .ref (h 0)), (2, .ref (g 0)), (3, .ref xo)]) hx hb dL_law_1447 hl (k := 6) rfl rfl (by decide) rfl (fun ls hl => ?_)
                refine lv_goto (tgt := 23) hx hb dL_law_1450 (by decide) ?_
                exact ih  m_day_23 z7.2.1 z7.2.2.1 m_made_23 m_worth_23 z7.2.2.2.1 m_water_23 m_pulp_23 m_beat_23 m_sort_23 m_nM_23 m_mark_23 m_size_23 m_worn_23 m_nT_23 m_skill_23 m_vat_23 m_pair_23 m_nQ_23 m_allS_23 m_pmark_23 m_pgrade_23 m_psheets_23 m_loft_23 t_day_23 t_coins_23 t_felts_23 t_made_23 t_worth_23 t_rags_23 t_water_23 t_pulp_23 t_beat_23 t_sort_23 t_nM_23 t_mark_23 t_size_23 t_worn_23 t_nT_23 t_skill_23 t_vat_23 t_pair_23 t_nQ_23 t_allS_23 t_pmark_23 t_pgrade_23 t_psheets_23 t_loft_23 z10.2.1 o_pairs_23 o_teams_23 o_water_23 o_vats_23 o_moulds_23 o_crews_23 o_posts_23 o_loft_23 z10.2.2 z7.2.2.2.2 (x4_23 + 4)  hF (cu + 1) (su + 6) (by omega) (by omega) _ _ _ hP hD hS (lv_sub hl [3, 4, 5, 6, 0] rfl)
              · replace hF := if_f hF c_14
                refine lv_iconst (v := 0) hx hb dL_law_199 (by decide) ?_
                exact absurd (Option.some.inj hF) (by decide)
          · replace hF := if_f hF c_12
            refine lv_iconst (v := 0) hx hb dL_law_182 (by decide) ?_
            exact absurd (Option.some.inj hF) (by decide)
        · replace hF := if_f hF c_4
          by_cases c_15 : ((xs x4_23.toNatClampNeg) &&& 31).toInt = 1
          · replace hF := if_t hF c_15
            refine lv_tableIn (off := 165) (tgt := 204) hx hb dL_law_39 (fun h9 => c_3 (Or.inl h9)) (fun h9 => c_3 (Or.inr h9)) (by rw [c_15] <;> rfl) (by decide) ?_
            refine lv_aload_n hx hb dL_law_204 rfl (lv_at hl 1 rfl) ?_
            refine lv_aload_n hx hb dL_law_205 rfl (lv_at hl 0 rfl) ?_
            refine lv_iload hx hb dL_law_206 (lv_at hl 4 rfl) ?_
            refine lv_iconst (v := 1) hx hb dL_law_208 (by decide) ?_
            refine lv_iadd hx hb dL_law_209 ?_
            replace hF := ckI_some hF
            obtain ⟨hi_16, hF⟩ := hF
            refine va_sld hx hb hX hbl hbA hS hi_16 dL_law_210 ?_
            refine lv_aload_n hx hb dL_law_211 rfl (lv_at hl 0 rfl) ?_
            refine lv_iload hx hb dL_law_212 (lv_at hl 4 rfl) ?_
            refine lv_iconst (v := 2) hx hb dL_law_214 (by decide) ?_
            refine lv_iadd hx hb dL_law_215 ?_
            replace hF := ckI_some hF
            obtain ⟨hi_17, hF⟩ := hF
            refine va_sld hx hb hX hbl hbA hS hi_17 dL_law_216 ?_
            refine lv_aload_n hx hb dL_law_217 rfl (lv_at hl 0 rfl) ?_
            refine lv_iload hx hb dL_law_218 (lv_at hl 4 rfl) ?_
            refine lv_iconst (v := 3) hx hb dL_law_220 (by decide) ?_
            refine lv_iadd hx hb dL_law_221 ?_
            replace hF := ckI_some hF
            obtain ⟨hi_18, hF⟩ := hF
            refine va_sld hx hb hX hbl hbA hS hi_18 dL_law_222 ?_
            refine lv_aload_n hx hb dL_law_223 rfl (lv_at hl 3 rfl) ?_
            replace hF := bnd_some hF
            obtain ⟨z19, hz_19, hF⟩ := hF
            refine kwIE (kSW (hh := [(0, 12, 15, 13), (0, 12, 19, 15), (0, 12, 23, 17)]) (As := [.ref (h 0), .int (xs (x4_23 + 1).toNatClampNeg), .int (xs (x4_23 + 2).toNatClampNeg), .int (xs (x4_23 + 3).toNatClampNeg), .ref xo]) ⟨hx, hb, hml, hown, hts⟩ (kL_sell l D cy sa h m_day_23 m_coins_23 m_felts_23 m_made_23 m_worth_23 m_rags_23 m_water_23 m_pulp_23 m_beat_23 m_sort_23 m_nM_23 m_mark_23 m_size_23 m_worn_23 m_nT_23 m_skill_23 m_vat_23 m_pair_23 m_nQ_23 m_allS_23 m_pmark_23 m_pgrade_23 m_psheets_23 m_loft_23 t_day_23 t_coins_23 t_felts_23 t_made_23 t_worth_23 t_rags_23 t_water_23 t_pulp_23 t_beat_23 t_sort_23 t_nM_23 t_mark_23 t_size_23 t_worn_23 t_nT_23 t_skill_23 t_vat_23 t_pair_23 t_nQ_23 t_allS_23 t_pmark_23 t_pgrade_23 t_psheets_23 t_loft_23 xo lo_23 (xs (x4_23 + 1).toNatClampNeg) (xs (x4_23 + 2).toNatClampNeg) (xs (x4_23 + 3).toNatClampNeg) hst z19 hz_19 _) (vx_cwSW 5 hts gL_law_L_sell rfl rfl rfl (by decide +kernel) ⟨Nat.le_of_ble_eq_true rfl, Nat.le_of_ble_eq_true rfl⟩) hK hP hD hS hA hG [0, 1, 2, 3, 4, 5, 6, 7, 8, 9, 10, 11, 12, 13, 14, 15, 16, 17, 18, 19, 20, 21, 22, 23, 24, 25, 26, 27, 28, 29, 30, 31, 32, 33, 34, 35, 36, 37, 38, 39, 40, 49] hcW ndW rfl hl.1 [] rfl (Nat.le_of_ble_eq_true rfl) dL_law_224 ⟨(by show _ ≤ (601024 : Nat); omega), (by show _ ≤ (7293034 : Nat); omega)⟩) hP hD hS hA [0, 1, 2, 3, 4, 5, 6, 7, 8, 9, 10, 11, 12, 13, 14, 15, 16, 17, 18, 19, 20, 21, 22, 23, 24, 25, 26, 27, 28, 29, 30, 31, 32, 33, 34, 35, 36, 37, 38, 39, 40, 49] hcW hmW kpW (fun H locs hP hD hS => ?_)
            refine lv_istore (lv' := [(5, .int z19.1), (0, .ref b), (1, .ref (h 0)), (2, .ref (g 0)), (3, .ref xo), (4, .int x4_23)]) hx hb dL_law_227 hl (by decide) rfl (fun ls hl => ?_)
            refine lv_aload_n hx hb dL_law_229 rfl (lv_at hl 3 rfl) ?_
            refine lv_aload_n hx hb dL_law_230 rfl (lv_at hl 1 rfl) ?_
            refine lv_iload hx hb dL_law_231 (lv_at hl 5 rfl) ?_
            refine lv_iconst (v := 1) hx hb dL_law_233 (by decide) ?_
            refine lv_iadd hx hb dL_law_234 ?_
            replace hF := ckI_some hF
            obtain ⟨hi_20, hF⟩ := hF
            refine va_sld hx hb hX hbl hbA hS hi_20 dL_law_235 ?_
            refine lv_aload_n hx hb dL_law_236 rfl (lv_at hl 1 rfl) ?_
            refine lv_iload hx hb dL_law_237 (lv_at hl 5 rfl) ?_
            refine lv_iconst (v := 2) hx hb dL_law_239 (by decide) ?_
            refine lv_iadd hx hb dL_law_240 ?_
            replace hF := ckI_some hF
            obtain ⟨hi_21, hF⟩ := hF
            refine va_sld hx hb hX hbl hbA hS hi_21 dL_law_241 ?_
            refine lv_aload_n hx hb dL_law_242 rfl (lv_at hl 1 rfl) ?_
            refine lv_iload hx hb dL_law_243 (lv_at hl 5 rfl) ?_
            refine lv_iconst (v := 3) hx hb dL_law_245 (by decide) ?_
            refine lv_iadd hx hb dL_law_246 ?_
            replace hF := ckI_some hF
            obtain ⟨hi_22, hF⟩ := hF
            refine va_sld hx hb hX hbl hbA hS hi_22 dL_law_247 ?_
            replace hF := bnd_some hF
            obtain ⟨z23, hz_23, hF⟩ := hF
            refine kwIE (kV (As := [.int (xs (x4_23 + 1).toNatClampNeg), .int (xs (x4_23 + 2).toNatClampNeg), .int (xs (x4_23 + 3).toNatClampNeg)]) ⟨hx, hb, hml, hown, hts⟩ (kX6_sell l D cy sa g o_thrown_23 o_pairs_23 o_teams_23 o_water_23 o_vats_23 o_moulds_23 o_crews_23 o_posts_23 o_loft_23 o_nums_23 (xs (x4_23 + 1).toNatClampNeg) (xs (x4_23 + 2).toNatClampNeg) (xs (x4_23 + 3).toNatClampNeg) z23 hz_23 _) (cwV 3 hts gL_law_X6_sell rfl rfl rfl (by decide +kernel) ⟨Nat.le_of_ble_eq_true rfl, Nat.le_of_ble_eq_true rfl⟩) hK hP hD hS hA hG [41, 42, 43, 44, 45, 46, 47, 48] hcX5X6L_X6_41 ndX6_41 gtX6_0 rfl rfl rfl hl.1 [] rfl (Nat.le_of_ble_eq_true rfl) dL_law_248 ⟨(by show _ ≤ (601024 : Nat); omega), (by show _ ≤ (7293034 : Nat); omega)⟩) hP hD hS hA [41, 42, 43, 44, 45, 46, 47, 48] hcX5X6L_X6_41 hmX6 kpX5X6L_X6_41 (fun H locs hP hD hS => ?_)
            refine lv_istore (lv' := [(6, .int z23.1), (5, .int z19.1), (0, .ref b), (1, .ref (h 0)), (2, .ref (g 0)), (3, .ref xo), (4, .int x4_23)]) hx hb dL_law_251 hl (by decide) rfl (fun ls hl => ?_)
            refine lv_aload_n hx hb dL_law_253 rfl (lv_at hl 4 rfl) ?_
            replace hF := bnd_some hF
            obtain ⟨z24, hz_24, hF⟩ := hF
            refine krI (kV (As := []) ⟨hx, hb, hml, hown, hts⟩ (kX6_thrown l D cy sa g z23.2.1 o_pairs_23 o_teams_23 o_water_23 o_vats_23 o_moulds_23 o_crews_23 o_posts_23 z23.2.2.1 z23.2.2.2 z24 hz_24 _) (cwV 0 hts gL_law_X6_thrown rfl rfl rfl (by decide +kernel) ⟨Nat.le_of_ble_eq_true rfl, Nat.le_of_ble_eq_true rfl⟩) hK hP hD hS hA hG [41, 42, 43, 44, 45, 46, 47, 48] hcX5X6L_X6_41 ndX6_41 gtX6_0 rfl rfl rfl hl.1 [] rfl (Nat.le_of_ble_eq_true rfl) dL_law_254 ⟨(by show _ ≤ (601024 : Nat); omega), (by show _ ≤ (7293034 : Nat); omega)⟩) hP hD hS hA [41, 42, 43, 44, 45, 46, 47, 48] hcX5X6L_X6_41 (fun H locs hP hS => ?_)
            refine lv_iload hx hb dL_law_257 (lv_at hl 1 rfl) ?_
            refine lv_icmp_eq (tgt := 264) hx hb dL_law_259 (by decide) (fun c_25 => ?_) (fun c_25 => ?_)
            · replace hF := if_t hF c_25
              refine lv_iload hx hb dL_law_264 (lv_at hl 1 rfl) ?_
              refine lv_if_ne (tgt := 281) hx hb dL_law_266 (by decide) (fun c_26 => ?_) (fun c_26 => ?_)
              · replace hF := if_f hF c_26
                refine lv_goto (tgt := 1447) hx hb dL_law_281 (by decide) ?_
                refine lv_iinc (v := x4_23 + 4) (lv' := [(4, .int (x4_23 + 4)), (6, .int z23.1), (5, .int z19.1), (0, .ref b), (1, .ref (h 0)), (2, .ref (g 0)), (3, .ref xo)]) hx hb dL_law_1447 hl (k := 6) rfl rfl (by decide) rfl (fun ls hl => ?_)
                refine lv_goto (tgt := 23) hx hb dL_law_1450 (by decide) ?_
                exact ih  m_day_23 z19.2.1 m_felts_23 m_made_23 m_worth_23 m_rags_23 m_water_23 m_pulp_23 m_beat_23 m_sort_23 m_nM_23 m_mark_23 m_size_23 m_worn_23 m_nT_23 m_skill_23 m_vat_23 m_pair_23 m_nQ_23 m_allS_23 m_pmark_23 m_pgrade_23 m_psheets_23 z19.2.2.1 t_day_23 t_coins_23 t_felts_23 t_made_23 t_worth_23 t_rags_23 t_water_23 t_pulp_23 t_beat_23 t_sort_23 t_nM_23 t_mark_23 t_size_23 t_worn_23 t_nT_23 t_skill_23 t_vat_23 t_pair_23 t_nQ_23 t_allS_23 t_pmark_23 t_pgrade_23 t_psheets_23 t_loft_23 z23.2.1 o_pairs_23 o_teams_23 o_water_23 o_vats_23 o_moulds_23 o_crews_23 o_posts_23 z23.2.2.1 z23.2.2.2 z19.2.2.2 (x4_23 + 4)  hF (cu + 1) (su + 6) (by omega) (by omega) _ _ _ hP hD hS (lv_sub hl [3, 4, 5, 6, 0] rfl)
              · replace hF := if_t hF c_26
                refine lv_aload_n hx hb dL_law_269 rfl (lv_at hl 5 rfl) ?_
                refine lv_iconst (v := 0) hx hb dL_law_270 (by decide) ?_
                refine va_lald hx hb hK hP 49 2 gtX5X6L_49 rfl (show ¬ ((0 : Int32) < 0 ∨ 1 ≤ (0 : Int32).toNatClampNeg) from by decide) dL_law_271 ?_
                refine lv_iload hx hb dL_law_272 (lv_at hl 0 rfl) ?_
                refine lv_i2l hx hb dL_law_274 rfl ?_
                refine W.lcmp hx hb dL_law_275 ?_
                refine lv_if_eq (tgt := 281) hx hb dL_law_276 (by decide) (fun c_27 => ?_) (fun c_27 => ?_)
                · replace hF := if_t hF c_27
                  refine lv_goto (tgt := 1447) hx hb dL_law_281 (by decide) ?_
                  refine lv_iinc (v := x4_23 + 4) (lv' := [(4, .int (x4_23 + 4)), (6, .int z23.1), (5, .int z19.1), (0, .ref b), (1, .ref (h 0)), (2, .ref (g 0)), (3, .ref xo)]) hx hb dL_law_1447 hl (k := 6) rfl rfl (by decide) rfl (fun ls hl => ?_)
                  refine lv_goto (tgt := 23) hx hb dL_law_1450 (by decide) ?_
                  exact ih  m_day_23 z19.2.1 m_felts_23 m_made_23 m_worth_23 m_rags_23 m_water_23 m_pulp_23 m_beat_23 m_sort_23 m_nM_23 m_mark_23 m_size_23 m_worn_23 m_nT_23 m_skill_23 m_vat_23 m_pair_23 m_nQ_23 m_allS_23 m_pmark_23 m_pgrade_23 m_psheets_23 z19.2.2.1 t_day_23 t_coins_23 t_felts_23 t_made_23 t_worth_23 t_rags_23 t_water_23 t_pulp_23 t_beat_23 t_sort_23 t_nM_23 t_mark_23 t_size_23 t_worn_23 t_nT_23 t_skill_23 t_vat_23 t_pair_23 t_nQ_23 t_allS_23 t_pmark_23 t_pgrade_23 t_psheets_23 t_loft_23 z23.2.1 o_pairs_23 o_teams_23 o_water_23 o_vats_23 o_moulds_23 o_crews_23 o_posts_23 z23.2.2.1 z23.2.2.2 z19.2.2.2 (x4_23 + 4)  hF (cu + 1) (su + 6) (by omega) (by omega) _ _ _ hP hD hS (lv_sub hl [3, 4, 5, 6, 0] rfl)
                · replace hF := if_f hF c_27
                  refine lv_iconst (v := 0) hx hb dL_law_279 (by decide) ?_
                  exact absurd (Option.some.inj hF) (by decide)
            · replace hF := if_f hF c_25
              refine lv_iconst (v := 0) hx hb dL_law_262 (by decide) ?_
              exact absurd (Option.some.inj hF) (by decide)
          · replace hF := if_f hF c_15
            by_cases c_28 : ((xs x4_23.toNatClampNeg) &&& 31).toInt = 2
            · replace hF := if_t hF c_28
              refine lv_tableIn (off := 245) (tgt := 284) hx hb dL_law_39 (fun h9 => c_3 (Or.inl h9)) (fun h9 => c_3 (Or.inr h9)) (by rw [c_28] <;> rfl) (by decide) ?_
              refine lv_aload_n hx hb dL_law_284 rfl (lv_at hl 1 rfl) ?_
              refine lv_aload_n hx hb dL_law_285 rfl (lv_at hl 0 rfl) ?_
              refine lv_iload hx hb dL_law_286 (lv_at hl 4 rfl) ?_
              refine lv_iconst (v := 1) hx hb dL_law_288 (by decide) ?_
              refine lv_iadd hx hb dL_law_289 ?_
              replace hF := ckI_some hF
              obtain ⟨hi_29, hF⟩ := hF
              refine va_sld hx hb hX hbl hbA hS hi_29 dL_law_290 ?_
              refine lv_aload_n hx hb dL_law_291 rfl (lv_at hl 0 rfl) ?_
              refine lv_iload hx hb dL_law_292 (lv_at hl 4 rfl) ?_
              refine lv_iconst (v := 2) hx hb dL_law_294 (by decide) ?_
              refine lv_iadd hx hb dL_law_295 ?_
              replace hF := ckI_some hF
              obtain ⟨hi_30, hF⟩ := hF
              refine va_sld hx hb hX hbl hbA hS hi_30 dL_law_296 ?_
              refine lv_aload_n hx hb dL_law_297 rfl (lv_at hl 0 rfl) ?_
              refine lv_iload hx hb dL_law_298 (lv_at hl 4 rfl) ?_
              refine lv_iconst (v := 3) hx hb dL_law_300 (by decide) ?_
              refine lv_iadd hx hb dL_law_301 ?_
              replace hF := ckI_some hF
              obtain ⟨hi_31, hF⟩ := hF
              refine va_sld hx hb hX hbl hbA hS hi_31 dL_law_302 ?_
              refine lv_aload_n hx hb dL_law_303 rfl (lv_at hl 3 rfl) ?_
              replace hF := bnd_some hF
              obtain ⟨z32, hz_32, hF⟩ := hF
              refine kwIE (kSW (hh := [(0, 12, 15, 13), (0, 12, 19, 15), (0, 12, 23, 17)]) (As := [.ref (h 0), .int (xs (x4_23 + 1).toNatClampNeg), .int (xs (x4_23 + 2).toNatClampNeg), .int (xs (x4_23 + 3).toNatClampNeg), .ref xo]) ⟨hx, hb, hml, hown, hts⟩ (kL_fill l D cy sa h m_day_23 m_coins_23 m_felts_23 m_made_23 m_worth_23 m_rags_23 m_water_23 m_pulp_23 m_beat_23 m_sort_23 m_nM_23 m_mark_23 m_size_23 m_worn_23 m_nT_23 m_skill_23 m_vat_23 m_pair_23 m_nQ_23 m_allS_23 m_pmark_23 m_pgrade_23 m_psheets_23 m_loft_23 t_day_23 t_coins_23 t_felts_23 t_made_23 t_worth_23 t_rags_23 t_water_23 t_pulp_23 t_beat_23 t_sort_23 t_nM_23 t_mark_23 t_size_23 t_worn_23 t_nT_23 t_skill_23 t_vat_23 t_pair_23 t_nQ_23 t_allS_23 t_pmark_23 t_pgrade_23 t_psheets_23 t_loft_23 xo lo_23 (xs (x4_23 + 1).toNatClampNeg) (xs (x4_23 + 2).toNatClampNeg) (xs (x4_23 + 3).toNatClampNeg) hst z32 hz_32 _) (vx_cwSW 5 hts gL_law_L_fill rfl rfl rfl (by decide +kernel) ⟨Nat.le_of_ble_eq_true rfl, Nat.le_of_ble_eq_true rfl⟩) hK hP hD hS hA hG [0, 1, 2, 3, 4, 5, 6, 7, 8, 9, 10, 11, 12, 13, 14, 15, 16, 17, 18, 19, 20, 21, 22, 23, 24, 25, 26, 27, 28, 29, 30, 31, 32, 33, 34, 35, 36, 37, 38, 39, 40, 49] hcW ndW rfl hl.1 [] rfl (Nat.le_of_ble_eq_true rfl) dL_law_304 ⟨(by show _ ≤ (601024 : Nat); omega), (by show _ ≤ (7293034 : Nat); omega)⟩) hP hD hS hA [0, 1, 2, 3, 4, 5, 6, 7, 8, 9, 10, 11, 12, 13, 14, 15, 16, 17, 18, 19, 20, 21, 22, 23, 24, 25, 26, 27, 28, 29, 30, 31, 32, 33, 34, 35, 36, 37, 38, 39, 40, 49] hcW hmW kpW (fun H locs hP hD hS => ?_)
              refine lv_istore (lv' := [(5, .int z32.1), (0, .ref b), (1, .ref (h 0)), (2, .ref (g 0)), (3, .ref xo), (4, .int x4_23)]) hx hb dL_law_307 hl (by decide) rfl (fun ls hl => ?_)
              refine lv_aload_n hx hb dL_law_309 rfl (lv_at hl 3 rfl) ?_
              refine lv_aload_n hx hb dL_law_310 rfl (lv_at hl 1 rfl) ?_
              refine lv_iload hx hb dL_law_311 (lv_at hl 5 rfl) ?_
              refine lv_iconst (v := 1) hx hb dL_law_313 (by decide) ?_
              refine lv_iadd hx hb dL_law_314 ?_
              replace hF := ckI_some hF
              obtain ⟨hi_33, hF⟩ := hF
              refine va_sld hx hb hX hbl hbA hS hi_33 dL_law_315 ?_
              refine lv_aload_n hx hb dL_law_316 rfl (lv_at hl 1 rfl) ?_
              refine lv_iload hx hb dL_law_317 (lv_at hl 5 rfl) ?_
              refine lv_iconst (v := 2) hx hb dL_law_319 (by decide) ?_
              refine lv_iadd hx hb dL_law_320 ?_
              replace hF := ckI_some hF
              obtain ⟨hi_34, hF⟩ := hF
              refine va_sld hx hb hX hbl hbA hS hi_34 dL_law_321 ?_
              refine lv_aload_n hx hb dL_law_322 rfl (lv_at hl 1 rfl) ?_
              refine lv_iload hx hb dL_law_323 (lv_at hl 5 rfl) ?_
              refine lv_iconst (v := 3) hx hb dL_law_325 (by decide) ?_
              refine lv_iadd hx hb dL_law_326 ?_
              replace hF := ckI_some hF
              obtain ⟨hi_35, hF⟩ := hF
              refine va_sld hx hb hX hbl hbA hS hi_35 dL_law_327 ?_
              replace hF := bnd_some hF
              obtain ⟨z36, hz_36, hF⟩ := hF
              refine kwIE (kV (As := [.int (xs (x4_23 + 1).toNatClampNeg), .int (xs (x4_23 + 2).toNatClampNeg), .int (xs (x4_23 + 3).toNatClampNeg)]) ⟨hx, hb, hml, hown, hts⟩ (kX6_fill l D cy sa g o_thrown_23 o_pairs_23 o_teams_23 o_water_23 o_vats_23 o_moulds_23 o_crews_23 o_posts_23 o_loft_23 o_nums_23 (xs (x4_23 + 1).toNatClampNeg) (xs (x4_23 + 2).toNatClampNeg) (xs (x4_23 + 3).toNatClampNeg) z36 hz_36 _) (cwV 3 hts gL_law_X6_fill rfl rfl rfl (by decide +kernel) ⟨Nat.le_of_ble_eq_true rfl, Nat.le_of_ble_eq_true rfl⟩) hK hP hD hS hA hG [41, 42, 43, 44, 45, 46, 47, 48] hcX5X6L_X6_41 ndX6_41 gtX6_0 rfl rfl rfl hl.1 [] rfl (Nat.le_of_ble_eq_true rfl) dL_law_328 ⟨(by show _ ≤ (601024 : Nat); omega), (by show _ ≤ (7293034 : Nat); omega)⟩) hP hD hS hA [41, 42, 43, 44, 45, 46, 47, 48] hcX5X6L_X6_41 hmX6 kpX5X6L_X6_41 (fun H locs hP hD hS => ?_)
              refine lv_istore (lv' := [(6, .int z36.1), (5, .int z32.1), (0, .ref b), (1, .ref (h 0)), (2, .ref (g 0)), (3, .ref xo), (4, .int x4_23)]) hx hb dL_law_331 hl (by decide) rfl (fun ls hl => ?_)
              refine lv_aload_n hx hb dL_law_333 rfl (lv_at hl 4 rfl) ?_
              replace hF := bnd_some hF
              obtain ⟨z37, hz_37, hF⟩ := hF
              refine krI (kV (As := []) ⟨hx, hb, hml, hown, hts⟩ (kX6_thrown l D cy sa g z36.2.1 o_pairs_23 o_teams_23 o_water_23 z36.2.2.1 o_moulds_23 o_crews_23 o_posts_23 o_loft_23 z36.2.2.2 z37 hz_37 _) (cwV 0 hts gL_law_X6_thrown rfl rfl rfl (by decide +kernel) ⟨Nat.le_of_ble_eq_true rfl, Nat.le_of_ble_eq_true rfl⟩) hK hP hD hS hA hG [41, 42, 43, 44, 45, 46, 47, 48] hcX5X6L_X6_41 ndX6_41 gtX6_0 rfl rfl rfl hl.1 [] rfl (Nat.le_of_ble_eq_true rfl) dL_law_334 ⟨(by show _ ≤ (601024 : Nat); omega), (by show _ ≤ (7293034 : Nat); omega)⟩) hP hD hS hA [41, 42, 43, 44, 45, 46, 47, 48] hcX5X6L_X6_41 (fun H locs hP hS => ?_)
              refine lv_iload hx hb dL_law_337 (lv_at hl 1 rfl) ?_
              refine lv_icmp_eq (tgt := 344) hx hb dL_law_339 (by decide) (fun c_38 => ?_) (fun c_38 => ?_)
              · replace hF := if_t hF c_38
                refine lv_iload hx hb dL_law_344 (lv_at hl 1 rfl) ?_
                refine lv_if_ne (tgt := 361) hx hb dL_law_346 (by decide) (fun c_39 => ?_) (fun c_39 => ?_)
                · replace hF := if_f hF c_39
                  refine lv_goto (tgt := 1447) hx hb dL_law_361 (by decide) ?_
                  refine lv_iinc (v := x4_23 + 4) (lv' := [(4, .int (x4_23 + 4)), (6, .int z36.1), (5, .int z32.1), (0, .ref b), (1, .ref (h 0)), (2, .ref (g 0)), (3, .ref xo)]) hx hb dL_law_1447 hl (k := 6) rfl rfl (by decide) rfl (fun ls hl => ?_)
                  refine lv_goto (tgt := 23) hx hb dL_law_1450 (by decide) ?_
                  exact ih  m_day_23 m_coins_23 m_felts_23 m_made_23 m_worth_23 z32.2.1 m_water_23 z32.2.2.1 z32.2.2.2.1 z32.2.2.2.2.1 m_nM_23 m_mark_23 m_size_23 m_worn_23 m_nT_23 m_skill_23 m_vat_23 m_pair_23 m_nQ_23 m_allS_23 m_pmark_23 m_pgrade_23 m_psheets_23 m_loft_23 t_day_23 t_coins_23 t_felts_23 t_made_23 t_worth_23 t_rags_23 t_water_23 t_pulp_23 t_beat_23 t_sort_23 t_nM_23 t_mark_23 t_size_23 t_worn_23 t_nT_23 t_skill_23 t_vat_23 t_pair_23 t_nQ_23 t_allS_23 t_pmark_23 t_pgrade_23 t_psheets_23 t_loft_23 z36.2.1 o_pairs_23 o_teams_23 o_water_23 z36.2.2.1 o_moulds_23 o_crews_23 o_posts_23 o_loft_23 z36.2.2.2 z32.2.2.2.2.2 (x4_23 + 4)  hF (cu + 1) (su + 6) (by omega) (by omega) _ _ _ hP hD hS (lv_sub hl [3, 4, 5, 6, 0] rfl)
                · replace hF := if_t hF c_39
                  refine lv_aload_n hx hb dL_law_349 rfl (lv_at hl 5 rfl) ?_
                  refine lv_iconst (v := 0) hx hb dL_law_350 (by decide) ?_
                  refine va_lald hx hb hK hP 49 2 gtX5X6L_49 rfl (show ¬ ((0 : Int32) < 0 ∨ 1 ≤ (0 : Int32).toNatClampNeg) from by decide) dL_law_351 ?_
                  refine lv_iload hx hb dL_law_352 (lv_at hl 0 rfl) ?_
                  refine lv_i2l hx hb dL_law_354 rfl ?_
                  refine W.lcmp hx hb dL_law_355 ?_
                  refine lv_if_eq (tgt := 361) hx hb dL_law_356 (by decide) (fun c_40 => ?_) (fun c_40 => ?_)
                  · replace hF := if_t hF c_40
                    refine lv_goto (tgt := 1447) hx hb dL_law_361 (by decide) ?_
                    refine lv_iinc (v := x4_23 + 4) (lv' := [(4, .int (x4_23 + 4)), (6, .int z36.1), (5, .int z32.1), (0, .ref b), (1, .ref (h 0)), (2, .ref (g 0)), (3, .ref xo)]) hx hb dL_law_1447 hl (k := 6) rfl rfl (by decide) rfl (fun ls hl => ?_)
                    refine lv_goto (tgt := 23) hx hb dL_law_1450 (by decide) ?_
                    exact ih  m_day_23 m_coins_23 m_felts_23 m_made_23 m_worth_23 z32.2.1 m_water_23 z32.2.2.1 z32.2.2.2.1 z32.2.2.2.2.1 m_nM_23 m_mark_23 m_size_23 m_worn_23 m_nT_23 m_skill_23 m_vat_23 m_pair_23 m_nQ_23 m_allS_23 m_pmark_23 m_pgrade_23 m_psheets_23 m_loft_23 t_day_23 t_coins_23 t_felts_23 t_made_23 t_worth_23 t_rags_23 t_water_23 t_pulp_23 t_beat_23 t_sort_23 t_nM_23 t_mark_23 t_size_23 t_worn_23 t_nT_23 t_skill_23 t_vat_23 t_pair_23 t_nQ_23 t_allS_23 t_pmark_23 t_pgrade_23 t_psheets_23 t_loft_23 z36.2.1 o_pairs_23 o_teams_23 o_water_23 z36.2.2.1 o_moulds_23 o_crews_23 o_posts_23 o_loft_23 z36.2.2.2 z32.2.2.2.2.2 (x4_23 + 4)  hF (cu + 1) (su + 6) (by omega) (by omega) _ _ _ hP hD hS (lv_sub hl [3, 4, 5, 6, 0] rfl)
                  · replace hF := if_f hF c_40
                    refine lv_iconst (v := 0) hx hb dL_law_359 (by decide) ?_
                    exact absurd (Option.some.inj hF) (by decide)
              · replace hF := if_f hF c_38
                refine lv_iconst (v := 0) hx hb dL_law_342 (by decide) ?_
                exact absurd (Option.some.inj hF) (by decide)
            · replace hF := if_f hF c_28
              by_cases c_41 : ((xs x4_23.toNatClampNeg) &&& 31).toInt = 3
              · replace hF := if_t hF c_41
                refine lv_tableIn (off := 325) (tgt := 364) hx hb dL_law_39 (fun h9 => c_3 (Or.inl h9)) (fun h9 => c_3 (Or.inr h9)) (by rw [c_41] <;> rfl) (by decide) ?_
                refine lv_aload_n hx hb dL_law_364 rfl (lv_at hl 1 rfl) ?_
                refine lv_aload_n hx hb dL_law_365 rfl (lv_at hl 0 rfl) ?_
                refine lv_iload hx hb dL_law_366 (lv_at hl 4 rfl) ?_
                refine lv_iconst (v := 1) hx hb dL_law_368 (by decide) ?_
                refine lv_iadd hx hb dL_law_369 ?_
                replace hF := ckI_some hF
                obtain ⟨hi_42, hF⟩ := hF
                refine va_sld hx hb hX hbl hbA hS hi_42 dL_law_370 ?_
                refine lv_aload_n hx hb dL_law_371 rfl (lv_at hl 3 rfl) ?_
                replace hF := bnd_some hF
                obtain ⟨z43, hz_43, hF⟩ := hF
                refine kwIE (kSW (hh := [(0, 9, 12, 13), (0, 9, 15, 17)]) (As := [.ref (h 0), .int (xs (x4_23 + 1).toNatClampNeg), .ref xo]) ⟨hx, hb, hml, hown, hts⟩ (kL_drain l D cy sa h m_day_23 m_coins_23 m_felts_23 m_made_23 m_worth_23 m_rags_23 m_water_23 m_pulp_23 m_beat_23 m_sort_23 m_nM_23 m_mark_23 m_size_23 m_worn_23 m_nT_23 m_skill_23 m_vat_23 m_pair_23 m_nQ_23 m_allS_23 m_pmark_23 m_pgrade_23 m_psheets_23 m_loft_23 t_day_23 t_coins_23 t_felts_23 t_made_23 t_worth_23 t_rags_23 t_water_23 t_pulp_23 t_beat_23 t_sort_23 t_nM_23 t_mark_23 t_size_23 t_worn_23 t_nT_23 t_skill_23 t_vat_23 t_pair_23 t_nQ_23 t_allS_23 t_pmark_23 t_pgrade_23 t_psheets_23 t_loft_23 xo lo_23 (xs (x4_23 + 1).toNatClampNeg) hst z43 hz_43 _) (vx_cwSW 3 hts gL_law_L_drain rfl rfl rfl (by decide +kernel) ⟨Nat.le_of_ble_eq_true rfl, Nat.le_of_ble_eq_true rfl⟩) hK hP hD hS hA hG [0, 1, 2, 3, 4, 5, 6, 7, 8, 9, 10, 11, 12, 13, 14, 15, 16, 17, 18, 19, 20, 21, 22, 23, 24, 25, 26, 27, 28, 29, 30, 31, 32, 33, 34, 35, 36, 37, 38, 39, 40, 49] hcW ndW rfl hl.1 [] rfl (Nat.le_of_ble_eq_true rfl) dL_law_372 ⟨(by show _ ≤ (601024 : Nat); omega), (by show _ ≤ (7293034 : Nat); omega)⟩) hP hD hS hA [0, 1, 2, 3, 4, 5, 6, 7, 8, 9, 10, 11, 12, 13, 14, 15, 16, 17, 18, 19, 20, 21, 22, 23, 24, 25, 26, 27, 28, 29, 30, 31, 32, 33, 34, 35, 36, 37, 38, 39, 40, 49] hcW hmW kpW (fun H locs hP hD hS => ?_)
                refine lv_istore (lv' := [(5, .int z43.1), (0, .ref b), (1, .ref (h 0)), (2, .ref (g 0)), (3, .ref xo), (4, .int x4_23)]) hx hb dL_law_375 hl (by decide) rfl (fun ls hl => ?_)
                refine lv_aload_n hx hb dL_law_377 rfl (lv_at hl 3 rfl) ?_
                refine lv_aload_n hx hb dL_law_378 rfl (lv_at hl 1 rfl) ?_
                refine lv_iload hx hb dL_law_379 (lv_at hl 5 rfl) ?_
                refine lv_iconst (v := 1) hx hb dL_law_381 (by decide) ?_
                refine lv_iadd hx hb dL_law_382 ?_
                replace hF := ckI_some hF
                obtain ⟨hi_44, hF⟩ := hF
                refine va_sld hx hb hX hbl hbA hS hi_44 dL_law_383 ?_
                replace hF := bnd_some hF
                obtain ⟨z45, hz_45, hF⟩ := hF
                refine kwIE (kV (As := [.int (xs (x4_23 + 1).toNatClampNeg)]) ⟨hx, hb, hml, hown, hts⟩ (kX6_drain l D cy sa g o_thrown_23 o_pairs_23 o_teams_23 o_water_23 o_vats_23 o_moulds_23 o_crews_23 o_posts_23 o_loft_23 o_nums_23 (xs (x4_23 + 1).toNatClampNeg) z45 hz_45 _) (cwV 1 hts gL_law_X6_drain rfl rfl rfl (by decide +kernel) ⟨Nat.le_of_ble_eq_true rfl, Nat.le_of_ble_eq_true rfl⟩) hK hP hD hS hA hG [41, 42, 43, 44, 45, 46, 47, 48] hcX5X6L_X6_41 ndX6_41 gtX6_0 rfl rfl rfl hl.1 [] rfl (Nat.le_of_ble_eq_true rfl) dL_law_384 ⟨(by show _ ≤ (601024 : Nat); omega), (by show _ ≤ (7293034 : Nat); omega)⟩) hP hD hS hA [41, 42, 43, 44, 45, 46, 47, 48] hcX5X6L_X6_41 hmX6 kpX5X6L_X6_41 (fun H locs hP hD hS => ?_)
                refine lv_istore (lv' := [(6, .int z45.1), (5, .int z43.1), (0, .ref b), (1, .ref (h 0)), (2, .ref (g 0)), (3, .ref xo), (4, .int x4_23)]) hx hb dL_law_387 hl (by decide) rfl (fun ls hl => ?_)
                refine lv_aload_n hx hb dL_law_389 rfl (lv_at hl 4 rfl) ?_
                replace hF := bnd_some hF
                obtain ⟨z46, hz_46, hF⟩ := hF
                refine krI (kV (As := []) ⟨hx, hb, hml, hown, hts⟩ (kX6_thrown l D cy sa g z45.2.1 o_pairs_23 o_teams_23 o_water_23 z45.2.2 o_moulds_23 o_crews_23 o_posts_23 o_loft_23 o_nums_23 z46 hz_46 _) (cwV 0 hts gL_law_X6_thrown rfl rfl rfl (by decide +kernel) ⟨Nat.le_of_ble_eq_true rfl, Nat.le_of_ble_eq_true rfl⟩) hK hP hD hS hA hG [41, 42, 43, 44, 45, 46, 47, 48] hcX5X6L_X6_41 ndX6_41 gtX6_0 rfl rfl rfl hl.1 [] rfl (Nat.le_of_ble_eq_true rfl) dL_law_390 ⟨(by show _ ≤ (601024 : Nat); omega), (by show _ ≤ (7293034 : Nat); omega)⟩) hP hD hS hA [41, 42, 43, 44, 45, 46, 47, 48] hcX5X6L_X6_41 (fun H locs hP hS => ?_)
                refine lv_iload hx hb dL_law_393 (lv_at hl 1 rfl) ?_
                refine lv_icmp_eq (tgt := 400) hx hb dL_law_395 (by decide) (fun c_47 => ?_) (fun c_47 => ?_)
                · replace hF := if_t hF c_47
                  refine lv_iload hx hb dL_law_400 (lv_at hl 1 rfl) ?_
                  refine lv_if_ne (tgt := 417) hx hb dL_law_402 (by decide) (fun c_48 => ?_) (fun c_48 => ?_)
                  · replace hF := if_f hF c_48
                    refine lv_goto (tgt := 1447) hx hb dL_law_417 (by decide) ?_
                    refine lv_iinc (v := x4_23 + 4) (lv' := [(4, .int (x4_23 + 4)), (6, .int z45.1), (5, .int z43.1), (0, .ref b), (1, .ref (h 0)), (2, .ref (g 0)), (3, .ref xo)]) hx hb dL_law_1447 hl (k := 6) rfl rfl (by decide) rfl (fun ls hl => ?_)
                    refine lv_goto (tgt := 23) hx hb dL_law_1450 (by decide) ?_
                    exact ih  m_day_23 m_coins_23 m_felts_23 m_made_23 m_worth_23 m_rags_23 m_water_23 z43.2.1 z43.2.2.1 z43.2.2.2.1 m_nM_23 m_mark_23 m_size_23 m_worn_23 m_nT_23 m_skill_23 m_vat_23 m_pair_23 m_nQ_23 m_allS_23 m_pmark_23 m_pgrade_23 m_psheets_23 m_loft_23 t_day_23 t_coins_23 t_felts_23 t_made_23 t_worth_23 t_rags_23 t_water_23 t_pulp_23 t_beat_23 t_sort_23 t_nM_23 t_mark_23 t_size_23 t_worn_23 t_nT_23 t_skill_23 t_vat_23 t_pair_23 t_nQ_23 t_allS_23 t_pmark_23 t_pgrade_23 t_psheets_23 t_loft_23 z45.2.1 o_pairs_23 o_teams_23 o_water_23 z45.2.2 o_moulds_23 o_crews_23 o_posts_23 o_loft_23 o_nums_23 z43.2.2.2.2 (x4_23 + 4)  hF (cu + 1) (su + 6) (by omega) (by omega) _ _ _ hP hD hS (lv_sub hl [3, 4, 5, 6, 0] rfl)
                  · replace hF := if_t hF c_48
                    refine lv_aload_n hx hb dL_law_405 rfl (lv_at hl 5 rfl) ?_
                    refine lv_iconst (v := 0) hx hb dL_law_406 (by decide) ?_
                    refine va_lald hx hb hK hP 49 2 gtX5X6L_49 rfl (show ¬ ((0 : Int32) < 0 ∨ 1 ≤ (0 : Int32).toNatClampNeg) from by decide) dL_law_407 ?_
                    refine lv_iload hx hb dL_law_408 (lv_at hl 0 rfl) ?_
                    refine lv_i2l hx hb dL_law_410 rfl ?_
                    refine W.lcmp hx hb dL_law_411 ?_
                    refine lv_if_eq (tgt := 417) hx hb dL_law_412 (by decide) (fun c_49 => ?_) (fun c_49 => ?_)
                    · replace hF := if_t hF c_49
                      refine lv_goto (tgt := 1447) hx hb dL_law_417 (by decide) ?_
                      refine lv_iinc (v := x4_23 + 4) (lv' := [(4, .int (x4_23 + 4)), (6, .int z45.1), (5, .int z43.1), (0, .ref b), (1, .ref (h 0)), (2, .ref (g 0)), (3, .ref xo)]) hx hb dL_law_1447 hl (k := 6) rfl rfl (by decide) rfl (fun ls hl => ?_)
                      refine lv_goto (tgt := 23) hx hb dL_law_1450 (by decide) ?_
                      exact ih  m_day_23 m_coins_23 m_felts_23 m_made_23 m_worth_23 m_rags_23 m_water_23 z43.2.1 z43.2.2.1 z43.2.2.2.1 m_nM_23 m_mark_23 m_size_23 m_worn_23 m_nT_23 m_skill_23 m_vat_23 m_pair_23 m_nQ_23 m_allS_23 m_pmark_23 m_pgrade_23 m_psheets_23 m_loft_23 t_day_23 t_coins_23 t_felts_23 t_made_23 t_worth_23 t_rags_23 t_water_23 t_pulp_23 t_beat_23 t_sort_23 t_nM_23 t_mark_23 t_size_23 t_worn_23 t_nT_23 t_skill_23 t_vat_23 t_pair_23 t_nQ_23 t_allS_23 t_pmark_23 t_pgrade_23 t_psheets_23 t_loft_23 z45.2.1 o_pairs_23 o_teams_23 o_water_23 z45.2.2 o_moulds_23 o_crews_23 o_posts_23 o_loft_23 o_nums_23 z43.2.2.2.2 (x4_23 + 4)  hF (cu + 1) (su + 6) (by omega) (by omega) _ _ _ hP hD hS (lv_sub hl [3, 4, 5, 6, 0] rfl)
                    · replace hF := if_f hF c_49
                      refine lv_iconst (v := 0) hx hb dL_law_415 (by decide) ?_
                      exact absurd (Option.some.inj hF) (by decide)
                · replace hF := if_f hF c_47
                  refine lv_iconst (v := 0) hx hb dL_law_398 (by decide) ?_
                  exact absurd (Option.some.inj hF) (by decide)
              · replace hF := if_f hF c_41
                by_cases c_50 : ((xs x4_23.toNatClampNeg) &&& 31).toInt = 4
                · replace hF := if_t hF c_50
                  refine lv_tableIn (off := 381) (tgt := 420) hx hb dL_law_39 (fun h9 => c_3 (Or.inl h9)) (fun h9 => c_3 (Or.inr h9)) (by rw [c_50] <;> rfl) (by decide) ?_
                  refine lv_aload_n hx hb dL_law_420 rfl (lv_at hl 1 rfl) ?_
                  refine lv_aload_n hx hb dL_law_421 rfl (lv_at hl 0 rfl) ?_
                  refine lv_iload hx hb dL_law_422 (lv_at hl 4 rfl) ?_
                  refine lv_iconst (v := 1) hx hb dL_law_424 (by decide) ?_
                  refine lv_iadd hx hb dL_law_425 ?_
                  replace hF := ckI_some hF
                  obtain ⟨hi_51, hF⟩ := hF
                  refine va_sld hx hb hX hbl hbA hS hi_51 dL_law_426 ?_
                  refine lv_aload_n hx hb dL_law_427 rfl (lv_at hl 0 rfl) ?_
                  refine lv_iload hx hb dL_law_428 (lv_at hl 4 rfl) ?_
                  refine lv_iconst (v := 2) hx hb dL_law_430 (by decide) ?_
                  refine lv_iadd hx hb dL_law_431 ?_
                  replace hF := ckI_some hF
                  obtain ⟨hi_52, hF⟩ := hF
                  refine va_sld hx hb hX hbl hbA hS hi_52 dL_law_432 ?_
                  refine lv_aload_n hx hb dL_law_433 rfl (lv_at hl 3 rfl) ?_
                  replace hF := bnd_some hF
                  obtain ⟨z53, hz_53, hF⟩ := hF
                  refine kwIE (kSW (hh := [(0, 10, 13, 13), (0, 10, 17, 15), (0, 10, 21, 17)]) (As := [.ref (h 0), .int (xs (x4_23 + 1).toNatClampNeg), .int (xs (x4_23 + 2).toNatClampNeg), .ref xo]) ⟨hx, hb, hml, hown, hts⟩ (kL_pair l D cy sa h m_day_23 m_coins_23 m_felts_23 m_made_23 m_worth_23 m_rags_23 m_water_23 m_pulp_23 m_beat_23 m_sort_23 m_nM_23 m_mark_23 m_size_23 m_worn_23 m_nT_23 m_skill_23 m_vat_23 m_pair_23 m_nQ_23 m_allS_23 m_pmark_23 m_pgrade_23 m_psheets_23 m_loft_23 t_day_23 t_coins_23 t_felts_23 t_made_23 t_worth_23 t_rags_23 t_water_23 t_pulp_23 t_beat_23 t_sort_23 t_nM_23 t_mark_23 t_size_23 t_worn_23 t_nT_23 t_skill_23 t_vat_23 t_pair_23 t_nQ_23 t_allS_23 t_pmark_23 t_pgrade_23 t_psheets_23 t_loft_23 xo lo_23 (xs (x4_23 + 1).toNatClampNeg) (xs (x4_23 + 2).toNatClampNeg) hst z53 hz_53 _) (vx_cwSW 4 hts gL_law_L_pair rfl rfl rfl (by decide +kernel) ⟨Nat.le_of_ble_eq_true rfl, Nat.le_of_ble_eq_true rfl⟩) hK hP hD hS hA hG [0, 1, 2, 3, 4, 5, 6, 7, 8, 9, 10, 11, 12, 13, 14, 15, 16, 17, 18, 19, 20, 21, 22, 23, 24, 25, 26, 27, 28, 29, 30, 31, 32, 33, 34, 35, 36, 37, 38, 39, 40, 49] hcW ndW rfl hl.1 [] rfl (Nat.le_of_ble_eq_true rfl) dL_law_434 ⟨(by show _ ≤ (601024 : Nat); omega), (by show _ ≤ (7293034 : Nat); omega)⟩) hP hD hS hA [0, 1, 2, 3, 4, 5, 6, 7, 8, 9, 10, 11, 12, 13, 14, 15, 16, 17, 18, 19, 20, 21, 22, 23, 24, 25, 26, 27, 28, 29, 30, 31, 32, 33, 34, 35, 36, 37, 38, 39, 40, 49] hcW hmW kpW (fun H locs hP hD hS => ?_)
                  refine lv_istore (lv' := [(5, .int z53.1), (0, .ref b), (1, .ref (h 0)), (2, .ref (g 0)), (3, .ref xo), (4, .int x4_23)]) hx hb dL_law_437 hl (by decide) rfl (fun ls hl => ?_)
                  refine lv_aload_n hx hb dL_law_439 rfl (lv_at hl 3 rfl) ?_
                  refine lv_aload_n hx hb dL_law_440 rfl (lv_at hl 1 rfl) ?_
                  refine lv_iload hx hb dL_law_441 (lv_at hl 5 rfl) ?_
                  refine lv_iconst (v := 1) hx hb dL_law_443 (by decide) ?_
                  refine lv_iadd hx hb dL_law_444 ?_
                  replace hF := ckI_some hF
                  obtain ⟨hi_54, hF⟩ := hF
                  refine va_sld hx hb hX hbl hbA hS hi_54 dL_law_445 ?_
                  refine lv_aload_n hx hb dL_law_446 rfl (lv_at hl 1 rfl) ?_
                  refine lv_iload hx hb dL_law_447 (lv_at hl 5 rfl) ?_
                  refine lv_iconst (v := 2) hx hb dL_law_449 (by decide) ?_
                  refine lv_iadd hx hb dL_law_450 ?_
                  replace hF := ckI_some hF
                  obtain ⟨hi_55, hF⟩ := hF
                  refine va_sld hx hb hX hbl hbA hS hi_55 dL_law_451 ?_
                  replace hF := bnd_some hF
                  obtain ⟨z56, hz_56, hF⟩ := hF
                  refine kwIE (kV (As := [.int (xs (x4_23 + 1).toNatClampNeg), .int (xs (x4_23 + 2).toNatClampNeg)]) ⟨hx, hb, hml, hown, hts⟩ (kX6_pair l D cy sa g o_thrown_23 o_pairs_23 o_teams_23 o_water_23 o_vats_23 o_moulds_23 o_crews_23 o_posts_23 o_loft_23 o_nums_23 (xs (x4_23 + 1).toNatClampNeg) (xs (x4_23 + 2).toNatClampNeg) z56 hz_56 _) (cwV 2 hts gL_law_X6_pair rfl rfl rfl (by decide +kernel) ⟨Nat.le_of_ble_eq_true rfl, Nat.le_of_ble_eq_true rfl⟩) hK hP hD hS hA hG [41, 42, 43, 44, 45, 46, 47, 48] hcX5X6L_X6_41 ndX6_41 gtX6_0 rfl rfl rfl hl.1 [] rfl (Nat.le_of_ble_eq_true rfl) dL_law_452 ⟨(by show _ ≤ (601024 : Nat); omega), (by show _ ≤ (7293034 : Nat); omega)⟩) hP hD hS hA [41, 42, 43, 44, 45, 46, 47, 48] hcX5X6L_X6_41 hmX6 kpX5X6L_X6_41 (fun H locs hP hD hS => ?_)
                  refine lv_istore (lv' := [(6, .int z56.1), (5, .int z53.1), (0, .ref b), (1, .ref (h 0)), (2, .ref (g 0)), (3, .ref xo), (4, .int x4_23)]) hx hb dL_law_455 hl (by decide) rfl (fun ls hl => ?_)
                  refine lv_aload_n hx hb dL_law_457 rfl (lv_at hl 4 rfl) ?_
                  replace hF := bnd_some hF
                  obtain ⟨z57, hz_57, hF⟩ := hF
                  refine krI (kV (As := []) ⟨hx, hb, hml, hown, hts⟩ (kX6_thrown l D cy sa g z56.2.1 z56.2.2.1 o_teams_23 o_water_23 o_vats_23 z56.2.2.2 o_crews_23 o_posts_23 o_loft_23 o_nums_23 z57 hz_57 _) (cwV 0 hts gL_law_X6_thrown rfl rfl rfl (by decide +kernel) ⟨Nat.le_of_ble_eq_true rfl, Nat.le_of_ble_eq_true rfl⟩) hK hP hD hS hA hG [41, 42, 43, 44, 45, 46, 47, 48] hcX5X6L_X6_41 ndX6_41 gtX6_0 rfl rfl rfl hl.1 [] rfl (Nat.le_of_ble_eq_true rfl) dL_law_458 ⟨(by show _ ≤ (601024 : Nat); omega), (by show _ ≤ (7293034 : Nat); omega)⟩) hP hD hS hA [41, 42, 43, 44, 45, 46, 47, 48] hcX5X6L_X6_41 (fun H locs hP hS => ?_)
                  refine lv_iload hx hb dL_law_461 (lv_at hl 1 rfl) ?_
                  refine lv_icmp_eq (tgt := 468) hx hb dL_law_463 (by decide) (fun c_58 => ?_) (fun c_58 => ?_)
                  · replace hF := if_t hF c_58
                    refine lv_iload hx hb dL_law_468 (lv_at hl 1 rfl) ?_
                    refine lv_if_ne (tgt := 485) hx hb dL_law_470 (by decide) (fun c_59 => ?_) (fun c_59 => ?_)
                    · replace hF := if_f hF c_59
                      refine lv_goto (tgt := 1447) hx hb dL_law_485 (by decide) ?_
                      refine lv_iinc (v := x4_23 + 4) (lv' := [(4, .int (x4_23 + 4)), (6, .int z56.1), (5, .int z53.1), (0, .ref b), (1, .ref (h 0)), (2, .ref (g 0)), (3, .ref xo)]) hx hb dL_law_1447 hl (k := 6) rfl rfl (by decide) rfl (fun ls hl => ?_)
                      refine lv_goto (tgt := 23) hx hb dL_law_1450 (by decide) ?_
                      exact ih  m_day_23 m_coins_23 m_felts_23 m_made_23 m_worth_23 m_rags_23 m_water_23 m_pulp_23 m_beat_23 m_sort_23 z53.2.1 z53.2.2.1 z53.2.2.2.1 z53.2.2.2.2.1 m_nT_23 m_skill_23 m_vat_23 m_pair_23 m_nQ_23 m_allS_23 m_pmark_23 m_pgrade_23 m_psheets_23 m_loft_23 t_day_23 t_coins_23 t_felts_23 t_made_23 t_worth_23 t_rags_23 t_water_23 t_pulp_23 t_beat_23 t_sort_23 t_nM_23 t_mark_23 t_size_23 t_worn_23 t_nT_23 t_skill_23 t_vat_23 t_pair_23 t_nQ_23 t_allS_23 t_pmark_23 t_pgrade_23 t_psheets_23 t_loft_23 z56.2.1 z56.2.2.1 o_teams_23 o_water_23 o_vats_23 z56.2.2.2 o_crews_23 o_posts_23 o_loft_23 o_nums_23 z53.2.2.2.2.2 (x4_23 + 4)  hF (cu + 1) (su + 6) (by omega) (by omega) _ _ _ hP hD hS (lv_sub hl [3, 4, 5, 6, 0] rfl)
                    · replace hF := if_t hF c_59
                      refine lv_aload_n hx hb dL_law_473 rfl (lv_at hl 5 rfl) ?_
                      refine lv_iconst (v := 0) hx hb dL_law_474 (by decide) ?_
                      refine va_lald hx hb hK hP 49 2 gtX5X6L_49 rfl (show ¬ ((0 : Int32) < 0 ∨ 1 ≤ (0 : Int32).toNatClampNeg) from by decide) dL_law_475 ?_
                      refine lv_iload hx hb dL_law_476 (lv_at hl 0 rfl) ?_
                      refine lv_i2l hx hb dL_law_478 rfl ?_
                      refine W.lcmp hx hb dL_law_479 ?_
                      refine lv_if_eq (tgt := 485) hx hb dL_law_480 (by decide) (fun c_60 => ?_) (fun c_60 => ?_)
                      · replace hF := if_t hF c_60
                        refine lv_goto (tgt := 1447) hx hb dL_law_485 (by decide) ?_
                        refine lv_iinc (v := x4_23 + 4) (lv' := [(4, .int (x4_23 + 4)), (6, .int z56.1), (5, .int z53.1), (0, .ref b), (1, .ref (h 0)), (2, .ref (g 0)), (3, .ref xo)]) hx hb dL_law_1447 hl (k := 6) rfl rfl (by decide) rfl (fun ls hl => ?_)
                        refine lv_goto (tgt := 23) hx hb dL_law_1450 (by decide) ?_
                        exact ih  m_day_23 m_coins_23 m_felts_23 m_made_23 m_worth_23 m_rags_23 m_water_23 m_pulp_23 m_beat_23 m_sort_23 z53.2.1 z53.2.2.1 z53.2.2.2.1 z53.2.2.2.2.1 m_nT_23 m_skill_23 m_vat_23 m_pair_23 m_nQ_23 m_allS_23 m_pmark_23 m_pgrade_23 m_psheets_23 m_loft_23 t_day_23 t_coins_23 t_felts_23 t_made_23 t_worth_23 t_rags_23 t_water_23 t_pulp_23 t_beat_23 t_sort_23 t_nM_23 t_mark_23 t_size_23 t_worn_23 t_nT_23 t_skill_23 t_vat_23 t_pair_23 t_nQ_23 t_allS_23 t_pmark_23 t_pgrade_23 t_psheets_23 t_loft_23 z56.2.1 z56.2.2.1 o_teams_23 o_water_23 o_vats_23 z56.2.2.2 o_crews_23 o_posts_23 o_loft_23 o_nums_23 z53.2.2.2.2.2 (x4_23 + 4)  hF (cu + 1) (su + 6) (by omega) (by omega) _ _ _ hP hD hS (lv_sub hl [3, 4, 5, 6, 0] rfl)
                      · replace hF := if_f hF c_60
                        refine lv_iconst (v := 0) hx hb dL_law_483 (by decide) ?_
                        exact absurd (Option.some.inj hF) (by decide)
                  · replace hF := if_f hF c_58
                    refine lv_iconst (v := 0) hx hb dL_law_466 (by decide) ?_
                    exact absurd (Option.some.inj hF) (by decide)
                · replace hF := if_f hF c_50
                  by_cases c_61 : ((xs x4_23.toNatClampNeg) &&& 31).toInt = 5
                  · replace hF := if_t hF c_61
                    refine lv_tableIn (off := 449) (tgt := 488) hx hb dL_law_39 (fun h9 => c_3 (Or.inl h9)) (fun h9 => c_3 (Or.inr h9)) (by rw [c_61] <;> rfl) (by decide) ?_
                    refine lv_aload_n hx hb dL_law_488 rfl (lv_at hl 1 rfl) ?_
                    refine lv_aload_n hx hb dL_law_489 rfl (lv_at hl 0 rfl) ?_
                    refine lv_iload hx hb dL_law_490 (lv_at hl 4 rfl) ?_
                    refine lv_iconst (v := 1) hx hb dL_law_492 (by decide) ?_
                    refine lv_iadd hx hb dL_law_493 ?_
                    replace hF := ckI_some hF
                    obtain ⟨hi_62, hF⟩ := hF
                    refine va_sld hx hb hX hbl hbA hS hi_62 dL_law_494 ?_
                    refine lv_aload_n hx hb dL_law_495 rfl (lv_at hl 3 rfl) ?_
                    replace hF := bnd_some hF
                    obtain ⟨z63, hz_63, hF⟩ := hF
                    refine kwIE (kSW (hh := [(0, 9, 12, 13), (0, 9, 15, 17)]) (As := [.ref (h 0), .int (xs (x4_23 + 1).toNatClampNeg), .ref xo]) ⟨hx, hb, hml, hown, hts⟩ (kL_wire l D cy sa h m_day_23 m_coins_23 m_felts_23 m_made_23 m_worth_23 m_rags_23 m_water_23 m_pulp_23 m_beat_23 m_sort_23 m_nM_23 m_mark_23 m_size_23 m_worn_23 m_nT_23 m_skill_23 m_vat_23 m_pair_23 m_nQ_23 m_allS_23 m_pmark_23 m_pgrade_23 m_psheets_23 m_loft_23 t_day_23 t_coins_23 t_felts_23 t_made_23 t_worth_23 t_rags_23 t_water_23 t_pulp_23 t_beat_23 t_sort_23 t_nM_23 t_mark_23 t_size_23 t_worn_23 t_nT_23 t_skill_23 t_vat_23 t_pair_23 t_nQ_23 t_allS_23 t_pmark_23 t_pgrade_23 t_psheets_23 t_loft_23 xo lo_23 (xs (x4_23 + 1).toNatClampNeg) hst z63 hz_63 _) (vx_cwSW 3 hts gL_law_L_wire rfl rfl rfl (by decide +kernel) ⟨Nat.le_of_ble_eq_true rfl, Nat.le_of_ble_eq_true rfl⟩) hK hP hD hS hA hG [0, 1, 2, 3, 4, 5, 6, 7, 8, 9, 10, 11, 12, 13, 14, 15, 16, 17, 18, 19, 20, 21, 22, 23, 24, 25, 26, 27, 28, 29, 30, 31, 32, 33, 34, 35, 36, 37, 38, 39, 40, 49] hcW ndW rfl hl.1 [] rfl (Nat.le_of_ble_eq_true rfl) dL_law_496 ⟨(by show _ ≤ (601024 : Nat); omega), (by show _ ≤ (7293034 : Nat); omega)⟩) hP hD hS hA [0, 1, 2, 3, 4, 5, 6, 7, 8, 9, 10, 11, 12, 13, 14, 15, 16, 17, 18, 19, 20, 21, 22, 23, 24, 25, 26, 27, 28, 29, 30, 31, 32, 33, 34, 35, 36, 37, 38, 39, 40, 49] hcW hmW kpW (fun H locs hP hD hS => ?_)
                    refine lv_istore (lv' := [(5, .int z63.1), (0, .ref b), (1, .ref (h 0)), (2, .ref (g 0)), (3, .ref xo), (4, .int x4_23)]) hx hb dL_law_499 hl (by decide) rfl (fun ls hl => ?_)
                    refine lv_aload_n hx hb dL_law_501 rfl (lv_at hl 3 rfl) ?_
                    refine lv_aload_n hx hb dL_law_502 rfl (lv_at hl 1 rfl) ?_
                    refine lv_iload hx hb dL_law_503 (lv_at hl 5 rfl) ?_
                    refine lv_iconst (v := 1) hx hb dL_law_505 (by decide) ?_
                    refine lv_iadd hx hb dL_law_506 ?_
                    replace hF := ckI_some hF
                    obtain ⟨hi_64, hF⟩ := hF
                    refine va_sld hx hb hX hbl hbA hS hi_64 dL_law_507 ?_
                    replace hF := bnd_some hF
                    obtain ⟨z65, hz_65, hF⟩ := hF
                    refine kwIE (kV (As := [.int (xs (x4_23 + 1).toNatClampNeg)]) ⟨hx, hb, hml, hown, hts⟩ (kX6_wire l D cy sa g o_thrown_23 o_pairs_23 o_teams_23 o_water_23 o_vats_23 o_moulds_23 o_crews_23 o_posts_23 o_loft_23 o_nums_23 (xs (x4_23 + 1).toNatClampNeg) z65 hz_65 _) (cwV 1 hts gL_law_X6_wire rfl rfl rfl (by decide +kernel) ⟨Nat.le_of_ble_eq_true rfl, Nat.le_of_ble_eq_true rfl⟩) hK hP hD hS hA hG [41, 42, 43, 44, 45, 46, 47, 48] hcX5X6L_X6_41 ndX6_41 gtX6_0 rfl rfl rfl hl.1 [] rfl (Nat.le_of_ble_eq_true rfl) dL_law_508 ⟨(by show _ ≤ (601024 : Nat); omega), (by show _ ≤ (7293034 : Nat); omega)⟩) hP hD hS hA [41, 42, 43, 44, 45, 46, 47, 48] hcX5X6L_X6_41 hmX6 kpX5X6L_X6_41 (fun H locs hP hD hS => ?_)
                    refine lv_istore (lv' := [(6, .int z65.1), (5, .int z63.1), (0, .ref b), (1, .ref (h 0)), (2, .ref (g 0)), (3, .ref xo), (4, .int x4_23)]) hx hb dL_law_511 hl (by decide) rfl (fun ls hl => ?_)
                    refine lv_aload_n hx hb dL_law_513 rfl (lv_at hl 4 rfl) ?_
                    replace hF := bnd_some hF
                    obtain ⟨z66, hz_66, hF⟩ := hF
                    refine krI (kV (As := []) ⟨hx, hb, hml, hown, hts⟩ (kX6_thrown l D cy sa g z65.2.1 o_pairs_23 o_teams_23 o_water_23 o_vats_23 z65.2.2.1 o_crews_23 o_posts_23 o_loft_23 z65.2.2.2 z66 hz_66 _) (cwV 0 hts gL_law_X6_thrown rfl rfl rfl (by decide +kernel) ⟨Nat.le_of_ble_eq_true rfl, Nat.le_of_ble_eq_true rfl⟩) hK hP hD hS hA hG [41, 42, 43, 44, 45, 46, 47, 48] hcX5X6L_X6_41 ndX6_41 gtX6_0 rfl rfl rfl hl.1 [] rfl (Nat.le_of_ble_eq_true rfl) dL_law_514 ⟨(by show _ ≤ (601024 : Nat); omega), (by show _ ≤ (7293034 : Nat); omega)⟩) hP hD hS hA [41, 42, 43, 44, 45, 46, 47, 48] hcX5X6L_X6_41 (fun H locs hP hS => ?_)
                    refine lv_iload hx hb dL_law_517 (lv_at hl 1 rfl) ?_
                    refine lv_icmp_eq (tgt := 524) hx hb dL_law_519 (by decide) (fun c_67 => ?_) (fun c_67 => ?_)
                    · replace hF := if_t hF c_67
                      refine lv_iload hx hb dL_law_524 (lv_at hl 1 rfl) ?_
                      refine lv_if_ne (tgt := 541) hx hb dL_law_526 (by decide) (fun c_68 => ?_) (fun c_68 => ?_)
                      · replace hF := if_f hF c_68
                        refine lv_goto (tgt := 1447) hx hb dL_law_541 (by decide) ?_
                        refine lv_iinc (v := x4_23 + 4) (lv' := [(4, .int (x4_23 + 4)), (6, .int z65.1), (5, .int z63.1), (0, .ref b), (1, .ref (h 0)), (2, .ref (g 0)), (3, .ref xo)]) hx hb dL_law_1447 hl (k := 6) rfl rfl (by decide) rfl (fun ls hl => ?_)
                        refine lv_goto (tgt := 23) hx hb dL_law_1450 (by decide) ?_
                        exact ih  m_day_23 z63.2.1 m_felts_23 m_made_23 m_worth_23 m_rags_23 m_water_23 m_pulp_23 m_beat_23 m_sort_23 m_nM_23 m_mark_23 m_size_23 z63.2.2.1 m_nT_23 m_skill_23 m_vat_23 m_pair_23 m_nQ_23 m_allS_23 m_pmark_23 m_pgrade_23 m_psheets_23 m_loft_23 t_day_23 t_coins_23 t_felts_23 t_made_23 t_worth_23 t_rags_23 t_water_23 t_pulp_23 t_beat_23 t_sort_23 t_nM_23 t_mark_23 t_size_23 t_worn_23 t_nT_23 t_skill_23 t_vat_23 t_pair_23 t_nQ_23 t_allS_23 t_pmark_23 t_pgrade_23 t_psheets_23 t_loft_23 z65.2.1 o_pairs_23 o_teams_23 o_water_23 o_vats_23 z65.2.2.1 o_crews_23 o_posts_23 o_loft_23 z65.2.2.2 z63.2.2.2 (x4_23 + 4)  hF (cu + 1) (su + 6) (by omega) (by omega) _ _ _ hP hD hS (lv_sub hl [3, 4, 5, 6, 0] rfl)
                      · replace hF := if_t hF c_68
                        refine lv_aload_n hx hb dL_law_529 rfl (lv_at hl 5 rfl) ?_
                        refine lv_iconst (v := 0) hx hb dL_law_530 (by decide) ?_
                        refine va_lald hx hb hK hP 49 2 gtX5X6L_49 rfl (show ¬ ((0 : Int32) < 0 ∨ 1 ≤ (0 : Int32).toNatClampNeg) from by decide) dL_law_531 ?_
                        refine lv_iload hx hb dL_law_532 (lv_at hl 0 rfl) ?_
                        refine lv_i2l hx hb dL_law_534 rfl ?_
                        refine W.lcmp hx hb dL_law_535 ?_
                        refine lv_if_eq (tgt := 541) hx hb dL_law_536 (by decide) (fun c_69 => ?_) (fun c_69 => ?_)
                        · replace hF := if_t hF c_69
                          refine lv_goto (tgt := 1447) hx hb dL_law_541 (by decide) ?_
                          refine lv_iinc (v := x4_23 + 4) (lv' := [(4, .int (x4_23 + 4)), (6, .int z65.1), (5, .int z63.1), (0, .ref b), (1, .ref (h 0)), (2, .ref (g 0)), (3, .ref xo)]) hx hb dL_law_1447 hl (k := 6) rfl rfl (by decide) rfl (fun ls hl => ?_)
                          refine lv_goto (tgt := 23) hx hb dL_law_1450 (by decide) ?_
                          exact ih  m_day_23 z63.2.1 m_felts_23 m_made_23 m_worth_23 m_rags_23 m_water_23 m_pulp_23 m_beat_23 m_sort_23 m_nM_23 m_mark_23 m_size_23 z63.2.2.1 m_nT_23 m_skill_23 m_vat_23 m_pair_23 m_nQ_23 m_allS_23 m_pmark_23 m_pgrade_23 m_psheets_23 m_loft_23 t_day_23 t_coins_23 t_felts_23 t_made_23 t_worth_23 t_rags_23 t_water_23 t_pulp_23 t_beat_23 t_sort_23 t_nM_23 t_mark_23 t_size_23 t_worn_23 t_nT_23 t_skill_23 t_vat_23 t_pair_23 t_nQ_23 t_allS_23 t_pmark_23 t_pgrade_23 t_psheets_23 t_loft_23 z65.2.1 o_pairs_23 o_teams_23 o_water_23 o_vats_23 z65.2.2.1 o_crews_23 o_posts_23 o_loft_23 z65.2.2.2 z63.2.2.2 (x4_23 + 4)  hF (cu + 1) (su + 6) (by omega) (by omega) _ _ _ hP hD hS (lv_sub hl [3, 4, 5, 6, 0] rfl)
                        · replace hF := if_f hF c_69
                          refine lv_iconst (v := 0) hx hb dL_law_539 (by decide) ?_
                          exact absurd (Option.some.inj hF) (by decide)
                    · replace hF := if_f hF c_67
                      refine lv_iconst (v := 0) hx hb dL_law_522 (by decide) ?_
                      exact absurd (Option.some.inj hF) (by decide)
                  · replace hF := if_f hF c_61
                    by_cases c_70 : ((xs x4_23.toNatClampNeg) &&& 31).toInt = 6
                    · replace hF := if_t hF c_70
                      refine lv_tableIn (off := 505) (tgt := 544) hx hb dL_law_39 (fun h9 => c_3 (Or.inl h9)) (fun h9 => c_3 (Or.inr h9)) (by rw [c_70] <;> rfl) (by decide) ?_
                      refine lv_aload_n hx hb dL_law_544 rfl (lv_at hl 1 rfl) ?_
                      refine lv_aload_n hx hb dL_law_545 rfl (lv_at hl 0 rfl) ?_
                      refine lv_iload hx hb dL_law_546 (lv_at hl 4 rfl) ?_
                      refine lv_iconst (v := 1) hx hb dL_law_548 (by decide) ?_
                      refine lv_iadd hx hb dL_law_549 ?_
                      replace hF := ckI_some hF
                      obtain ⟨hi_71, hF⟩ := hF
                      refine va_sld hx hb hX hbl hbA hS hi_71 dL_law_550 ?_
                      refine lv_aload_n hx hb dL_law_551 rfl (lv_at hl 3 rfl) ?_
                      replace hF := bnd_some hF
                      obtain ⟨z72, hz_72, hF⟩ := hF
                      refine kwIE (kSW (hh := [(0, 9, 12, 15), (0, 9, 15, 17)]) (As := [.ref (h 0), .int (xs (x4_23 + 1).toNatClampNeg), .ref xo]) ⟨hx, hb, hml, hown, hts⟩ (kL_team l D cy sa h m_day_23 m_coins_23 m_felts_23 m_made_23 m_worth_23 m_rags_23 m_water_23 m_pulp_23 m_beat_23 m_sort_23 m_nM_23 m_mark_23 m_size_23 m_worn_23 m_nT_23 m_skill_23 m_vat_23 m_pair_23 m_nQ_23 m_allS_23 m_pmark_23 m_pgrade_23 m_psheets_23 m_loft_23 t_day_23 t_coins_23 t_felts_23 t_made_23 t_worth_23 t_rags_23 t_water_23 t_pulp_23 t_beat_23 t_sort_23 t_nM_23 t_mark_23 t_size_23 t_worn_23 t_nT_23 t_skill_23 t_vat_23 t_pair_23 t_nQ_23 t_allS_23 t_pmark_23 t_pgrade_23 t_psheets_23 t_loft_23 xo lo_23 (xs (x4_23 + 1).toNatClampNeg) hst z72 hz_72 _) (vx_cwSW 3 hts gL_law_L_team rfl rfl rfl (by decide +kernel) ⟨Nat.le_of_ble_eq_true rfl, Nat.le_of_ble_eq_true rfl⟩) hK hP hD hS hA hG [0, 1, 2, 3, 4, 5, 6, 7, 8, 9, 10, 11, 12, 13, 14, 15, 16, 17, 18, 19, 20, 21, 22, 23, 24, 25, 26, 27, 28, 29, 30, 31, 32, 33, 34, 35, 36, 37, 38, 39, 40, 49] hcW ndW rfl hl.1 [] rfl (Nat.le_of_ble_eq_true rfl) dL_law_552 ⟨(by show _ ≤ (601024 : Nat); omega), (by show _ ≤ (7293034 : Nat); omega)⟩) hP hD hS hA [0, 1, 2, 3, 4, 5, 6, 7, 8, 9, 10, 11, 12, 13, 14, 15, 16, 17, 18, 19, 20, 21, 22, 23, 24, 25, 26, 27, 28, 29, 30, 31, 32, 33, 34, 35, 36, 37, 38, 39, 40, 49] hcW hmW kpW (fun H locs hP hD hS => ?_)
                      refine lv_istore (lv' := [(5, .int z72.1), (0, .ref b), (1, .ref (h 0)), (2, .ref (g 0)), (3, .ref xo), (4, .int x4_23)]) hx hb dL_law_555 hl (by decide) rfl (fun ls hl => ?_)
                      refine lv_aload_n hx hb dL_law_557 rfl (lv_at hl 3 rfl) ?_
                      refine lv_aload_n hx hb dL_law_558 rfl (lv_at hl 1 rfl) ?_
                      refine lv_iload hx hb dL_law_559 (lv_at hl 5 rfl) ?_
                      refine lv_iconst (v := 1) hx hb dL_law_561 (by decide) ?_
                      refine lv_iadd hx hb dL_law_562 ?_
                      replace hF := ckI_some hF
                      obtain ⟨hi_73, hF⟩ := hF
                      refine va_sld hx hb hX hbl hbA hS hi_73 dL_law_563 ?_
                      replace hF := bnd_some hF
                      obtain ⟨z74, hz_74, hF⟩ := hF
                      refine kwIE (kV (As := [.int (xs (x4_23 + 1).toNatClampNeg)]) ⟨hx, hb, hml, hown, hts⟩ (kX6_team l D cy sa g o_thrown_23 o_pairs_23 o_teams_23 o_water_23 o_vats_23 o_moulds_23 o_crews_23 o_posts_23 o_loft_23 o_nums_23 (xs (x4_23 + 1).toNatClampNeg) z74 hz_74 _) (cwV 1 hts gL_law_X6_team rfl rfl rfl (by decide +kernel) ⟨Nat.le_of_ble_eq_true rfl, Nat.le_of_ble_eq_true rfl⟩) hK hP hD hS hA hG [41, 42, 43, 44, 45, 46, 47, 48] hcX5X6L_X6_41 ndX6_41 gtX6_0 rfl rfl rfl hl.1 [] rfl (Nat.le_of_ble_eq_true rfl) dL_law_564 ⟨(by show _ ≤ (601024 : Nat); omega), (by show _ ≤ (7293034 : Nat); omega)⟩) hP hD hS hA [41, 42, 43, 44, 45, 46, 47, 48] hcX5X6L_X6_41 hmX6 kpX5X6L_X6_41 (fun H locs hP hD hS => ?_)
                      refine lv_istore (lv' := [(6, .int z74.1), (5, .int z72.1), (0, .ref b), (1, .ref (h 0)), (2, .ref (g 0)), (3, .ref xo), (4, .int x4_23)]) hx hb dL_law_567 hl (by decide) rfl (fun ls hl => ?_)
                      refine lv_aload_n hx hb dL_law_569 rfl (lv_at hl 4 rfl) ?_
                      replace hF := bnd_some hF
                      obtain ⟨z75, hz_75, hF⟩ := hF
                      refine krI (kV (As := []) ⟨hx, hb, hml, hown, hts⟩ (kX6_thrown l D cy sa g z74.2.1 o_pairs_23 z74.2.2.1 o_water_23 o_vats_23 o_moulds_23 z74.2.2.2 o_posts_23 o_loft_23 o_nums_23 z75 hz_75 _) (cwV 0 hts gL_law_X6_thrown rfl rfl rfl (by decide +kernel) ⟨Nat.le_of_ble_eq_true rfl, Nat.le_of_ble_eq_true rfl⟩) hK hP hD hS hA hG [41, 42, 43, 44, 45, 46, 47, 48] hcX5X6L_X6_41 ndX6_41 gtX6_0 rfl rfl rfl hl.1 [] rfl (Nat.le_of_ble_eq_true rfl) dL_law_570 ⟨(by show _ ≤ (601024 : Nat); omega), (by show _ ≤ (7293034 : Nat); omega)⟩) hP hD hS hA [41, 42, 43, 44, 45, 46, 47, 48] hcX5X6L_X6_41 (fun H locs hP hS => ?_)
                      refine lv_iload hx hb dL_law_573 (lv_at hl 1 rfl) ?_
                      refine lv_icmp_eq (tgt := 580) hx hb dL_law_575 (by decide) (fun c_76 => ?_) (fun c_76 => ?_)
                      · replace hF := if_t hF c_76
                        refine lv_iload hx hb dL_law_580 (lv_at hl 1 rfl) ?_
                        refine lv_if_ne (tgt := 597) hx hb dL_law_582 (by decide) (fun c_77 => ?_) (fun c_77 => ?_)
                        · replace hF := if_f hF c_77
                          refine lv_goto (tgt := 1447) hx hb dL_law_597 (by decide) ?_
                          refine lv_iinc (v := x4_23 + 4) (lv' := [(4, .int (x4_23 + 4)), (6, .int z74.1), (5, .int z72.1), (0, .ref b), (1, .ref (h 0)), (2, .ref (g 0)), (3, .ref xo)]) hx hb dL_law_1447 hl (k := 6) rfl rfl (by decide) rfl (fun ls hl => ?_)
                          refine lv_goto (tgt := 23) hx hb dL_law_1450 (by decide) ?_
                          exact ih  m_day_23 m_coins_23 m_felts_23 m_made_23 m_worth_23 m_rags_23 m_water_23 m_pulp_23 m_beat_23 m_sort_23 m_nM_23 m_mark_23 m_size_23 m_worn_23 z72.2.1 z72.2.2.1 z72.2.2.2.1 z72.2.2.2.2.1 m_nQ_23 m_allS_23 m_pmark_23 m_pgrade_23 m_psheets_23 m_loft_23 t_day_23 t_coins_23 t_felts_23 t_made_23 t_worth_23 t_rags_23 t_water_23 t_pulp_23 t_beat_23 t_sort_23 t_nM_23 t_mark_23 t_size_23 t_worn_23 t_nT_23 t_skill_23 t_vat_23 t_pair_23 t_nQ_23 t_allS_23 t_pmark_23 t_pgrade_23 t_psheets_23 t_loft_23 z74.2.1 o_pairs_23 z74.2.2.1 o_water_23 o_vats_23 o_moulds_23 z74.2.2.2 o_posts_23 o_loft_23 o_nums_23 z72.2.2.2.2.2 (x4_23 + 4)  hF (cu + 1) (su + 6) (by omega) (by omega) _ _ _ hP hD hS (lv_sub hl [3, 4, 5, 6, 0] rfl)
                        · replace hF := if_t hF c_77
                          refine lv_aload_n hx hb dL_law_585 rfl (lv_at hl 5 rfl) ?_
                          refine lv_iconst (v := 0) hx hb dL_law_586 (by decide) ?_
                          refine va_lald hx hb hK hP 49 2 gtX5X6L_49 rfl (show ¬ ((0 : Int32) < 0 ∨ 1 ≤ (0 : Int32).toNatClampNeg) from by decide) dL_law_587 ?_
                          refine lv_iload hx hb dL_law_588 (lv_at hl 0 rfl) ?_
                          refine lv_i2l hx hb dL_law_590 rfl ?_
                          refine W.lcmp hx hb dL_law_591 ?_
                          refine lv_if_eq (tgt := 597) hx hb dL_law_592 (by decide) (fun c_78 => ?_) (fun c_78 => ?_)
                          · replace hF := if_t hF c_78
                            refine lv_goto (tgt := 1447) hx hb dL_law_597 (by decide) ?_
                            refine lv_iinc (v := x4_23 + 4) (lv' := [(4, .int (x4_23 + 4)), (6, .int z74.1), (5, .int z72.1), (0, .ref b), (1, .ref (h 0)), (2, .ref (g 0)), (3, .ref xo)]) hx hb dL_law_1447 hl (k := 6) rfl rfl (by decide) rfl (fun ls hl => ?_)
                            refine lv_goto (tgt := 23) hx hb dL_law_1450 (by decide) ?_
                            exact ih  m_day_23 m_coins_23 m_felts_23 m_made_23 m_worth_23 m_rags_23 m_water_23 m_pulp_23 m_beat_23 m_sort_23 m_nM_23 m_mark_23 m_size_23 m_worn_23 z72.2.1 z72.2.2.1 z72.2.2.2.1 z72.2.2.2.2.1 m_nQ_23 m_allS_23 m_pmark_23 m_pgrade_23 m_psheets_23 m_loft_23 t_day_23 t_coins_23 t_felts_23 t_made_23 t_worth_23 t_rags_23 t_water_23 t_pulp_23 t_beat_23 t_sort_23 t_nM_23 t_mark_23 t_size_23 t_worn_23 t_nT_23 t_skill_23 t_vat_23 t_pair_23 t_nQ_23 t_allS_23 t_pmark_23 t_pgrade_23 t_psheets_23 t_loft_23 z74.2.1 o_pairs_23 z74.2.2.1 o_water_23 o_vats_23 o_moulds_23 z74.2.2.2 o_posts_23 o_loft_23 o_nums_23 z72.2.2.2.2.2 (x4_23 + 4)  hF (cu + 1) (su + 6) (by omega) (by omega) _ _ _ hP hD hS (lv_sub hl [3, 4, 5, 6, 0] rfl)
                          · replace hF := if_f hF c_78
                            refine lv_iconst (v := 0) hx hb dL_law_595 (by decide) ?_
                            exact absurd (Option.some.inj hF) (by decide)
                      · replace hF := if_f hF c_76
                        refine lv_iconst (v := 0) hx hb dL_law_578 (by decide) ?_
                        exact absurd (Option.some.inj hF) (by decide)
                    · replace hF := if_f hF c_70
                      by_cases c_79 : ((xs x4_23.toNatClampNeg) &&& 31).toInt = 7
                      · replace hF := if_t hF c_79
                        refine lv_tableIn (off := 561) (tgt := 600) hx hb dL_law_39 (fun h9 => c_3 (Or.inl h9)) (fun h9 => c_3 (Or.inr h9)) (by rw [c_79] <;> rfl) (by decide) ?_
                        refine lv_aload_n hx hb dL_law_600 rfl (lv_at hl 1 rfl) ?_
                        refine lv_aload_n hx hb dL_law_601 rfl (lv_at hl 0 rfl) ?_
                        refine lv_iload hx hb dL_law_602 (lv_at hl 4 rfl) ?_
                        refine lv_iconst (v := 1) hx hb dL_law_604 (by decide) ?_
                        refine lv_iadd hx hb dL_law_605 ?_
                        replace hF := ckI_some hF
                        obtain ⟨hi_80, hF⟩ := hF
                        refine va_sld hx hb hX hbl hbA hS hi_80 dL_law_606 ?_
                        refine lv_aload_n hx hb dL_law_607 rfl (lv_at hl 0 rfl) ?_
                        refine lv_iload hx hb dL_law_608 (lv_at hl 4 rfl) ?_
                        refine lv_iconst (v := 2) hx hb dL_law_610 (by decide) ?_
                        refine lv_iadd hx hb dL_law_611 ?_
                        replace hF := ckI_some hF
                        obtain ⟨hi_81, hF⟩ := hF
                        refine va_sld hx hb hX hbl hbA hS hi_81 dL_law_612 ?_
                        refine lv_aload_n hx hb dL_law_613 rfl (lv_at hl 0 rfl) ?_
                        refine lv_iload hx hb dL_law_614 (lv_at hl 4 rfl) ?_
                        refine lv_iconst (v := 3) hx hb dL_law_616 (by decide) ?_
                        refine lv_iadd hx hb dL_law_617 ?_
                        replace hF := ckI_some hF
                        obtain ⟨hi_82, hF⟩ := hF
                        refine va_sld hx hb hX hbl hbA hS hi_82 dL_law_618 ?_
                        refine lv_aload_n hx hb dL_law_619 rfl (lv_at hl 3 rfl) ?_
                        replace hF := bnd_some hF
                        obtain ⟨z83, hz_83, hF⟩ := hF
                        refine kwIE (kSW (hh := [(0, 12, 15, 13), (0, 12, 19, 17)]) (As := [.ref (h 0), .int (xs (x4_23 + 1).toNatClampNeg), .int (xs (x4_23 + 2).toNatClampNeg), .int (xs (x4_23 + 3).toNatClampNeg), .ref xo]) ⟨hx, hb, hml, hown, hts⟩ (kL_place l D cy sa h m_day_23 m_coins_23 m_felts_23 m_made_23 m_worth_23 m_rags_23 m_water_23 m_pulp_23 m_beat_23 m_sort_23 m_nM_23 m_mark_23 m_size_23 m_worn_23 m_nT_23 m_skill_23 m_vat_23 m_pair_23 m_nQ_23 m_allS_23 m_pmark_23 m_pgrade_23 m_psheets_23 m_loft_23 t_day_23 t_coins_23 t_felts_23 t_made_23 t_worth_23 t_rags_23 t_water_23 t_pulp_23 t_beat_23 t_sort_23 t_nM_23 t_mark_23 t_size_23 t_worn_23 t_nT_23 t_skill_23 t_vat_23 t_pair_23 t_nQ_23 t_allS_23 t_pmark_23 t_pgrade_23 t_psheets_23 t_loft_23 xo lo_23 (xs (x4_23 + 1).toNatClampNeg) (xs (x4_23 + 2).toNatClampNeg) (xs (x4_23 + 3).toNatClampNeg) hst z83 hz_83 _) (vx_cwSW 5 hts gL_law_L_place rfl rfl rfl (by decide +kernel) ⟨Nat.le_of_ble_eq_true rfl, Nat.le_of_ble_eq_true rfl⟩) hK hP hD hS hA hG [0, 1, 2, 3, 4, 5, 6, 7, 8, 9, 10, 11, 12, 13, 14, 15, 16, 17, 18, 19, 20, 21, 22, 23, 24, 25, 26, 27, 28, 29, 30, 31, 32, 33, 34, 35, 36, 37, 38, 39, 40, 49] hcW ndW rfl hl.1 [] rfl (Nat.le_of_ble_eq_true rfl) dL_law_620 ⟨(by show _ ≤ (601024 : Nat); omega), (by show _ ≤ (7293034 : Nat); omega)⟩) hP hD hS hA [0, 1, 2, 3, 4, 5, 6, 7, 8, 9, 10, 11, 12, 13, 14, 15, 16, 17, 18, 19, 20, 21, 22, 23, 24, 25, 26, 27, 28, 29, 30, 31, 32, 33, 34, 35, 36, 37, 38, 39, 40, 49] hcW hmW kpW (fun H locs hP hD hS => ?_)
                        refine lv_istore (lv' := [(5, .int z83.1), (0, .ref b), (1, .ref (h 0)), (2, .ref (g 0)), (3, .ref xo), (4, .int x4_23)]) hx hb dL_law_623 hl (by decide) rfl (fun ls hl => ?_)
                        refine lv_aload_n hx hb dL_law_625 rfl (lv_at hl 3 rfl) ?_
                        refine lv_aload_n hx hb dL_law_626 rfl (lv_at hl 1 rfl) ?_
                        refine lv_iload hx hb dL_law_627 (lv_at hl 5 rfl) ?_
                        refine lv_iconst (v := 1) hx hb dL_law_629 (by decide) ?_
                        refine lv_iadd hx hb dL_law_630 ?_
                        replace hF := ckI_some hF
                        obtain ⟨hi_84, hF⟩ := hF
                        refine va_sld hx hb hX hbl hbA hS hi_84 dL_law_631 ?_
                        refine lv_aload_n hx hb dL_law_632 rfl (lv_at hl 1 rfl) ?_
                        refine lv_iload hx hb dL_law_633 (lv_at hl 5 rfl) ?_
                        refine lv_iconst (v := 2) hx hb dL_law_635 (by decide) ?_
                        refine lv_iadd hx hb dL_law_636 ?_
                        replace hF := ckI_some hF
                        obtain ⟨hi_85, hF⟩ := hF
                        refine va_sld hx hb hX hbl hbA hS hi_85 dL_law_637 ?_
                        refine lv_aload_n hx hb dL_law_638 rfl (lv_at hl 1 rfl) ?_
                        refine lv_iload hx hb dL_law_639 (lv_at hl 5 rfl) ?_
                        refine lv_iconst (v := 3) hx hb dL_law_641 (by decide) ?_
                        refine lv_iadd hx hb dL_law_642 ?_
                        replace hF := ckI_some hF
                        obtain ⟨hi_86, hF⟩ := hF
                        refine va_sld hx hb hX hbl hbA hS hi_86 dL_law_643 ?_
                        replace hF := bnd_some hF
                        obtain ⟨z87, hz_87, hF⟩ := hF
                        refine kwIE (kV (As := [.int (xs (x4_23 + 1).toNatClampNeg), .int (xs (x4_23 + 2).toNatClampNeg), .int (xs (x4_23 + 3).toNatClampNeg)]) ⟨hx, hb, hml, hown, hts⟩ (kX6_place l D cy sa g o_thrown_23 o_pairs_23 o_teams_23 o_water_23 o_vats_23 o_moulds_23 o_crews_23 o_posts_23 o_loft_23 o_nums_23 (xs (x4_23 + 1).toNatClampNeg) (xs (x4_23 + 2).toNatClampNeg) (xs (x4_23 + 3).toNatClampNeg) z87 hz_87 _) (cwV 3 hts gL_law_X6_place rfl rfl rfl (by decide +kernel) ⟨Nat.le_of_ble_eq_true rfl, Nat.le_of_ble_eq_true rfl⟩) hK hP hD hS hA hG [41, 42, 43, 44, 45, 46, 47, 48] hcX5X6L_X6_41 ndX6_41 gtX6_0 rfl rfl rfl hl.1 [] rfl (Nat.le_of_ble_eq_true rfl) dL_law_644 ⟨(by show _ ≤ (601024 : Nat); omega), (by show _ ≤ (7293034 : Nat); omega)⟩) hP hD hS hA [41, 42, 43, 44, 45, 46, 47, 48] hcX5X6L_X6_41 hmX6 kpX5X6L_X6_41 (fun H locs hP hD hS => ?_)
                        refine lv_istore (lv' := [(6, .int z87.1), (5, .int z83.1), (0, .ref b), (1, .ref (h 0)), (2, .ref (g 0)), (3, .ref xo), (4, .int x4_23)]) hx hb dL_law_647 hl (by decide) rfl (fun ls hl => ?_)
                        refine lv_aload_n hx hb dL_law_649 rfl (lv_at hl 4 rfl) ?_
                        replace hF := bnd_some hF
                        obtain ⟨z88, hz_88, hF⟩ := hF
                        refine krI (kV (As := []) ⟨hx, hb, hml, hown, hts⟩ (kX6_thrown l D cy sa g z87.2.1 o_pairs_23 o_teams_23 o_water_23 o_vats_23 o_moulds_23 z87.2.2 o_posts_23 o_loft_23 o_nums_23 z88 hz_88 _) (cwV 0 hts gL_law_X6_thrown rfl rfl rfl (by decide +kernel) ⟨Nat.le_of_ble_eq_true rfl, Nat.le_of_ble_eq_true rfl⟩) hK hP hD hS hA hG [41, 42, 43, 44, 45, 46, 47, 48] hcX5X6L_X6_41 ndX6_41 gtX6_0 rfl rfl rfl hl.1 [] rfl (Nat.le_of_ble_eq_true rfl) dL_law_650 ⟨(by show _ ≤ (601024 : Nat); omega), (by show _ ≤ (7293034 : Nat); omega)⟩) hP hD hS hA [41, 42, 43, 44, 45, 46, 47, 48] hcX5X6L_X6_41 (fun H locs hP hS => ?_)
                        refine lv_iload hx hb dL_law_653 (lv_at hl 1 rfl) ?_
                        refine lv_icmp_eq (tgt := 660) hx hb dL_law_655 (by decide) (fun c_89 => ?_) (fun c_89 => ?_)
                        · replace hF := if_t hF c_89
                          refine lv_iload hx hb dL_law_660 (lv_at hl 1 rfl) ?_
                          refine lv_if_ne (tgt := 677) hx hb dL_law_662 (by decide) (fun c_90 => ?_) (fun c_90 => ?_)
                          · replace hF := if_f hF c_90
                            refine lv_goto (tgt := 1447) hx hb dL_law_677 (by decide) ?_
                            refine lv_iinc (v := x4_23 + 4) (lv' := [(4, .int (x4_23 + 4)), (6, .int z87.1), (5, .int z83.1), (0, .ref b), (1, .ref (h 0)), (2, .ref (g 0)), (3, .ref xo)]) hx hb dL_law_1447 hl (k := 6) rfl rfl (by decide) rfl (fun ls hl => ?_)
                            refine lv_goto (tgt := 23) hx hb dL_law_1450 (by decide) ?_
                            exact ih  m_day_23 m_coins_23 m_felts_23 m_made_23 m_worth_23 m_rags_23 m_water_23 m_pulp_23 m_beat_23 m_sort_23 m_nM_23 m_mark_23 m_size_23 m_worn_23 m_nT_23 m_skill_23 z83.2.1 z83.2.2.1 m_nQ_23 m_allS_23 m_pmark_23 m_pgrade_23 m_psheets_23 m_loft_23 t_day_23 t_coins_23 t_felts_23 t_made_23 t_worth_23 t_rags_23 t_water_23 t_pulp_23 t_beat_23 t_sort_23 t_nM_23 t_mark_23 t_size_23 t_worn_23 t_nT_23 t_skill_23 t_vat_23 t_pair_23 t_nQ_23 t_allS_23 t_pmark_23 t_pgrade_23 t_psheets_23 t_loft_23 z87.2.1 o_pairs_23 o_teams_23 o_water_23 o_vats_23 o_moulds_23 z87.2.2 o_posts_23 o_loft_23 o_nums_23 z83.2.2.2 (x4_23 + 4)  hF (cu + 1) (su + 6) (by omega) (by omega) _ _ _ hP hD hS (lv_sub hl [3, 4, 5, 6, 0] rfl)
                          · replace hF := if_t hF c_90
                            refine lv_aload_n hx hb dL_law_665 rfl (lv_at hl 5 rfl) ?_
                            refine lv_iconst (v := 0) hx hb dL_law_666 (by decide) ?_
                            refine va_lald hx hb hK hP 49 2 gtX5X6L_49 rfl (show ¬ ((0 : Int32) < 0 ∨ 1 ≤ (0 : Int32).toNatClampNeg) from by decide) dL_law_667 ?_
                            refine lv_iload hx hb dL_law_668 (lv_at hl 0 rfl) ?_
                            refine lv_i2l hx hb dL_law_670 rfl ?_
                            refine W.lcmp hx hb dL_law_671 ?_
                            refine lv_if_eq (tgt := 677) hx hb dL_law_672 (by decide) (fun c_91 => ?_) (fun c_91 => ?_)
                            · replace hF := if_t hF c_91
                              refine lv_goto (tgt := 1447) hx hb dL_law_677 (by decide) ?_
                              refine lv_iinc (v := x4_23 + 4) (lv' := [(4, .int (x4_23 + 4)), (6, .int z87.1), (5, .int z83.1), (0, .ref b), (1, .ref (h 0)), (2, .ref (g 0)), (3, .ref xo)]) hx hb dL_law_1447 hl (k := 6) rfl rfl (by decide) rfl (fun ls hl => ?_)
                              refine lv_goto (tgt := 23) hx hb dL_law_1450 (by decide) ?_
                              exact ih  m_day_23 m_coins_23 m_felts_23 m_made_23 m_worth_23 m_rags_23 m_water_23 m_pulp_23 m_beat_23 m_sort_23 m_nM_23 m_mark_23 m_size_23 m_worn_23 m_nT_23 m_skill_23 z83.2.1 z83.2.2.1 m_nQ_23 m_allS_23 m_pmark_23 m_pgrade_23 m_psheets_23 m_loft_23 t_day_23 t_coins_23 t_felts_23 t_made_23 t_worth_23 t_rags_23 t_water_23 t_pulp_23 t_beat_23 t_sort_23 t_nM_23 t_mark_23 t_size_23 t_worn_23 t_nT_23 t_skill_23 t_vat_23 t_pair_23 t_nQ_23 t_allS_23 t_pmark_23 t_pgrade_23 t_psheets_23 t_loft_23 z87.2.1 o_pairs_23 o_teams_23 o_water_23 o_vats_23 o_moulds_23 z87.2.2 o_posts_23 o_loft_23 o_nums_23 z83.2.2.2 (x4_23 + 4)  hF (cu + 1) (su + 6) (by omega) (by omega) _ _ _ hP hD hS (lv_sub hl [3, 4, 5, 6, 0] rfl)
                            · replace hF := if_f hF c_91
                              refine lv_iconst (v := 0) hx hb dL_law_675 (by decide) ?_
                              exact absurd (Option.some.inj hF) (by decide)
                        · replace hF := if_f hF c_89
                          refine lv_iconst (v := 0) hx hb dL_law_658 (by decide) ?_
                          exact absurd (Option.some.inj hF) (by decide)
                      · replace hF := if_f hF c_79
                        by_cases c_92 : ((xs x4_23.toNatClampNeg) &&& 31).toInt = 8
                        · replace hF := if_t hF c_92
                          refine lv_tableIn (off := 641) (tgt := 680) hx hb dL_law_39 (fun h9 => c_3 (Or.inl h9)) (fun h9 => c_3 (Or.inr h9)) (by rw [c_92] <;> rfl) (by decide) ?_
                          refine lv_aload_n hx hb dL_law_680 rfl (lv_at hl 1 rfl) ?_
                          refine lv_aload_n hx hb dL_law_681 rfl (lv_at hl 0 rfl) ?_
                          refine lv_iload hx hb dL_law_682 (lv_at hl 4 rfl) ?_
                          refine lv_iconst (v := 1) hx hb dL_law_684 (by decide) ?_
                          refine lv_iadd hx hb dL_law_685 ?_
                          replace hF := ckI_some hF
                          obtain ⟨hi_93, hF⟩ := hF
                          refine va_sld hx hb hX hbl hbA hS hi_93 dL_law_686 ?_
                          refine lv_aload_n hx hb dL_law_687 rfl (lv_at hl 0 rfl) ?_
                          refine lv_iload hx hb dL_law_688 (lv_at hl 4 rfl) ?_
                          refine lv_iconst (v := 2) hx hb dL_law_690 (by decide) ?_
                          refine lv_iadd hx hb dL_law_691 ?_
                          replace hF := ckI_some hF
                          obtain ⟨hi_94, hF⟩ := hF
                          refine va_sld hx hb hX hbl hbA hS hi_94 dL_law_692 ?_
                          refine lv_aload_n hx hb dL_law_693 rfl (lv_at hl 3 rfl) ?_
                          replace hF := bnd_some hF
                          obtain ⟨z95, hz_95, hF⟩ := hF
                          refine kwIE (kSW (hh := [(0, 10, 13, 13), (0, 10, 17, 15)]) (As := [.ref (h 0), .int (xs (x4_23 + 1).toNatClampNeg), .int (xs (x4_23 + 2).toNatClampNeg), .ref xo]) ⟨hx, hb, hml, hown, hts⟩ (kL_setWater l D cy sa h m_day_23 m_coins_23 m_felts_23 m_made_23 m_worth_23 m_rags_23 m_water_23 m_pulp_23 m_beat_23 m_sort_23 m_nM_23 m_mark_23 m_size_23 m_worn_23 m_nT_23 m_skill_23 m_vat_23 m_pair_23 m_nQ_23 m_allS_23 m_pmark_23 m_pgrade_23 m_psheets_23 m_loft_23 t_day_23 t_coins_23 t_felts_23 t_made_23 t_worth_23 t_rags_23 t_water_23 t_pulp_23 t_beat_23 t_sort_23 t_nM_23 t_mark_23 t_size_23 t_worn_23 t_nT_23 t_skill_23 t_vat_23 t_pair_23 t_nQ_23 t_allS_23 t_pmark_23 t_pgrade_23 t_psheets_23 t_loft_23 xo lo_23 (xs (x4_23 + 1).toNatClampNeg) (xs (x4_23 + 2).toNatClampNeg) hst z95 hz_95 _) (vx_cwSW 4 hts gL_law_L_setWater rfl rfl rfl (by decide +kernel) ⟨Nat.le_of_ble_eq_true rfl, Nat.le_of_ble_eq_true rfl⟩) hK hP hD hS hA hG [0, 1, 2, 3, 4, 5, 6, 7, 8, 9, 10, 11, 12, 13, 14, 15, 16, 17, 18, 19, 20, 21, 22, 23, 24, 25, 26, 27, 28, 29, 30, 31, 32, 33, 34, 35, 36, 37, 38, 39, 40, 49] hcW ndW rfl hl.1 [] rfl (Nat.le_of_ble_eq_true rfl) dL_law_694 ⟨(by show _ ≤ (601024 : Nat); omega), (by show _ ≤ (7293034 : Nat); omega)⟩) hP hD hS hA [0, 1, 2, 3, 4, 5, 6, 7, 8, 9, 10, 11, 12, 13, 14, 15, 16, 17, 18, 19, 20, 21, 22, 23, 24, 25, 26, 27, 28, 29, 30, 31, 32, 33, 34, 35, 36, 37, 38, 39, 40, 49] hcW hmW kpW (fun H locs hP hD hS => ?_)
                          refine lv_istore (lv' := [(5, .int z95.1), (0, .ref b), (1, .ref (h 0)), (2, .ref (g 0)), (3, .ref xo), (4, .int x4_23)]) hx hb dL_law_697 hl (by decide) rfl (fun ls hl => ?_)
                          refine lv_aload_n hx hb dL_law_699 rfl (lv_at hl 3 rfl) ?_
                          refine lv_aload_n hx hb dL_law_700 rfl (lv_at hl 1 rfl) ?_
                          refine lv_iload hx hb dL_law_701 (lv_at hl 5 rfl) ?_
                          refine lv_iconst (v := 1) hx hb dL_law_703 (by decide) ?_
                          refine lv_iadd hx hb dL_law_704 ?_
                          replace hF := ckI_some hF
                          obtain ⟨hi_96, hF⟩ := hF
                          refine va_sld hx hb hX hbl hbA hS hi_96 dL_law_705 ?_
                          refine lv_aload_n hx hb dL_law_706 rfl (lv_at hl 1 rfl) ?_
                          refine lv_iload hx hb dL_law_707 (lv_at hl 5 rfl) ?_
                          refine lv_iconst (v := 2) hx hb dL_law_709 (by decide) ?_
                          refine lv_iadd hx hb dL_law_710 ?_
                          replace hF := ckI_some hF
                          obtain ⟨hi_97, hF⟩ := hF
                          refine va_sld hx hb hX hbl hbA hS hi_97 dL_law_711 ?_
                          replace hF := bnd_some hF
                          obtain ⟨z98, hz_98, hF⟩ := hF
                          refine kwIE (kV (As := [.int (xs (x4_23 + 1).toNatClampNeg), .int (xs (x4_23 + 2).toNatClampNeg)]) ⟨hx, hb, hml, hown, hts⟩ (kX6_setWater l D cy sa g o_thrown_23 o_pairs_23 o_teams_23 o_water_23 o_vats_23 o_moulds_23 o_crews_23 o_posts_23 o_loft_23 o_nums_23 (xs (x4_23 + 1).toNatClampNeg) (xs (x4_23 + 2).toNatClampNeg) z98 hz_98 _) (cwV 2 hts gL_law_X6_setWater rfl rfl rfl (by decide +kernel) ⟨Nat.le_of_ble_eq_true rfl, Nat.le_of_ble_eq_true rfl⟩) hK hP hD hS hA hG [41, 42, 43, 44, 45, 46, 47, 48] hcX5X6L_X6_41 ndX6_41 gtX6_0 rfl rfl rfl hl.1 [] rfl (Nat.le_of_ble_eq_true rfl) dL_law_712 ⟨(by show _ ≤ (601024 : Nat); omega), (by show _ ≤ (7293034 : Nat); omega)⟩) hP hD hS hA [41, 42, 43, 44, 45, 46, 47, 48] hcX5X6L_X6_41 hmX6 kpX5X6L_X6_41 (fun H locs hP hD hS => ?_)
                          refine lv_istore (lv' := [(6, .int z98.1), (5, .int z95.1), (0, .ref b), (1, .ref (h 0)), (2, .ref (g 0)), (3, .ref xo), (4, .int x4_23)]) hx hb dL_law_715 hl (by decide) rfl (fun ls hl => ?_)
                          refine lv_aload_n hx hb dL_law_717 rfl (lv_at hl 4 rfl) ?_
                          replace hF := bnd_some hF
                          obtain ⟨z99, hz_99, hF⟩ := hF
                          refine krI (kV (As := []) ⟨hx, hb, hml, hown, hts⟩ (kX6_thrown l D cy sa g z98.2.1 o_pairs_23 o_teams_23 z98.2.2 o_vats_23 o_moulds_23 o_crews_23 o_posts_23 o_loft_23 o_nums_23 z99 hz_99 _) (cwV 0 hts gL_law_X6_thrown rfl rfl rfl (by decide +kernel) ⟨Nat.le_of_ble_eq_true rfl, Nat.le_of_ble_eq_true rfl⟩) hK hP hD hS hA hG [41, 42, 43, 44, 45, 46, 47, 48] hcX5X6L_X6_41 ndX6_41 gtX6_0 rfl rfl rfl hl.1 [] rfl (Nat.le_of_ble_eq_true rfl) dL_law_718 ⟨(by show _ ≤ (601024 : Nat); omega), (by show _ ≤ (7293034 : Nat); omega)⟩) hP hD hS hA [41, 42, 43, 44, 45, 46, 47, 48] hcX5X6L_X6_41 (fun H locs hP hS => ?_)
                          refine lv_iload hx hb dL_law_721 (lv_at hl 1 rfl) ?_
                          refine lv_icmp_eq (tgt := 728) hx hb dL_law_723 (by decide) (fun c_100 => ?_) (fun c_100 => ?_)
                          · replace hF := if_t hF c_100
                            refine lv_iload hx hb dL_law_728 (lv_at hl 1 rfl) ?_
                            refine lv_if_ne (tgt := 745) hx hb dL_law_730 (by decide) (fun c_101 => ?_) (fun c_101 => ?_)
                            · replace hF := if_f hF c_101
                              refine lv_goto (tgt := 1447) hx hb dL_law_745 (by decide) ?_
                              refine lv_iinc (v := x4_23 + 4) (lv' := [(4, .int (x4_23 + 4)), (6, .int z98.1), (5, .int z95.1), (0, .ref b), (1, .ref (h 0)), (2, .ref (g 0)), (3, .ref xo)]) hx hb dL_law_1447 hl (k := 6) rfl rfl (by decide) rfl (fun ls hl => ?_)
                              refine lv_goto (tgt := 23) hx hb dL_law_1450 (by decide) ?_
                              exact ih  m_day_23 m_coins_23 m_felts_23 m_made_23 m_worth_23 m_rags_23 z95.2.1 m_pulp_23 m_beat_23 m_sort_23 m_nM_23 m_mark_23 m_size_23 m_worn_23 m_nT_23 m_skill_23 m_vat_23 m_pair_23 m_nQ_23 m_allS_23 m_pmark_23 m_pgrade_23 m_psheets_23 m_loft_23 t_day_23 t_coins_23 t_felts_23 t_made_23 t_worth_23 t_rags_23 t_water_23 t_pulp_23 t_beat_23 t_sort_23 t_nM_23 t_mark_23 t_size_23 t_worn_23 t_nT_23 t_skill_23 t_vat_23 t_pair_23 t_nQ_23 t_allS_23 t_pmark_23 t_pgrade_23 t_psheets_23 t_loft_23 z98.2.1 o_pairs_23 o_teams_23 z98.2.2 o_vats_23 o_moulds_23 o_crews_23 o_posts_23 o_loft_23 o_nums_23 z95.2.2 (x4_23 + 4)  hF (cu + 1) (su + 6) (by omega) (by omega) _ _ _ hP hD hS (lv_sub hl [3, 4, 5, 6, 0] rfl)
                            · replace hF := if_t hF c_101
                              refine lv_aload_n hx hb dL_law_733 rfl (lv_at hl 5 rfl) ?_
                              refine lv_iconst (v := 0) hx hb dL_law_734 (by decide) ?_
                              refine va_lald hx hb hK hP 49 2 gtX5X6L_49 rfl (show ¬ ((0 : Int32) < 0 ∨ 1 ≤ (0 : Int32).toNatClampNeg) from by decide) dL_law_735 ?_
                              refine lv_iload hx hb dL_law_736 (lv_at hl 0 rfl) ?_
                              refine lv_i2l hx hb dL_law_738 rfl ?_
                              refine W.lcmp hx hb dL_law_739 ?_
                              refine lv_if_eq (tgt := 745) hx hb dL_law_740 (by decide) (fun c_102 => ?_) (fun c_102 => ?_)
                              · replace hF := if_t hF c_102
                                refine lv_goto (tgt := 1447) hx hb dL_law_745 (by decide) ?_
                                refine lv_iinc (v := x4_23 + 4) (lv' := [(4, .int (x4_23 + 4)), (6, .int z98.1), (5, .int z95.1), (0, .ref b), (1, .ref (h 0)), (2, .ref (g 0)), (3, .ref xo)]) hx hb dL_law_1447 hl (k := 6) rfl rfl (by decide) rfl (fun ls hl => ?_)
                                refine lv_goto (tgt := 23) hx hb dL_law_1450 (by decide) ?_
                                exact ih  m_day_23 m_coins_23 m_felts_23 m_made_23 m_worth_23 m_rags_23 z95.2.1 m_pulp_23 m_beat_23 m_sort_23 m_nM_23 m_mark_23 m_size_23 m_worn_23 m_nT_23 m_skill_23 m_vat_23 m_pair_23 m_nQ_23 m_allS_23 m_pmark_23 m_pgrade_23 m_psheets_23 m_loft_23 t_day_23 t_coins_23 t_felts_23 t_made_23 t_worth_23 t_rags_23 t_water_23 t_pulp_23 t_beat_23 t_sort_23 t_nM_23 t_mark_23 t_size_23 t_worn_23 t_nT_23 t_skill_23 t_vat_23 t_pair_23 t_nQ_23 t_allS_23 t_pmark_23 t_pgrade_23 t_psheets_23 t_loft_23 z98.2.1 o_pairs_23 o_teams_23 z98.2.2 o_vats_23 o_moulds_23 o_crews_23 o_posts_23 o_loft_23 o_nums_23 z95.2.2 (x4_23 + 4)  hF (cu + 1) (su + 6) (by omega) (by omega) _ _ _ hP hD hS (lv_sub hl [3, 4, 5, 6, 0] rfl)
                              · replace hF := if_f hF c_102
                                refine lv_iconst (v := 0) hx hb dL_law_743 (by decide) ?_
                                exact absurd (Option.some.inj hF) (by decide)
                          · replace hF := if_f hF c_100
                            refine lv_iconst (v := 0) hx hb dL_law_726 (by decide) ?_
                            exact absurd (Option.some.inj hF) (by decide)
                        · replace hF := if_f hF c_92
                          by_cases c_103 : ((xs x4_23.toNatClampNeg) &&& 31).toInt = 9
                          · replace hF := if_t hF c_103
                            refine lv_tableIn (off := 709) (tgt := 748) hx hb dL_law_39 (fun h9 => c_3 (Or.inl h9)) (fun h9 => c_3 (Or.inr h9)) (by rw [c_103] <;> rfl) (by decide) ?_
                            refine lv_aload_n hx hb dL_law_748 rfl (lv_at hl 1 rfl) ?_
                            refine lv_aload_n hx hb dL_law_749 rfl (lv_at hl 0 rfl) ?_
                            refine lv_iload hx hb dL_law_750 (lv_at hl 4 rfl) ?_
                            refine lv_iconst (v := 1) hx hb dL_law_752 (by decide) ?_
                            refine lv_iadd hx hb dL_law_753 ?_
                            replace hF := ckI_some hF
                            obtain ⟨hi_104, hF⟩ := hF
                            refine va_sld hx hb hX hbl hbA hS hi_104 dL_law_754 ?_
                            refine lv_aload_n hx hb dL_law_755 rfl (lv_at hl 0 rfl) ?_
                            refine lv_iload hx hb dL_law_756 (lv_at hl 4 rfl) ?_
                            refine lv_iconst (v := 2) hx hb dL_law_758 (by decide) ?_
                            refine lv_iadd hx hb dL_law_759 ?_
                            replace hF := ckI_some hF
                            obtain ⟨hi_105, hF⟩ := hF
                            refine va_sld hx hb hX hbl hbA hS hi_105 dL_law_760 ?_
                            refine lv_aload_n hx hb dL_law_761 rfl (lv_at hl 3 rfl) ?_
                            replace hF := bnd_some hF
                            obtain ⟨z106, hz_106, hF⟩ := hF
                            refine kwIE (kSW (hh := [(0, 10, 13, 13)]) (As := [.ref (h 0), .int (xs (x4_23 + 1).toNatClampNeg), .int (xs (x4_23 + 2).toNatClampNeg), .ref xo]) ⟨hx, hb, hml, hown, hts⟩ (kL_about l D cy sa h m_day_23 m_coins_23 m_felts_23 m_made_23 m_worth_23 m_rags_23 m_water_23 m_pulp_23 m_beat_23 m_sort_23 m_nM_23 m_mark_23 m_size_23 m_worn_23 m_nT_23 m_skill_23 m_vat_23 m_pair_23 m_nQ_23 m_allS_23 m_pmark_23 m_pgrade_23 m_psheets_23 m_loft_23 t_day_23 t_coins_23 t_felts_23 t_made_23 t_worth_23 t_rags_23 t_water_23 t_pulp_23 t_beat_23 t_sort_23 t_nM_23 t_mark_23 t_size_23 t_worn_23 t_nT_23 t_skill_23 t_vat_23 t_pair_23 t_nQ_23 t_allS_23 t_pmark_23 t_pgrade_23 t_psheets_23 t_loft_23 xo lo_23 (xs (x4_23 + 1).toNatClampNeg) (xs (x4_23 + 2).toNatClampNeg) hst z106 hz_106 _) (vx_cwSW 4 hts gL_law_L_about rfl rfl rfl (by decide +kernel) ⟨Nat.le_of_ble_eq_true rfl, Nat.le_of_ble_eq_true rfl⟩) hK hP hD hS hA hG [0, 1, 2, 3, 4, 5, 6, 7, 8, 9, 10, 11, 12, 13, 14, 15, 16, 17, 18, 19, 20, 21, 22, 23, 24, 25, 26, 27, 28, 29, 30, 31, 32, 33, 34, 35, 36, 37, 38, 39, 40, 49] hcW ndW rfl hl.1 [] rfl (Nat.le_of_ble_eq_true rfl) dL_law_762 ⟨(by show _ ≤ (601024 : Nat); omega), (by show _ ≤ (7293034 : Nat); omega)⟩) hP hD hS hA [0, 1, 2, 3, 4, 5, 6, 7, 8, 9, 10, 11, 12, 13, 14, 15, 16, 17, 18, 19, 20, 21, 22, 23, 24, 25, 26, 27, 28, 29, 30, 31, 32, 33, 34, 35, 36, 37, 38, 39, 40, 49] hcW hmW kpW (fun H locs hP hD hS => ?_)
                            refine lv_istore (lv' := [(5, .int z106.1), (0, .ref b), (1, .ref (h 0)), (2, .ref (g 0)), (3, .ref xo), (4, .int x4_23)]) hx hb dL_law_765 hl (by decide) rfl (fun ls hl => ?_)
                            refine lv_aload_n hx hb dL_law_767 rfl (lv_at hl 3 rfl) ?_
                            refine lv_aload_n hx hb dL_law_768 rfl (lv_at hl 1 rfl) ?_
                            refine lv_iload hx hb dL_law_769 (lv_at hl 5 rfl) ?_
                            refine lv_iconst (v := 1) hx hb dL_law_771 (by decide) ?_
                            refine lv_iadd hx hb dL_law_772 ?_
                            replace hF := ckI_some hF
                            obtain ⟨hi_107, hF⟩ := hF
                            refine va_sld hx hb hX hbl hbA hS hi_107 dL_law_773 ?_
                            refine lv_aload_n hx hb dL_law_774 rfl (lv_at hl 1 rfl) ?_
                            refine lv_iload hx hb dL_law_775 (lv_at hl 5 rfl) ?_
                            refine lv_iconst (v := 2) hx hb dL_law_777 (by decide) ?_
                            refine lv_iadd hx hb dL_law_778 ?_
                            replace hF := ckI_some hF
                            obtain ⟨hi_108, hF⟩ := hF
                            refine va_sld hx hb hX hbl hbA hS hi_108 dL_law_779 ?_
                            replace hF := bnd_some hF
                            obtain ⟨z109, hz_109, hF⟩ := hF
                            refine kwIE (kV (As := [.int (xs (x4_23 + 1).toNatClampNeg), .int (xs (x4_23 + 2).toNatClampNeg)]) ⟨hx, hb, hml, hown, hts⟩ (kX6_about l D cy sa g o_thrown_23 o_pairs_23 o_teams_23 o_water_23 o_vats_23 o_moulds_23 o_crews_23 o_posts_23 o_loft_23 o_nums_23 (xs (x4_23 + 1).toNatClampNeg) (xs (x4_23 + 2).toNatClampNeg) z109 hz_109 _) (cwV 2 hts gL_law_X6_about rfl rfl rfl (by decide +kernel) ⟨Nat.le_of_ble_eq_true rfl, Nat.le_of_ble_eq_true rfl⟩) hK hP hD hS hA hG [41, 42, 43, 44, 45, 46, 47, 48] hcX5X6L_X6_41 ndX6_41 gtX6_0 rfl rfl rfl hl.1 [] rfl (Nat.le_of_ble_eq_true rfl) dL_law_780 ⟨(by show _ ≤ (601024 : Nat); omega), (by show _ ≤ (7293034 : Nat); omega)⟩) hP hD hS hA [41, 42, 43, 44, 45, 46, 47, 48] hcX5X6L_X6_41 hmX6 kpX5X6L_X6_41 (fun H locs hP hD hS => ?_)
                            refine lv_istore (lv' := [(6, .int z109.1), (5, .int z106.1), (0, .ref b), (1, .ref (h 0)), (2, .ref (g 0)), (3, .ref xo), (4, .int x4_23)]) hx hb dL_law_783 hl (by decide) rfl (fun ls hl => ?_)
                            refine lv_aload_n hx hb dL_law_785 rfl (lv_at hl 4 rfl) ?_
                            replace hF := bnd_some hF
                            obtain ⟨z110, hz_110, hF⟩ := hF
                            refine krI (kV (As := []) ⟨hx, hb, hml, hown, hts⟩ (kX6_thrown l D cy sa g z109.2 o_pairs_23 o_teams_23 o_water_23 o_vats_23 o_moulds_23 o_crews_23 o_posts_23 o_loft_23 o_nums_23 z110 hz_110 _) (cwV 0 hts gL_law_X6_thrown rfl rfl rfl (by decide +kernel) ⟨Nat.le_of_ble_eq_true rfl, Nat.le_of_ble_eq_true rfl⟩) hK hP hD hS hA hG [41, 42, 43, 44, 45, 46, 47, 48] hcX5X6L_X6_41 ndX6_41 gtX6_0 rfl rfl rfl hl.1 [] rfl (Nat.le_of_ble_eq_true rfl) dL_law_786 ⟨(by show _ ≤ (601024 : Nat); omega), (by show _ ≤ (7293034 : Nat); omega)⟩) hP hD hS hA [41, 42, 43, 44, 45, 46, 47, 48] hcX5X6L_X6_41 (fun H locs hP hS => ?_)
                            refine lv_iload hx hb dL_law_789 (lv_at hl 1 rfl) ?_
                            refine lv_icmp_eq (tgt := 796) hx hb dL_law_791 (by decide) (fun c_111 => ?_) (fun c_111 => ?_)
                            · replace hF := if_t hF c_111
                              refine lv_iload hx hb dL_law_796 (lv_at hl 1 rfl) ?_
                              refine lv_if_ne (tgt := 813) hx hb dL_law_798 (by decide) (fun c_112 => ?_) (fun c_112 => ?_)
                              · replace hF := if_f hF c_112
                                refine lv_goto (tgt := 1447) hx hb dL_law_813 (by decide) ?_
                                refine lv_iinc (v := x4_23 + 4) (lv' := [(4, .int (x4_23 + 4)), (6, .int z109.1), (5, .int z106.1), (0, .ref b), (1, .ref (h 0)), (2, .ref (g 0)), (3, .ref xo)]) hx hb dL_law_1447 hl (k := 6) rfl rfl (by decide) rfl (fun ls hl => ?_)
                                refine lv_goto (tgt := 23) hx hb dL_law_1450 (by decide) ?_
                                exact ih  m_day_23 m_coins_23 m_felts_23 m_made_23 m_worth_23 m_rags_23 m_water_23 m_pulp_23 m_beat_23 m_sort_23 m_nM_23 m_mark_23 m_size_23 m_worn_23 m_nT_23 m_skill_23 m_vat_23 m_pair_23 m_nQ_23 m_allS_23 m_pmark_23 m_pgrade_23 m_psheets_23 m_loft_23 t_day_23 t_coins_23 t_felts_23 t_made_23 t_worth_23 t_rags_23 t_water_23 t_pulp_23 t_beat_23 t_sort_23 t_nM_23 t_mark_23 t_size_23 t_worn_23 t_nT_23 t_skill_23 t_vat_23 t_pair_23 t_nQ_23 t_allS_23 t_pmark_23 t_pgrade_23 t_psheets_23 t_loft_23 z109.2 o_pairs_23 o_teams_23 o_water_23 o_vats_23 o_moulds_23 o_crews_23 o_posts_23 o_loft_23 o_nums_23 z106.2 (x4_23 + 4)  hF (cu + 1) (su + 6) (by omega) (by omega) _ _ _ hP hD hS (lv_sub hl [3, 4, 5, 6, 0] rfl)
                              · replace hF := if_t hF c_112
                                refine lv_aload_n hx hb dL_law_801 rfl (lv_at hl 5 rfl) ?_
                                refine lv_iconst (v := 0) hx hb dL_law_802 (by decide) ?_
                                refine va_lald hx hb hK hP 49 2 gtX5X6L_49 rfl (show ¬ ((0 : Int32) < 0 ∨ 1 ≤ (0 : Int32).toNatClampNeg) from by decide) dL_law_803 ?_
                                refine lv_iload hx hb dL_law_804 (lv_at hl 0 rfl) ?_
                                refine lv_i2l hx hb dL_law_806 rfl ?_
                                refine W.lcmp hx hb dL_law_807 ?_
                                refine lv_if_eq (tgt := 813) hx hb dL_law_808 (by decide) (fun c_113 => ?_) (fun c_113 => ?_)
                                · replace hF := if_t hF c_113
                                  refine lv_goto (tgt := 1447) hx hb dL_law_813 (by decide) ?_
                                  refine lv_iinc (v := x4_23 + 4) (lv' := [(4, .int (x4_23 + 4)), (6, .int z109.1), (5, .int z106.1), (0, .ref b), (1, .ref (h 0)), (2, .ref (g 0)), (3, .ref xo)]) hx hb dL_law_1447 hl (k := 6) rfl rfl (by decide) rfl (fun ls hl => ?_)
                                  refine lv_goto (tgt := 23) hx hb dL_law_1450 (by decide) ?_
                                  exact ih  m_day_23 m_coins_23 m_felts_23 m_made_23 m_worth_23 m_rags_23 m_water_23 m_pulp_23 m_beat_23 m_sort_23 m_nM_23 m_mark_23 m_size_23 m_worn_23 m_nT_23 m_skill_23 m_vat_23 m_pair_23 m_nQ_23 m_allS_23 m_pmark_23 m_pgrade_23 m_psheets_23 m_loft_23 t_day_23 t_coins_23 t_felts_23 t_made_23 t_worth_23 t_rags_23 t_water_23 t_pulp_23 t_beat_23 t_sort_23 t_nM_23 t_mark_23 t_size_23 t_worn_23 t_nT_23 t_skill_23 t_vat_23 t_pair_23 t_nQ_23 t_allS_23 t_pmark_23 t_pgrade_23 t_psheets_23 t_loft_23 z109.2 o_pairs_23 o_teams_23 o_water_23 o_vats_23 o_moulds_23 o_crews_23 o_posts_23 o_loft_23 o_nums_23 z106.2 (x4_23 + 4)  hF (cu + 1) (su + 6) (by omega) (by omega) _ _ _ hP hD hS (lv_sub hl [3, 4, 5, 6, 0] rfl)
                                · replace hF := if_f hF c_113
                                  refine lv_iconst (v := 0) hx hb dL_law_811 (by decide) ?_
                                  exact absurd (Option.some.inj hF) (by decide)
                            · replace hF := if_f hF c_111
                              refine lv_iconst (v := 0) hx hb dL_law_794 (by decide) ?_
                              exact absurd (Option.some.inj hF) (by decide)
                          · replace hF := if_f hF c_103
                            by_cases c_114 : ((xs x4_23.toNatClampNeg) &&& 31).toInt = 10
                            · replace hF := if_t hF c_114
                              refine lv_tableIn (off := 777) (tgt := 816) hx hb dL_law_39 (fun h9 => c_3 (Or.inl h9)) (fun h9 => c_3 (Or.inr h9)) (by rw [c_114] <;> rfl) (by decide) ?_
                              refine lv_aload_n hx hb dL_law_816 rfl (lv_at hl 1 rfl) ?_
                              refine lv_aload_n hx hb dL_law_817 rfl (lv_at hl 0 rfl) ?_
                              refine lv_iload hx hb dL_law_818 (lv_at hl 4 rfl) ?_
                              refine lv_iconst (v := 1) hx hb dL_law_820 (by decide) ?_
                              refine lv_iadd hx hb dL_law_821 ?_
                              replace hF := ckI_some hF
                              obtain ⟨hi_115, hF⟩ := hF
                              refine va_sld hx hb hX hbl hbA hS hi_115 dL_law_822 ?_
                              refine lv_aload_n hx hb dL_law_823 rfl (lv_at hl 0 rfl) ?_
                              refine lv_iload hx hb dL_law_824 (lv_at hl 4 rfl) ?_
                              refine lv_iconst (v := 2) hx hb dL_law_826 (by decide) ?_
                              refine lv_iadd hx hb dL_law_827 ?_
                              replace hF := ckI_some hF
                              obtain ⟨hi_116, hF⟩ := hF
                              refine va_sld hx hb hX hbl hbA hS hi_116 dL_law_828 ?_
                              refine lv_aload_n hx hb dL_law_829 rfl (lv_at hl 3 rfl) ?_
                              replace hF := bnd_some hF
                              obtain ⟨z117, hz_117, hF⟩ := hF
                              refine kwIE (kSW (hh := [(0, 10, 13, 13)]) (As := [.ref (h 0), .int (xs (x4_23 + 1).toNatClampNeg), .int (xs (x4_23 + 2).toNatClampNeg), .ref xo]) ⟨hx, hb, hml, hown, hts⟩ (kL_mould l D cy sa h m_day_23 m_coins_23 m_felts_23 m_made_23 m_worth_23 m_rags_23 m_water_23 m_pulp_23 m_beat_23 m_sort_23 m_nM_23 m_mark_23 m_size_23 m_worn_23 m_nT_23 m_skill_23 m_vat_23 m_pair_23 m_nQ_23 m_allS_23 m_pmark_23 m_pgrade_23 m_psheets_23 m_loft_23 t_day_23 t_coins_23 t_felts_23 t_made_23 t_worth_23 t_rags_23 t_water_23 t_pulp_23 t_beat_23 t_sort_23 t_nM_23 t_mark_23 t_size_23 t_worn_23 t_nT_23 t_skill_23 t_vat_23 t_pair_23 t_nQ_23 t_allS_23 t_pmark_23 t_pgrade_23 t_psheets_23 t_loft_23 xo lo_23 (xs (x4_23 + 1).toNatClampNeg) (xs (x4_23 + 2).toNatClampNeg) hst z117 hz_117 _) (vx_cwSW 4 hts gL_law_L_mould rfl rfl rfl (by decide +kernel) ⟨Nat.le_of_ble_eq_true rfl, Nat.le_of_ble_eq_true rfl⟩) hK hP hD hS hA hG [0, 1, 2, 3, 4, 5, 6, 7, 8, 9, 10, 11, 12, 13, 14, 15, 16, 17, 18, 19, 20, 21, 22, 23, 24, 25, 26, 27, 28, 29, 30, 31, 32, 33, 34, 35, 36, 37, 38, 39, 40, 49] hcW ndW rfl hl.1 [] rfl (Nat.le_of_ble_eq_true rfl) dL_law_830 ⟨(by show _ ≤ (601024 : Nat); omega), (by show _ ≤ (7293034 : Nat); omega)⟩) hP hD hS hA [0, 1, 2, 3, 4, 5, 6, 7, 8, 9, 10, 11, 12, 13, 14, 15, 16, 17, 18, 19, 20, 21, 22, 23, 24, 25, 26, 27, 28, 29, 30, 31, 32, 33, 34, 35, 36, 37, 38, 39, 40, 49] hcW hmW kpW (fun H locs hP hD hS => ?_)
                              refine lv_istore (lv' := [(5, .int z117.1), (0, .ref b), (1, .ref (h 0)), (2, .ref (g 0)), (3, .ref xo), (4, .int x4_23)]) hx hb dL_law_833 hl (by decide) rfl (fun ls hl => ?_)
                              refine lv_aload_n hx hb dL_law_835 rfl (lv_at hl 3 rfl) ?_
                              refine lv_aload_n hx hb dL_law_836 rfl (lv_at hl 1 rfl) ?_
                              refine lv_iload hx hb dL_law_837 (lv_at hl 5 rfl) ?_
                              refine lv_iconst (v := 1) hx hb dL_law_839 (by decide) ?_
                              refine lv_iadd hx hb dL_law_840 ?_
                              replace hF := ckI_some hF
                              obtain ⟨hi_118, hF⟩ := hF
                              refine va_sld hx hb hX hbl hbA hS hi_118 dL_law_841 ?_
                              refine lv_aload_n hx hb dL_law_842 rfl (lv_at hl 1 rfl) ?_
                              refine lv_iload hx hb dL_law_843 (lv_at hl 5 rfl) ?_
                              refine lv_iconst (v := 2) hx hb dL_law_845 (by decide) ?_
                              refine lv_iadd hx hb dL_law_846 ?_
                              replace hF := ckI_some hF
                              obtain ⟨hi_119, hF⟩ := hF
                              refine va_sld hx hb hX hbl hbA hS hi_119 dL_law_847 ?_
                              replace hF := bnd_some hF
                              obtain ⟨z120, hz_120, hF⟩ := hF
                              refine kwIE (kV (As := [.int (xs (x4_23 + 1).toNatClampNeg), .int (xs (x4_23 + 2).toNatClampNeg)]) ⟨hx, hb, hml, hown, hts⟩ (kX6_mould l D cy sa g o_thrown_23 o_pairs_23 o_teams_23 o_water_23 o_vats_23 o_moulds_23 o_crews_23 o_posts_23 o_loft_23 o_nums_23 (xs (x4_23 + 1).toNatClampNeg) (xs (x4_23 + 2).toNatClampNeg) z120 hz_120 _) (cwV 2 hts gL_law_X6_mould rfl rfl rfl (by decide +kernel) ⟨Nat.le_of_ble_eq_true rfl, Nat.le_of_ble_eq_true rfl⟩) hK hP hD hS hA hG [41, 42, 43, 44, 45, 46, 47, 48] hcX5X6L_X6_41 ndX6_41 gtX6_0 rfl rfl rfl hl.1 [] rfl (Nat.le_of_ble_eq_true rfl) dL_law_848 ⟨(by show _ ≤ (601024 : Nat); omega), (by show _ ≤ (7293034 : Nat); omega)⟩) hP hD hS hA [41, 42, 43, 44, 45, 46, 47, 48] hcX5X6L_X6_41 hmX6 kpX5X6L_X6_41 (fun H locs hP hD hS => ?_)
                              refine lv_istore (lv' := [(6, .int z120.1), (5, .int z117.1), (0, .ref b), (1, .ref (h 0)), (2, .ref (g 0)), (3, .ref xo), (4, .int x4_23)]) hx hb dL_law_851 hl (by decide) rfl (fun ls hl => ?_)
                              refine lv_aload_n hx hb dL_law_853 rfl (lv_at hl 4 rfl) ?_
                              replace hF := bnd_some hF
                              obtain ⟨z121, hz_121, hF⟩ := hF
                              refine krI (kV (As := []) ⟨hx, hb, hml, hown, hts⟩ (kX6_thrown l D cy sa g z120.2 o_pairs_23 o_teams_23 o_water_23 o_vats_23 o_moulds_23 o_crews_23 o_posts_23 o_loft_23 o_nums_23 z121 hz_121 _) (cwV 0 hts gL_law_X6_thrown rfl rfl rfl (by decide +kernel) ⟨Nat.le_of_ble_eq_true rfl, Nat.le_of_ble_eq_true rfl⟩) hK hP hD hS hA hG [41, 42, 43, 44, 45, 46, 47, 48] hcX5X6L_X6_41 ndX6_41 gtX6_0 rfl rfl rfl hl.1 [] rfl (Nat.le_of_ble_eq_true rfl) dL_law_854 ⟨(by show _ ≤ (601024 : Nat); omega), (by show _ ≤ (7293034 : Nat); omega)⟩) hP hD hS hA [41, 42, 43, 44, 45, 46, 47, 48] hcX5X6L_X6_41 (fun H locs hP hS => ?_)
                              refine lv_iload hx hb dL_law_857 (lv_at hl 1 rfl) ?_
                              refine lv_icmp_eq (tgt := 864) hx hb dL_law_859 (by decide) (fun c_122 => ?_) (fun c_122 => ?_)
                              · replace hF := if_t hF c_122
                                refine lv_iload hx hb dL_law_864 (lv_at hl 1 rfl) ?_
                                refine lv_if_ne (tgt := 881) hx hb dL_law_866 (by decide) (fun c_123 => ?_) (fun c_123 => ?_)
                                · replace hF := if_f hF c_123
                                  refine lv_goto (tgt := 1447) hx hb dL_law_881 (by decide) ?_
                                  refine lv_iinc (v := x4_23 + 4) (lv' := [(4, .int (x4_23 + 4)), (6, .int z120.1), (5, .int z117.1), (0, .ref b), (1, .ref (h 0)), (2, .ref (g 0)), (3, .ref xo)]) hx hb dL_law_1447 hl (k := 6) rfl rfl (by decide) rfl (fun ls hl => ?_)
                                  refine lv_goto (tgt := 23) hx hb dL_law_1450 (by decide) ?_
                                  exact ih  m_day_23 m_coins_23 m_felts_23 m_made_23 m_worth_23 m_rags_23 m_water_23 m_pulp_23 m_beat_23 m_sort_23 m_nM_23 m_mark_23 m_size_23 m_worn_23 m_nT_23 m_skill_23 m_vat_23 m_pair_23 m_nQ_23 m_allS_23 m_pmark_23 m_pgrade_23 m_psheets_23 m_loft_23 t_day_23 t_coins_23 t_felts_23 t_made_23 t_worth_23 t_rags_23 t_water_23 t_pulp_23 t_beat_23 t_sort_23 t_nM_23 t_mark_23 t_size_23 t_worn_23 t_nT_23 t_skill_23 t_vat_23 t_pair_23 t_nQ_23 t_allS_23 t_pmark_23 t_pgrade_23 t_psheets_23 t_loft_23 z120.2 o_pairs_23 o_teams_23 o_water_23 o_vats_23 o_moulds_23 o_crews_23 o_posts_23 o_loft_23 o_nums_23 z117.2 (x4_23 + 4)  hF (cu + 1) (su + 6) (by omega) (by omega) _ _ _ hP hD hS (lv_sub hl [3, 4, 5, 6, 0] rfl)
                                · replace hF := if_t hF c_123
                                  refine lv_aload_n hx hb dL_law_869 rfl (lv_at hl 5 rfl) ?_
                                  refine lv_iconst (v := 0) hx hb dL_law_870 (by decide) ?_
                                  refine va_lald hx hb hK hP 49 2 gtX5X6L_49 rfl (show ¬ ((0 : Int32) < 0 ∨ 1 ≤ (0 : Int32).toNatClampNeg) from by decide) dL_law_871 ?_
                                  refine lv_iload hx hb dL_law_872 (lv_at hl 0 rfl) ?_
                                  refine lv_i2l hx hb dL_law_874 rfl ?_
                                  refine W.lcmp hx hb dL_law_875 ?_
                                  refine lv_if_eq (tgt := 881) hx hb dL_law_876 (by decide) (fun c_124 => ?_) (fun c_124 => ?_)
                                  · replace hF := if_t hF c_124
                                    refine lv_goto (tgt := 1447) hx hb dL_law_881 (by decide) ?_
                                    refine lv_iinc (v := x4_23 + 4) (lv' := [(4, .int (x4_23 + 4)), (6, .int z120.1), (5, .int z117.1), (0, .ref b), (1, .ref (h 0)), (2, .ref (g 0)), (3, .ref xo)]) hx hb dL_law_1447 hl (k := 6) rfl rfl (by decide) rfl (fun ls hl => ?_)
                                    refine lv_goto (tgt := 23) hx hb dL_law_1450 (by decide) ?_
                                    exact ih  m_day_23 m_coins_23 m_felts_23 m_made_23 m_worth_23 m_rags_23 m_water_23 m_pulp_23 m_beat_23 m_sort_23 m_nM_23 m_mark_23 m_size_23 m_worn_23 m_nT_23 m_skill_23 m_vat_23 m_pair_23 m_nQ_23 m_allS_23 m_pmark_23 m_pgrade_23 m_psheets_23 m_loft_23 t_day_23 t_coins_23 t_felts_23 t_made_23 t_worth_23 t_rags_23 t_water_23 t_pulp_23 t_beat_23 t_sort_23 t_nM_23 t_mark_23 t_size_23 t_worn_23 t_nT_23 t_skill_23 t_vat_23 t_pair_23 t_nQ_23 t_allS_23 t_pmark_23 t_pgrade_23 t_psheets_23 t_loft_23 z120.2 o_pairs_23 o_teams_23 o_water_23 o_vats_23 o_moulds_23 o_crews_23 o_posts_23 o_loft_23 o_nums_23 z117.2 (x4_23 + 4)  hF (cu + 1) (su + 6) (by omega) (by omega) _ _ _ hP hD hS (lv_sub hl [3, 4, 5, 6, 0] rfl)
                                  · replace hF := if_f hF c_124
                                    refine lv_iconst (v := 0) hx hb dL_law_879 (by decide) ?_
                                    exact absurd (Option.some.inj hF) (by decide)
                              · replace hF := if_f hF c_122
                                refine lv_iconst (v := 0) hx hb dL_law_862 (by decide) ?_
                                exact absurd (Option.some.inj hF) (by decide)
                            · replace hF := if_f hF c_114
                              by_cases c_125 : ((xs x4_23.toNatClampNeg) &&& 31).toInt = 11
                              · replace hF := if_t hF c_125
                                refine lv_tableIn (off := 845) (tgt := 884) hx hb dL_law_39 (fun h9 => c_3 (Or.inl h9)) (fun h9 => c_3 (Or.inr h9)) (by rw [c_125] <;> rfl) (by decide) ?_
                                refine lv_aload_n hx hb dL_law_884 rfl (lv_at hl 1 rfl) ?_
                                refine lv_aload_n hx hb dL_law_885 rfl (lv_at hl 0 rfl) ?_
                                refine lv_iload hx hb dL_law_886 (lv_at hl 4 rfl) ?_
                                refine lv_iconst (v := 1) hx hb dL_law_888 (by decide) ?_
                                refine lv_iadd hx hb dL_law_889 ?_
                                replace hF := ckI_some hF
                                obtain ⟨hi_126, hF⟩ := hF
                                refine va_sld hx hb hX hbl hbA hS hi_126 dL_law_890 ?_
                                refine lv_aload_n hx hb dL_law_891 rfl (lv_at hl 0 rfl) ?_
                                refine lv_iload hx hb dL_law_892 (lv_at hl 4 rfl) ?_
                                refine lv_iconst (v := 2) hx hb dL_law_894 (by decide) ?_
                                refine lv_iadd hx hb dL_law_895 ?_
                                replace hF := ckI_some hF
                                obtain ⟨hi_127, hF⟩ := hF
                                refine va_sld hx hb hX hbl hbA hS hi_127 dL_law_896 ?_
                                refine lv_aload_n hx hb dL_law_897 rfl (lv_at hl 3 rfl) ?_
                                replace hF := bnd_some hF
                                obtain ⟨z128, hz_128, hF⟩ := hF
                                refine kwIE (kSW (hh := [(0, 10, 13, 13)]) (As := [.ref (h 0), .int (xs (x4_23 + 1).toNatClampNeg), .int (xs (x4_23 + 2).toNatClampNeg), .ref xo]) ⟨hx, hb, hml, hown, hts⟩ (kL_told l D cy sa h m_day_23 m_coins_23 m_felts_23 m_made_23 m_worth_23 m_rags_23 m_water_23 m_pulp_23 m_beat_23 m_sort_23 m_nM_23 m_mark_23 m_size_23 m_worn_23 m_nT_23 m_skill_23 m_vat_23 m_pair_23 m_nQ_23 m_allS_23 m_pmark_23 m_pgrade_23 m_psheets_23 m_loft_23 t_day_23 t_coins_23 t_felts_23 t_made_23 t_worth_23 t_rags_23 t_water_23 t_pulp_23 t_beat_23 t_sort_23 t_nM_23 t_mark_23 t_size_23 t_worn_23 t_nT_23 t_skill_23 t_vat_23 t_pair_23 t_nQ_23 t_allS_23 t_pmark_23 t_pgrade_23 t_psheets_23 t_loft_23 xo lo_23 (xs (x4_23 + 1).toNatClampNeg) (xs (x4_23 + 2).toNatClampNeg) hst z128 hz_128 _) (vx_cwSW 4 hts gL_law_L_told rfl rfl rfl (by decide +kernel) ⟨Nat.le_of_ble_eq_true rfl, Nat.le_of_ble_eq_true rfl⟩) hK hP hD hS hA hG [0, 1, 2, 3, 4, 5, 6, 7, 8, 9, 10, 11, 12, 13, 14, 15, 16, 17, 18, 19, 20, 21, 22, 23, 24, 25, 26, 27, 28, 29, 30, 31, 32, 33, 34, 35, 36, 37, 38, 39, 40, 49] hcW ndW rfl hl.1 [] rfl (Nat.le_of_ble_eq_true rfl) dL_law_898 ⟨(by show _ ≤ (601024 : Nat); omega), (by show _ ≤ (7293034 : Nat); omega)⟩) hP hD hS hA [0, 1, 2, 3, 4, 5, 6, 7, 8, 9, 10, 11, 12, 13, 14, 15, 16, 17, 18, 19, 20, 21, 22, 23, 24, 25, 26, 27, 28, 29, 30, 31, 32, 33, 34, 35, 36, 37, 38, 39, 40, 49] hcW hmW kpW (fun H locs hP hD hS => ?_)
                                refine lv_istore (lv' := [(5, .int z128.1), (0, .ref b), (1, .ref (h 0)), (2, .ref (g 0)), (3, .ref xo), (4, .int x4_23)]) hx hb dL_law_901 hl (by decide) rfl (fun ls hl => ?_)
                                refine lv_aload_n hx hb dL_law_903 rfl (lv_at hl 3 rfl) ?_
                                refine lv_aload_n hx hb dL_law_904 rfl (lv_at hl 1 rfl) ?_
                                refine lv_iload hx hb dL_law_905 (lv_at hl 5 rfl) ?_
                                refine lv_iconst (v := 1) hx hb dL_law_907 (by decide) ?_
                                refine lv_iadd hx hb dL_law_908 ?_
                                replace hF := ckI_some hF
                                obtain ⟨hi_129, hF⟩ := hF
                                refine va_sld hx hb hX hbl hbA hS hi_129 dL_law_909 ?_
                                refine lv_aload_n hx hb dL_law_910 rfl (lv_at hl 1 rfl) ?_
                                refine lv_iload hx hb dL_law_911 (lv_at hl 5 rfl) ?_
                                refine lv_iconst (v := 2) hx hb dL_law_913 (by decide) ?_
                                refine lv_iadd hx hb dL_law_914 ?_
                                replace hF := ckI_some hF
                                obtain ⟨hi_130, hF⟩ := hF
                                refine va_sld hx hb hX hbl hbA hS hi_130 dL_law_915 ?_
                                replace hF := bnd_some hF
                                obtain ⟨z131, hz_131, hF⟩ := hF
                                refine kwIE (kV (As := [.int (xs (x4_23 + 1).toNatClampNeg), .int (xs (x4_23 + 2).toNatClampNeg)]) ⟨hx, hb, hml, hown, hts⟩ (kX6_told l D cy sa g o_thrown_23 o_pairs_23 o_teams_23 o_water_23 o_vats_23 o_moulds_23 o_crews_23 o_posts_23 o_loft_23 o_nums_23 (xs (x4_23 + 1).toNatClampNeg) (xs (x4_23 + 2).toNatClampNeg) z131 hz_131 _) (cwV 2 hts gL_law_X6_told rfl rfl rfl (by decide +kernel) ⟨Nat.le_of_ble_eq_true rfl, Nat.le_of_ble_eq_true rfl⟩) hK hP hD hS hA hG [41, 42, 43, 44, 45, 46, 47, 48] hcX5X6L_X6_41 ndX6_41 gtX6_0 rfl rfl rfl hl.1 [] rfl (Nat.le_of_ble_eq_true rfl) dL_law_916 ⟨(by show _ ≤ (601024 : Nat); omega), (by show _ ≤ (7293034 : Nat); omega)⟩) hP hD hS hA [41, 42, 43, 44, 45, 46, 47, 48] hcX5X6L_X6_41 hmX6 kpX5X6L_X6_41 (fun H locs hP hD hS => ?_)
                                refine lv_istore (lv' := [(6, .int z131.1), (5, .int z128.1), (0, .ref b), (1, .ref (h 0)), (2, .ref (g 0)), (3, .ref xo), (4, .int x4_23)]) hx hb dL_law_919 hl (by decide) rfl (fun ls hl => ?_)
                                refine lv_aload_n hx hb dL_law_921 rfl (lv_at hl 4 rfl) ?_
                                replace hF := bnd_some hF
                                obtain ⟨z132, hz_132, hF⟩ := hF
                                refine krI (kV (As := []) ⟨hx, hb, hml, hown, hts⟩ (kX6_thrown l D cy sa g z131.2 o_pairs_23 o_teams_23 o_water_23 o_vats_23 o_moulds_23 o_crews_23 o_posts_23 o_loft_23 o_nums_23 z132 hz_132 _) (cwV 0 hts gL_law_X6_thrown rfl rfl rfl (by decide +kernel) ⟨Nat.le_of_ble_eq_true rfl, Nat.le_of_ble_eq_true rfl⟩) hK hP hD hS hA hG [41, 42, 43, 44, 45, 46, 47, 48] hcX5X6L_X6_41 ndX6_41 gtX6_0 rfl rfl rfl hl.1 [] rfl (Nat.le_of_ble_eq_true rfl) dL_law_922 ⟨(by show _ ≤ (601024 : Nat); omega), (by show _ ≤ (7293034 : Nat); omega)⟩) hP hD hS hA [41, 42, 43, 44, 45, 46, 47, 48] hcX5X6L_X6_41 (fun H locs hP hS => ?_)
                                refine lv_iload hx hb dL_law_925 (lv_at hl 1 rfl) ?_
                                refine lv_icmp_eq (tgt := 932) hx hb dL_law_927 (by decide) (fun c_133 => ?_) (fun c_133 => ?_)
                                · replace hF := if_t hF c_133
                                  refine lv_iload hx hb dL_law_932 (lv_at hl 1 rfl) ?_
                                  refine lv_if_ne (tgt := 949) hx hb dL_law_934 (by decide) (fun c_134 => ?_) (fun c_134 => ?_)
                                  · replace hF := if_f hF c_134
                                    refine lv_goto (tgt := 1447) hx hb dL_law_949 (by decide) ?_
                                    refine lv_iinc (v := x4_23 + 4) (lv' := [(4, .int (x4_23 + 4)), (6, .int z131.1), (5, .int z128.1), (0, .ref b), (1, .ref (h 0)), (2, .ref (g 0)), (3, .ref xo)]) hx hb dL_law_1447 hl (k := 6) rfl rfl (by decide) rfl (fun ls hl => ?_)
                                    refine lv_goto (tgt := 23) hx hb dL_law_1450 (by decide) ?_
                                    exact ih  m_day_23 m_coins_23 m_felts_23 m_made_23 m_worth_23 m_rags_23 m_water_23 m_pulp_23 m_beat_23 m_sort_23 m_nM_23 m_mark_23 m_size_23 m_worn_23 m_nT_23 m_skill_23 m_vat_23 m_pair_23 m_nQ_23 m_allS_23 m_pmark_23 m_pgrade_23 m_psheets_23 m_loft_23 t_day_23 t_coins_23 t_felts_23 t_made_23 t_worth_23 t_rags_23 t_water_23 t_pulp_23 t_beat_23 t_sort_23 t_nM_23 t_mark_23 t_size_23 t_worn_23 t_nT_23 t_skill_23 t_vat_23 t_pair_23 t_nQ_23 t_allS_23 t_pmark_23 t_pgrade_23 t_psheets_23 t_loft_23 z131.2 o_pairs_23 o_teams_23 o_water_23 o_vats_23 o_moulds_23 o_crews_23 o_posts_23 o_loft_23 o_nums_23 z128.2 (x4_23 + 4)  hF (cu + 1) (su + 6) (by omega) (by omega) _ _ _ hP hD hS (lv_sub hl [3, 4, 5, 6, 0] rfl)
                                  · replace hF := if_t hF c_134
                                    refine lv_aload_n hx hb dL_law_937 rfl (lv_at hl 5 rfl) ?_
                                    refine lv_iconst (v := 0) hx hb dL_law_938 (by decide) ?_
                                    refine va_lald hx hb hK hP 49 2 gtX5X6L_49 rfl (show ¬ ((0 : Int32) < 0 ∨ 1 ≤ (0 : Int32).toNatClampNeg) from by decide) dL_law_939 ?_
                                    refine lv_iload hx hb dL_law_940 (lv_at hl 0 rfl) ?_
                                    refine lv_i2l hx hb dL_law_942 rfl ?_
                                    refine W.lcmp hx hb dL_law_943 ?_
                                    refine lv_if_eq (tgt := 949) hx hb dL_law_944 (by decide) (fun c_135 => ?_) (fun c_135 => ?_)
                                    · replace hF := if_t hF c_135
                                      refine lv_goto (tgt := 1447) hx hb dL_law_949 (by decide) ?_
                                      refine lv_iinc (v := x4_23 + 4) (lv' := [(4, .int (x4_23 + 4)), (6, .int z131.1), (5, .int z128.1), (0, .ref b), (1, .ref (h 0)), (2, .ref (g 0)), (3, .ref xo)]) hx hb dL_law_1447 hl (k := 6) rfl rfl (by decide) rfl (fun ls hl => ?_)
                                      refine lv_goto (tgt := 23) hx hb dL_law_1450 (by decide) ?_
                                      exact ih  m_day_23 m_coins_23 m_felts_23 m_made_23 m_worth_23 m_rags_23 m_water_23 m_pulp_23 m_beat_23 m_sort_23 m_nM_23 m_mark_23 m_size_23 m_worn_23 m_nT_23 m_skill_23 m_vat_23 m_pair_23 m_nQ_23 m_allS_23 m_pmark_23 m_pgrade_23 m_psheets_23 m_loft_23 t_day_23 t_coins_23 t_felts_23 t_made_23 t_worth_23 t_rags_23 t_water_23 t_pulp_23 t_beat_23 t_sort_23 t_nM_23 t_mark_23 t_size_23 t_worn_23 t_nT_23 t_skill_23 t_vat_23 t_pair_23 t_nQ_23 t_allS_23 t_pmark_23 t_pgrade_23 t_psheets_23 t_loft_23 z131.2 o_pairs_23 o_teams_23 o_water_23 o_vats_23 o_moulds_23 o_crews_23 o_posts_23 o_loft_23 o_nums_23 z128.2 (x4_23 + 4)  hF (cu + 1) (su + 6) (by omega) (by omega) _ _ _ hP hD hS (lv_sub hl [3, 4, 5, 6, 0] rfl)
                                    · replace hF := if_f hF c_135
                                      refine lv_iconst (v := 0) hx hb dL_law_947 (by decide) ?_
                                      exact absurd (Option.some.inj hF) (by decide)
                                · replace hF := if_f hF c_133
                                  refine lv_iconst (v := 0) hx hb dL_law_930 (by decide) ?_
                                  exact absurd (Option.some.inj hF) (by decide)
                              · replace hF := if_f hF c_125
                                by_cases c_136 : ((xs x4_23.toNatClampNeg) &&& 31).toInt = 12
                                · replace hF := if_t hF c_136
                                  refine lv_tableIn (off := 913) (tgt := 952) hx hb dL_law_39 (fun h9 => c_3 (Or.inl h9)) (fun h9 => c_3 (Or.inr h9)) (by rw [c_136] <;> rfl) (by decide) ?_
                                  refine lv_aload_n hx hb dL_law_952 rfl (lv_at hl 1 rfl) ?_
                                  refine lv_aload_n hx hb dL_law_953 rfl (lv_at hl 0 rfl) ?_
                                  refine lv_iload hx hb dL_law_954 (lv_at hl 4 rfl) ?_
                                  refine lv_iconst (v := 1) hx hb dL_law_956 (by decide) ?_
                                  refine lv_iadd hx hb dL_law_957 ?_
                                  replace hF := ckI_some hF
                                  obtain ⟨hi_137, hF⟩ := hF
                                  refine va_sld hx hb hX hbl hbA hS hi_137 dL_law_958 ?_
                                  refine lv_aload_n hx hb dL_law_959 rfl (lv_at hl 0 rfl) ?_
                                  refine lv_iload hx hb dL_law_960 (lv_at hl 4 rfl) ?_
                                  refine lv_iconst (v := 2) hx hb dL_law_962 (by decide) ?_
                                  refine lv_iadd hx hb dL_law_963 ?_
                                  replace hF := ckI_some hF
                                  obtain ⟨hi_138, hF⟩ := hF
                                  refine va_sld hx hb hX hbl hbA hS hi_138 dL_law_964 ?_
                                  refine lv_aload_n hx hb dL_law_965 rfl (lv_at hl 3 rfl) ?_
                                  replace hF := bnd_some hF
                                  obtain ⟨z139, hz_139, hF⟩ := hF
                                  refine kwIE (kSW (hh := [(0, 10, 13, 13)]) (As := [.ref (h 0), .int (xs (x4_23 + 1).toNatClampNeg), .int (xs (x4_23 + 2).toNatClampNeg), .ref xo]) ⟨hx, hb, hml, hown, hts⟩ (kL_post l D cy sa h m_day_23 m_coins_23 m_felts_23 m_made_23 m_worth_23 m_rags_23 m_water_23 m_pulp_23 m_beat_23 m_sort_23 m_nM_23 m_mark_23 m_size_23 m_worn_23 m_nT_23 m_skill_23 m_vat_23 m_pair_23 m_nQ_23 m_allS_23 m_pmark_23 m_pgrade_23 m_psheets_23 m_loft_23 t_day_23 t_coins_23 t_felts_23 t_made_23 t_worth_23 t_rags_23 t_water_23 t_pulp_23 t_beat_23 t_sort_23 t_nM_23 t_mark_23 t_size_23 t_worn_23 t_nT_23 t_skill_23 t_vat_23 t_pair_23 t_nQ_23 t_allS_23 t_pmark_23 t_pgrade_23 t_psheets_23 t_loft_23 xo lo_23 (xs (x4_23 + 1).toNatClampNeg) (xs (x4_23 + 2).toNatClampNeg) hst z139 hz_139 _) (vx_cwSW 4 hts gL_law_L_post rfl rfl rfl (by decide +kernel) ⟨Nat.le_of_ble_eq_true rfl, Nat.le_of_ble_eq_true rfl⟩) hK hP hD hS hA hG [0, 1, 2, 3, 4, 5, 6, 7, 8, 9, 10, 11, 12, 13, 14, 15, 16, 17, 18, 19, 20, 21, 22, 23, 24, 25, 26, 27, 28, 29, 30, 31, 32, 33, 34, 35, 36, 37, 38, 39, 40, 49] hcW ndW rfl hl.1 [] rfl (Nat.le_of_ble_eq_true rfl) dL_law_966 ⟨(by show _ ≤ (601024 : Nat); omega), (by show _ ≤ (7293034 : Nat); omega)⟩) hP hD hS hA [0, 1, 2, 3, 4, 5, 6, 7, 8, 9, 10, 11, 12, 13, 14, 15, 16, 17, 18, 19, 20, 21, 22, 23, 24, 25, 26, 27, 28, 29, 30, 31, 32, 33, 34, 35, 36, 37, 38, 39, 40, 49] hcW hmW kpW (fun H locs hP hD hS => ?_)
                                  refine lv_istore (lv' := [(5, .int z139.1), (0, .ref b), (1, .ref (h 0)), (2, .ref (g 0)), (3, .ref xo), (4, .int x4_23)]) hx hb dL_law_969 hl (by decide) rfl (fun ls hl => ?_)
                                  refine lv_aload_n hx hb dL_law_971 rfl (lv_at hl 3 rfl) ?_
                                  refine lv_aload_n hx hb dL_law_972 rfl (lv_at hl 1 rfl) ?_
                                  refine lv_iload hx hb dL_law_973 (lv_at hl 5 rfl) ?_
                                  refine lv_iconst (v := 1) hx hb dL_law_975 (by decide) ?_
                                  refine lv_iadd hx hb dL_law_976 ?_
                                  replace hF := ckI_some hF
                                  obtain ⟨hi_140, hF⟩ := hF
                                  refine va_sld hx hb hX hbl hbA hS hi_140 dL_law_977 ?_
                                  refine lv_aload_n hx hb dL_law_978 rfl (lv_at hl 1 rfl) ?_
                                  refine lv_iload hx hb dL_law_979 (lv_at hl 5 rfl) ?_
                                  refine lv_iconst (v := 2) hx hb dL_law_981 (by decide) ?_
                                  refine lv_iadd hx hb dL_law_982 ?_
                                  replace hF := ckI_some hF
                                  obtain ⟨hi_141, hF⟩ := hF
                                  refine va_sld hx hb hX hbl hbA hS hi_141 dL_law_983 ?_
                                  replace hF := bnd_some hF
                                  obtain ⟨z142, hz_142, hF⟩ := hF
                                  refine kwIE (kV (As := [.int (xs (x4_23 + 1).toNatClampNeg), .int (xs (x4_23 + 2).toNatClampNeg)]) ⟨hx, hb, hml, hown, hts⟩ (kX6_post l D cy sa g o_thrown_23 o_pairs_23 o_teams_23 o_water_23 o_vats_23 o_moulds_23 o_crews_23 o_posts_23 o_loft_23 o_nums_23 (xs (x4_23 + 1).toNatClampNeg) (xs (x4_23 + 2).toNatClampNeg) z142 hz_142 _) (cwV 2 hts gL_law_X6_post rfl rfl rfl (by decide +kernel) ⟨Nat.le_of_ble_eq_true rfl, Nat.le_of_ble_eq_true rfl⟩) hK hP hD hS hA hG [41, 42, 43, 44, 45, 46, 47, 48] hcX5X6L_X6_41 ndX6_41 gtX6_0 rfl rfl rfl hl.1 [] rfl (Nat.le_of_ble_eq_true rfl) dL_law_984 ⟨(by show _ ≤ (601024 : Nat); omega), (by show _ ≤ (7293034 : Nat); omega)⟩) hP hD hS hA [41, 42, 43, 44, 45, 46, 47, 48] hcX5X6L_X6_41 hmX6 kpX5X6L_X6_41 (fun H locs hP hD hS => ?_)
                                  refine lv_istore (lv' := [(6, .int z142.1), (5, .int z139.1), (0, .ref b), (1, .ref (h 0)), (2, .ref (g 0)), (3, .ref xo), (4, .int x4_23)]) hx hb dL_law_987 hl (by decide) rfl (fun ls hl => ?_)
                                  refine lv_aload_n hx hb dL_law_989 rfl (lv_at hl 4 rfl) ?_
                                  replace hF := bnd_some hF
                                  obtain ⟨z143, hz_143, hF⟩ := hF
                                  refine krI (kV (As := []) ⟨hx, hb, hml, hown, hts⟩ (kX6_thrown l D cy sa g z142.2 o_pairs_23 o_teams_23 o_water_23 o_vats_23 o_moulds_23 o_crews_23 o_posts_23 o_loft_23 o_nums_23 z143 hz_143 _) (cwV 0 hts gL_law_X6_thrown rfl rfl rfl (by decide +kernel) ⟨Nat.le_of_ble_eq_true rfl, Nat.le_of_ble_eq_true rfl⟩) hK hP hD hS hA hG [41, 42, 43, 44, 45, 46, 47, 48] hcX5X6L_X6_41 ndX6_41 gtX6_0 rfl rfl rfl hl.1 [] rfl (Nat.le_of_ble_eq_true rfl) dL_law_990 ⟨(by show _ ≤ (601024 : Nat); omega), (by show _ ≤ (7293034 : Nat); omega)⟩) hP hD hS hA [41, 42, 43, 44, 45, 46, 47, 48] hcX5X6L_X6_41 (fun H locs hP hS => ?_)
                                  refine lv_iload hx hb dL_law_993 (lv_at hl 1 rfl) ?_
                                  refine lv_icmp_eq (tgt := 1000) hx hb dL_law_995 (by decide) (fun c_144 => ?_) (fun c_144 => ?_)
                                  · replace hF := if_t hF c_144
                                    refine lv_iload hx hb dL_law_1000 (lv_at hl 1 rfl) ?_
                                    refine lv_if_ne (tgt := 1017) hx hb dL_law_1002 (by decide) (fun c_145 => ?_) (fun c_145 => ?_)
                                    · replace hF := if_f hF c_145
                                      refine lv_goto (tgt := 1447) hx hb dL_law_1017 (by decide) ?_
                                      refine lv_iinc (v := x4_23 + 4) (lv' := [(4, .int (x4_23 + 4)), (6, .int z142.1), (5, .int z139.1), (0, .ref b), (1, .ref (h 0)), (2, .ref (g 0)), (3, .ref xo)]) hx hb dL_law_1447 hl (k := 6) rfl rfl (by decide) rfl (fun ls hl => ?_)
                                      refine lv_goto (tgt := 23) hx hb dL_law_1450 (by decide) ?_
                                      exact ih  m_day_23 m_coins_23 m_felts_23 m_made_23 m_worth_23 m_rags_23 m_water_23 m_pulp_23 m_beat_23 m_sort_23 m_nM_23 m_mark_23 m_size_23 m_worn_23 m_nT_23 m_skill_23 m_vat_23 m_pair_23 m_nQ_23 m_allS_23 m_pmark_23 m_pgrade_23 m_psheets_23 m_loft_23 t_day_23 t_coins_23 t_felts_23 t_made_23 t_worth_23 t_rags_23 t_water_23 t_pulp_23 t_beat_23 t_sort_23 t_nM_23 t_mark_23 t_size_23 t_worn_23 t_nT_23 t_skill_23 t_vat_23 t_pair_23 t_nQ_23 t_allS_23 t_pmark_23 t_pgrade_23 t_psheets_23 t_loft_23 z142.2 o_pairs_23 o_teams_23 o_water_23 o_vats_23 o_moulds_23 o_crews_23 o_posts_23 o_loft_23 o_nums_23 z139.2 (x4_23 + 4)  hF (cu + 1) (su + 6) (by omega) (by omega) _ _ _ hP hD hS (lv_sub hl [3, 4, 5, 6, 0] rfl)
                                    · replace hF := if_t hF c_145
                                      refine lv_aload_n hx hb dL_law_1005 rfl (lv_at hl 5 rfl) ?_
                                      refine lv_iconst (v := 0) hx hb dL_law_1006 (by decide) ?_
                                      refine va_lald hx hb hK hP 49 2 gtX5X6L_49 rfl (show ¬ ((0 : Int32) < 0 ∨ 1 ≤ (0 : Int32).toNatClampNeg) from by decide) dL_law_1007 ?_
                                      refine lv_iload hx hb dL_law_1008 (lv_at hl 0 rfl) ?_
                                      refine lv_i2l hx hb dL_law_1010 rfl ?_
                                      refine W.lcmp hx hb dL_law_1011 ?_
                                      refine lv_if_eq (tgt := 1017) hx hb dL_law_1012 (by decide) (fun c_146 => ?_) (fun c_146 => ?_)
                                      · replace hF := if_t hF c_146
                                        refine lv_goto (tgt := 1447) hx hb dL_law_1017 (by decide) ?_
                                        refine lv_iinc (v := x4_23 + 4) (lv' := [(4, .int (x4_23 + 4)), (6, .int z142.1), (5, .int z139.1), (0, .ref b), (1, .ref (h 0)), (2, .ref (g 0)), (3, .ref xo)]) hx hb dL_law_1447 hl (k := 6) rfl rfl (by decide) rfl (fun ls hl => ?_)
                                        refine lv_goto (tgt := 23) hx hb dL_law_1450 (by decide) ?_
                                        exact ih  m_day_23 m_coins_23 m_felts_23 m_made_23 m_worth_23 m_rags_23 m_water_23 m_pulp_23 m_beat_23 m_sort_23 m_nM_23 m_mark_23 m_size_23 m_worn_23 m_nT_23 m_skill_23 m_vat_23 m_pair_23 m_nQ_23 m_allS_23 m_pmark_23 m_pgrade_23 m_psheets_23 m_loft_23 t_day_23 t_coins_23 t_felts_23 t_made_23 t_worth_23 t_rags_23 t_water_23 t_pulp_23 t_beat_23 t_sort_23 t_nM_23 t_mark_23 t_size_23 t_worn_23 t_nT_23 t_skill_23 t_vat_23 t_pair_23 t_nQ_23 t_allS_23 t_pmark_23 t_pgrade_23 t_psheets_23 t_loft_23 z142.2 o_pairs_23 o_teams_23 o_water_23 o_vats_23 o_moulds_23 o_crews_23 o_posts_23 o_loft_23 o_nums_23 z139.2 (x4_23 + 4)  hF (cu + 1) (su + 6) (by omega) (by omega) _ _ _ hP hD hS (lv_sub hl [3, 4, 5, 6, 0] rfl)
                                      · replace hF := if_f hF c_146
                                        refine lv_iconst (v := 0) hx hb dL_law_1015 (by decide) ?_
                                        exact absurd (Option.some.inj hF) (by decide)
                                  · replace hF := if_f hF c_144
                                    refine lv_iconst (v := 0) hx hb dL_law_998 (by decide) ?_
                                    exact absurd (Option.some.inj hF) (by decide)
                                · replace hF := if_f hF c_136
                                  by_cases c_147 : ((xs x4_23.toNatClampNeg) &&& 31).toInt = 13
                                  · replace hF := if_t hF c_147
                                    refine lv_tableIn (off := 981) (tgt := 1020) hx hb dL_law_39 (fun h9 => c_3 (Or.inl h9)) (fun h9 => c_3 (Or.inr h9)) (by rw [c_147] <;> rfl) (by decide) ?_
                                    refine lv_aload_n hx hb dL_law_1020 rfl (lv_at hl 1 rfl) ?_
                                    refine lv_aload_n hx hb dL_law_1021 rfl (lv_at hl 0 rfl) ?_
                                    refine lv_iload hx hb dL_law_1022 (lv_at hl 4 rfl) ?_
                                    refine lv_iconst (v := 1) hx hb dL_law_1024 (by decide) ?_
                                    refine lv_iadd hx hb dL_law_1025 ?_
                                    replace hF := ckI_some hF
                                    obtain ⟨hi_148, hF⟩ := hF
                                    refine va_sld hx hb hX hbl hbA hS hi_148 dL_law_1026 ?_
                                    refine lv_aload_n hx hb dL_law_1027 rfl (lv_at hl 0 rfl) ?_
                                    refine lv_iload hx hb dL_law_1028 (lv_at hl 4 rfl) ?_
                                    refine lv_iconst (v := 2) hx hb dL_law_1030 (by decide) ?_
                                    refine lv_iadd hx hb dL_law_1031 ?_
                                    replace hF := ckI_some hF
                                    obtain ⟨hi_149, hF⟩ := hF
                                    refine va_sld hx hb hX hbl hbA hS hi_149 dL_law_1032 ?_
                                    refine lv_aload_n hx hb dL_law_1033 rfl (lv_at hl 3 rfl) ?_
                                    replace hF := bnd_some hF
                                    obtain ⟨z150, hz_150, hF⟩ := hF
                                    refine kwIE (kSW (hh := [(0, 10, 13, 13)]) (As := [.ref (h 0), .int (xs (x4_23 + 1).toNatClampNeg), .int (xs (x4_23 + 2).toNatClampNeg), .ref xo]) ⟨hx, hb, hml, hown, hts⟩ (kL_loft l D cy sa h m_day_23 m_coins_23 m_felts_23 m_made_23 m_worth_23 m_rags_23 m_water_23 m_pulp_23 m_beat_23 m_sort_23 m_nM_23 m_mark_23 m_size_23 m_worn_23 m_nT_23 m_skill_23 m_vat_23 m_pair_23 m_nQ_23 m_allS_23 m_pmark_23 m_pgrade_23 m_psheets_23 m_loft_23 t_day_23 t_coins_23 t_felts_23 t_made_23 t_worth_23 t_rags_23 t_water_23 t_pulp_23 t_beat_23 t_sort_23 t_nM_23 t_mark_23 t_size_23 t_worn_23 t_nT_23 t_skill_23 t_vat_23 t_pair_23 t_nQ_23 t_allS_23 t_pmark_23 t_pgrade_23 t_psheets_23 t_loft_23 xo lo_23 (xs (x4_23 + 1).toNatClampNeg) (xs (x4_23 + 2).toNatClampNeg) hst z150 hz_150 _) (vx_cwSW 4 hts gL_law_L_loft rfl rfl rfl (by decide +kernel) ⟨Nat.le_of_ble_eq_true rfl, Nat.le_of_ble_eq_true rfl⟩) hK hP hD hS hA hG [0, 1, 2, 3, 4, 5, 6, 7, 8, 9, 10, 11, 12, 13, 14, 15, 16, 17, 18, 19, 20, 21, 22, 23, 24, 25, 26, 27, 28, 29, 30, 31, 32, 33, 34, 35, 36, 37, 38, 39, 40, 49] hcW ndW rfl hl.1 [] rfl (Nat.le_of_ble_eq_true rfl) dL_law_1034 ⟨(by show _ ≤ (601024 : Nat); omega), (by show _ ≤ (7293034 : Nat); omega)⟩) hP hD hS hA [0, 1, 2, 3, 4, 5, 6, 7, 8, 9, 10, 11, 12, 13, 14, 15, 16, 17, 18, 19, 20, 21, 22, 23, 24, 25, 26, 27, 28, 29, 30, 31, 32, 33, 34, 35, 36, 37, 38, 39, 40, 49] hcW hmW kpW (fun H locs hP hD hS => ?_)
                                    refine lv_istore (lv' := [(5, .int z150.1), (0, .ref b), (1, .ref (h 0)), (2, .ref (g 0)), (3, .ref xo), (4, .int x4_23)]) hx hb dL_law_1037 hl (by decide) rfl (fun ls hl => ?_)
                                    refine lv_aload_n hx hb dL_law_1039 rfl (lv_at hl 3 rfl) ?_
                                    refine lv_aload_n hx hb dL_law_1040 rfl (lv_at hl 1 rfl) ?_
                                    refine lv_iload hx hb dL_law_1041 (lv_at hl 5 rfl) ?_
                                    refine lv_iconst (v := 1) hx hb dL_law_1043 (by decide) ?_
                                    refine lv_iadd hx hb dL_law_1044 ?_
                                    replace hF := ckI_some hF
                                    obtain ⟨hi_151, hF⟩ := hF
                                    refine va_sld hx hb hX hbl hbA hS hi_151 dL_law_1045 ?_
                                    refine lv_aload_n hx hb dL_law_1046 rfl (lv_at hl 1 rfl) ?_
                                    refine lv_iload hx hb dL_law_1047 (lv_at hl 5 rfl) ?_
                                    refine lv_iconst (v := 2) hx hb dL_law_1049 (by decide) ?_
                                    refine lv_iadd hx hb dL_law_1050 ?_
                                    replace hF := ckI_some hF
                                    obtain ⟨hi_152, hF⟩ := hF
                                    refine va_sld hx hb hX hbl hbA hS hi_152 dL_law_1051 ?_
                                    replace hF := bnd_some hF
                                    obtain ⟨z153, hz_153, hF⟩ := hF
                                    refine kwIE (kV (As := [.int (xs (x4_23 + 1).toNatClampNeg), .int (xs (x4_23 + 2).toNatClampNeg)]) ⟨hx, hb, hml, hown, hts⟩ (kX6_loft l D cy sa g o_thrown_23 o_pairs_23 o_teams_23 o_water_23 o_vats_23 o_moulds_23 o_crews_23 o_posts_23 o_loft_23 o_nums_23 (xs (x4_23 + 1).toNatClampNeg) (xs (x4_23 + 2).toNatClampNeg) z153 hz_153 _) (cwV 2 hts gL_law_X6_loft rfl rfl rfl (by decide +kernel) ⟨Nat.le_of_ble_eq_true rfl, Nat.le_of_ble_eq_true rfl⟩) hK hP hD hS hA hG [41, 42, 43, 44, 45, 46, 47, 48] hcX5X6L_X6_41 ndX6_41 gtX6_0 rfl rfl rfl hl.1 [] rfl (Nat.le_of_ble_eq_true rfl) dL_law_1052 ⟨(by show _ ≤ (601024 : Nat); omega), (by show _ ≤ (7293034 : Nat); omega)⟩) hP hD hS hA [41, 42, 43, 44, 45, 46, 47, 48] hcX5X6L_X6_41 hmX6 kpX5X6L_X6_41 (fun H locs hP hD hS => ?_)
                                    refine lv_istore (lv' := [(6, .int z153.1), (5, .int z150.1), (0, .ref b), (1, .ref (h 0)), (2, .ref (g 0)), (3, .ref xo), (4, .int x4_23)]) hx hb dL_law_1055 hl (by decide) rfl (fun ls hl => ?_)
                                    refine lv_aload_n hx hb dL_law_1057 rfl (lv_at hl 4 rfl) ?_
                                    replace hF := bnd_some hF
                                    obtain ⟨z154, hz_154, hF⟩ := hF
                                    refine krI (kV (As := []) ⟨hx, hb, hml, hown, hts⟩ (kX6_thrown l D cy sa g z153.2 o_pairs_23 o_teams_23 o_water_23 o_vats_23 o_moulds_23 o_crews_23 o_posts_23 o_loft_23 o_nums_23 z154 hz_154 _) (cwV 0 hts gL_law_X6_thrown rfl rfl rfl (by decide +kernel) ⟨Nat.le_of_ble_eq_true rfl, Nat.le_of_ble_eq_true rfl⟩) hK hP hD hS hA hG [41, 42, 43, 44, 45, 46, 47, 48] hcX5X6L_X6_41 ndX6_41 gtX6_0 rfl rfl rfl hl.1 [] rfl (Nat.le_of_ble_eq_true rfl) dL_law_1058 ⟨(by show _ ≤ (601024 : Nat); omega), (by show _ ≤ (7293034 : Nat); omega)⟩) hP hD hS hA [41, 42, 43, 44, 45, 46, 47, 48] hcX5X6L_X6_41 (fun H locs hP hS => ?_)
                                    refine lv_iload hx hb dL_law_1061 (lv_at hl 1 rfl) ?_
                                    refine lv_icmp_eq (tgt := 1068) hx hb dL_law_1063 (by decide) (fun c_155 => ?_) (fun c_155 => ?_)
                                    · replace hF := if_t hF c_155
                                      refine lv_iload hx hb dL_law_1068 (lv_at hl 1 rfl) ?_
                                      refine lv_if_ne (tgt := 1085) hx hb dL_law_1070 (by decide) (fun c_156 => ?_) (fun c_156 => ?_)
                                      · replace hF := if_f hF c_156
                                        refine lv_goto (tgt := 1447) hx hb dL_law_1085 (by decide) ?_
                                        refine lv_iinc (v := x4_23 + 4) (lv' := [(4, .int (x4_23 + 4)), (6, .int z153.1), (5, .int z150.1), (0, .ref b), (1, .ref (h 0)), (2, .ref (g 0)), (3, .ref xo)]) hx hb dL_law_1447 hl (k := 6) rfl rfl (by decide) rfl (fun ls hl => ?_)
                                        refine lv_goto (tgt := 23) hx hb dL_law_1450 (by decide) ?_
                                        exact ih  m_day_23 m_coins_23 m_felts_23 m_made_23 m_worth_23 m_rags_23 m_water_23 m_pulp_23 m_beat_23 m_sort_23 m_nM_23 m_mark_23 m_size_23 m_worn_23 m_nT_23 m_skill_23 m_vat_23 m_pair_23 m_nQ_23 m_allS_23 m_pmark_23 m_pgrade_23 m_psheets_23 m_loft_23 t_day_23 t_coins_23 t_felts_23 t_made_23 t_worth_23 t_rags_23 t_water_23 t_pulp_23 t_beat_23 t_sort_23 t_nM_23 t_mark_23 t_size_23 t_worn_23 t_nT_23 t_skill_23 t_vat_23 t_pair_23 t_nQ_23 t_allS_23 t_pmark_23 t_pgrade_23 t_psheets_23 t_loft_23 z153.2 o_pairs_23 o_teams_23 o_water_23 o_vats_23 o_moulds_23 o_crews_23 o_posts_23 o_loft_23 o_nums_23 z150.2 (x4_23 + 4)  hF (cu + 1) (su + 6) (by omega) (by omega) _ _ _ hP hD hS (lv_sub hl [3, 4, 5, 6, 0] rfl)
                                      · replace hF := if_t hF c_156
                                        refine lv_aload_n hx hb dL_law_1073 rfl (lv_at hl 5 rfl) ?_
                                        refine lv_iconst (v := 0) hx hb dL_law_1074 (by decide) ?_
                                        refine va_lald hx hb hK hP 49 2 gtX5X6L_49 rfl (show ¬ ((0 : Int32) < 0 ∨ 1 ≤ (0 : Int32).toNatClampNeg) from by decide) dL_law_1075 ?_
                                        refine lv_iload hx hb dL_law_1076 (lv_at hl 0 rfl) ?_
                                        refine lv_i2l hx hb dL_law_1078 rfl ?_
                                        refine W.lcmp hx hb dL_law_1079 ?_
                                        refine lv_if_eq (tgt := 1085) hx hb dL_law_1080 (by decide) (fun c_157 => ?_) (fun c_157 => ?_)
                                        · replace hF := if_t hF c_157
                                          refine lv_goto (tgt := 1447) hx hb dL_law_1085 (by decide) ?_
                                          refine lv_iinc (v := x4_23 + 4) (lv' := [(4, .int (x4_23 + 4)), (6, .int z153.1), (5, .int z150.1), (0, .ref b), (1, .ref (h 0)), (2, .ref (g 0)), (3, .ref xo)]) hx hb dL_law_1447 hl (k := 6) rfl rfl (by decide) rfl (fun ls hl => ?_)
                                          refine lv_goto (tgt := 23) hx hb dL_law_1450 (by decide) ?_
                                          exact ih  m_day_23 m_coins_23 m_felts_23 m_made_23 m_worth_23 m_rags_23 m_water_23 m_pulp_23 m_beat_23 m_sort_23 m_nM_23 m_mark_23 m_size_23 m_worn_23 m_nT_23 m_skill_23 m_vat_23 m_pair_23 m_nQ_23 m_allS_23 m_pmark_23 m_pgrade_23 m_psheets_23 m_loft_23 t_day_23 t_coins_23 t_felts_23 t_made_23 t_worth_23 t_rags_23 t_water_23 t_pulp_23 t_beat_23 t_sort_23 t_nM_23 t_mark_23 t_size_23 t_worn_23 t_nT_23 t_skill_23 t_vat_23 t_pair_23 t_nQ_23 t_allS_23 t_pmark_23 t_pgrade_23 t_psheets_23 t_loft_23 z153.2 o_pairs_23 o_teams_23 o_water_23 o_vats_23 o_moulds_23 o_crews_23 o_posts_23 o_loft_23 o_nums_23 z150.2 (x4_23 + 4)  hF (cu + 1) (su + 6) (by omega) (by omega) _ _ _ hP hD hS (lv_sub hl [3, 4, 5, 6, 0] rfl)
                                        · replace hF := if_f hF c_157
                                          refine lv_iconst (v := 0) hx hb dL_law_1083 (by decide) ?_
                                          exact absurd (Option.some.inj hF) (by decide)
                                    · replace hF := if_f hF c_155
                                      refine lv_iconst (v := 0) hx hb dL_law_1066 (by decide) ?_
                                      exact absurd (Option.some.inj hF) (by decide)
                                  · replace hF := if_f hF c_147
                                    by_cases c_158 : ((xs x4_23.toNatClampNeg) &&& 31).toInt = 14
                                    · replace hF := if_t hF c_158
                                      refine lv_tableIn (off := 1049) (tgt := 1088) hx hb dL_law_39 (fun h9 => c_3 (Or.inl h9)) (fun h9 => c_3 (Or.inr h9)) (by rw [c_158] <;> rfl) (by decide) ?_
                                      refine lv_aload_n hx hb dL_law_1088 rfl (lv_at hl 1 rfl) ?_
                                      refine lv_aload_n hx hb dL_law_1089 rfl (lv_at hl 0 rfl) ?_
                                      refine lv_iload hx hb dL_law_1090 (lv_at hl 4 rfl) ?_
                                      refine lv_iconst (v := 1) hx hb dL_law_1092 (by decide) ?_
                                      refine lv_iadd hx hb dL_law_1093 ?_
                                      replace hF := ckI_some hF
                                      obtain ⟨hi_159, hF⟩ := hF
                                      refine va_sld hx hb hX hbl hbA hS hi_159 dL_law_1094 ?_
                                      refine lv_aload_n hx hb dL_law_1095 rfl (lv_at hl 3 rfl) ?_
                                      replace hF := bnd_some hF
                                      obtain ⟨z160, hz_160, hF⟩ := hF
                                      refine kwIE (kSW (hh := [(0, 9, 12, 13)]) (As := [.ref (h 0), .int (xs (x4_23 + 1).toNatClampNeg), .ref xo]) ⟨hx, hb, hml, hown, hts⟩ (kL_count l D cy sa h m_day_23 m_coins_23 m_felts_23 m_made_23 m_worth_23 m_rags_23 m_water_23 m_pulp_23 m_beat_23 m_sort_23 m_nM_23 m_mark_23 m_size_23 m_worn_23 m_nT_23 m_skill_23 m_vat_23 m_pair_23 m_nQ_23 m_allS_23 m_pmark_23 m_pgrade_23 m_psheets_23 m_loft_23 t_day_23 t_coins_23 t_felts_23 t_made_23 t_worth_23 t_rags_23 t_water_23 t_pulp_23 t_beat_23 t_sort_23 t_nM_23 t_mark_23 t_size_23 t_worn_23 t_nT_23 t_skill_23 t_vat_23 t_pair_23 t_nQ_23 t_allS_23 t_pmark_23 t_pgrade_23 t_psheets_23 t_loft_23 xo lo_23 (xs (x4_23 + 1).toNatClampNeg) hst z160 hz_160 _) (vx_cwSW 3 hts gL_law_L_count rfl rfl rfl (by decide +kernel) ⟨Nat.le_of_ble_eq_true rfl, Nat.le_of_ble_eq_true rfl⟩) hK hP hD hS hA hG [0, 1, 2, 3, 4, 5, 6, 7, 8, 9, 10, 11, 12, 13, 14, 15, 16, 17, 18, 19, 20, 21, 22, 23, 24, 25, 26, 27, 28, 29, 30, 31, 32, 33, 34, 35, 36, 37, 38, 39, 40, 49] hcW ndW rfl hl.1 [] rfl (Nat.le_of_ble_eq_true rfl) dL_law_1096 ⟨(by show _ ≤ (601024 : Nat); omega), (by show _ ≤ (7293034 : Nat); omega)⟩) hP hD hS hA [0, 1, 2, 3, 4, 5, 6, 7, 8, 9, 10, 11, 12, 13, 14, 15, 16, 17, 18, 19, 20, 21, 22, 23, 24, 25, 26, 27, 28, 29, 30, 31, 32, 33, 34, 35, 36, 37, 38, 39, 40, 49] hcW hmW kpW (fun H locs hP hD hS => ?_)
                                      refine lv_istore (lv' := [(5, .int z160.1), (0, .ref b), (1, .ref (h 0)), (2, .ref (g 0)), (3, .ref xo), (4, .int x4_23)]) hx hb dL_law_1099 hl (by decide) rfl (fun ls hl => ?_)
                                      refine lv_aload_n hx hb dL_law_1101 rfl (lv_at hl 3 rfl) ?_
                                      refine lv_aload_n hx hb dL_law_1102 rfl (lv_at hl 1 rfl) ?_
                                      refine lv_iload hx hb dL_law_1103 (lv_at hl 5 rfl) ?_
                                      refine lv_iconst (v := 1) hx hb dL_law_1105 (by decide) ?_
                                      refine lv_iadd hx hb dL_law_1106 ?_
                                      replace hF := ckI_some hF
                                      obtain ⟨hi_161, hF⟩ := hF
                                      refine va_sld hx hb hX hbl hbA hS hi_161 dL_law_1107 ?_
                                      replace hF := bnd_some hF
                                      obtain ⟨z162, hz_162, hF⟩ := hF
                                      refine kwIE (kV (As := [.int (xs (x4_23 + 1).toNatClampNeg)]) ⟨hx, hb, hml, hown, hts⟩ (kX6_count l D cy sa g o_thrown_23 o_pairs_23 o_teams_23 o_water_23 o_vats_23 o_moulds_23 o_crews_23 o_posts_23 o_loft_23 o_nums_23 (xs (x4_23 + 1).toNatClampNeg) z162 hz_162 _) (cwV 1 hts gL_law_X6_count rfl rfl rfl (by decide +kernel) ⟨Nat.le_of_ble_eq_true rfl, Nat.le_of_ble_eq_true rfl⟩) hK hP hD hS hA hG [41, 42, 43, 44, 45, 46, 47, 48] hcX5X6L_X6_41 ndX6_41 gtX6_0 rfl rfl rfl hl.1 [] rfl (Nat.le_of_ble_eq_true rfl) dL_law_1108 ⟨(by show _ ≤ (601024 : Nat); omega), (by show _ ≤ (7293034 : Nat); omega)⟩) hP hD hS hA [41, 42, 43, 44, 45, 46, 47, 48] hcX5X6L_X6_41 hmX6 kpX5X6L_X6_41 (fun H locs hP hD hS => ?_)
                                      refine lv_istore (lv' := [(6, .int z162.1), (5, .int z160.1), (0, .ref b), (1, .ref (h 0)), (2, .ref (g 0)), (3, .ref xo), (4, .int x4_23)]) hx hb dL_law_1111 hl (by decide) rfl (fun ls hl => ?_)
                                      refine lv_aload_n hx hb dL_law_1113 rfl (lv_at hl 4 rfl) ?_
                                      replace hF := bnd_some hF
                                      obtain ⟨z163, hz_163, hF⟩ := hF
                                      refine krI (kV (As := []) ⟨hx, hb, hml, hown, hts⟩ (kX6_thrown l D cy sa g z162.2 o_pairs_23 o_teams_23 o_water_23 o_vats_23 o_moulds_23 o_crews_23 o_posts_23 o_loft_23 o_nums_23 z163 hz_163 _) (cwV 0 hts gL_law_X6_thrown rfl rfl rfl (by decide +kernel) ⟨Nat.le_of_ble_eq_true rfl, Nat.le_of_ble_eq_true rfl⟩) hK hP hD hS hA hG [41, 42, 43, 44, 45, 46, 47, 48] hcX5X6L_X6_41 ndX6_41 gtX6_0 rfl rfl rfl hl.1 [] rfl (Nat.le_of_ble_eq_true rfl) dL_law_1114 ⟨(by show _ ≤ (601024 : Nat); omega), (by show _ ≤ (7293034 : Nat); omega)⟩) hP hD hS hA [41, 42, 43, 44, 45, 46, 47, 48] hcX5X6L_X6_41 (fun H locs hP hS => ?_)
                                      refine lv_iload hx hb dL_law_1117 (lv_at hl 1 rfl) ?_
                                      refine lv_icmp_eq (tgt := 1124) hx hb dL_law_1119 (by decide) (fun c_164 => ?_) (fun c_164 => ?_)
                                      · replace hF := if_t hF c_164
                                        refine lv_iload hx hb dL_law_1124 (lv_at hl 1 rfl) ?_
                                        refine lv_if_ne (tgt := 1141) hx hb dL_law_1126 (by decide) (fun c_165 => ?_) (fun c_165 => ?_)
                                        · replace hF := if_f hF c_165
                                          refine lv_goto (tgt := 1447) hx hb dL_law_1141 (by decide) ?_
                                          refine lv_iinc (v := x4_23 + 4) (lv' := [(4, .int (x4_23 + 4)), (6, .int z162.1), (5, .int z160.1), (0, .ref b), (1, .ref (h 0)), (2, .ref (g 0)), (3, .ref xo)]) hx hb dL_law_1447 hl (k := 6) rfl rfl (by decide) rfl (fun ls hl => ?_)
                                          refine lv_goto (tgt := 23) hx hb dL_law_1450 (by decide) ?_
                                          exact ih  m_day_23 m_coins_23 m_felts_23 m_made_23 m_worth_23 m_rags_23 m_water_23 m_pulp_23 m_beat_23 m_sort_23 m_nM_23 m_mark_23 m_size_23 m_worn_23 m_nT_23 m_skill_23 m_vat_23 m_pair_23 m_nQ_23 m_allS_23 m_pmark_23 m_pgrade_23 m_psheets_23 m_loft_23 t_day_23 t_coins_23 t_felts_23 t_made_23 t_worth_23 t_rags_23 t_water_23 t_pulp_23 t_beat_23 t_sort_23 t_nM_23 t_mark_23 t_size_23 t_worn_23 t_nT_23 t_skill_23 t_vat_23 t_pair_23 t_nQ_23 t_allS_23 t_pmark_23 t_pgrade_23 t_psheets_23 t_loft_23 z162.2 o_pairs_23 o_teams_23 o_water_23 o_vats_23 o_moulds_23 o_crews_23 o_posts_23 o_loft_23 o_nums_23 z160.2 (x4_23 + 4)  hF (cu + 1) (su + 6) (by omega) (by omega) _ _ _ hP hD hS (lv_sub hl [3, 4, 5, 6, 0] rfl)
                                        · replace hF := if_t hF c_165
                                          refine lv_aload_n hx hb dL_law_1129 rfl (lv_at hl 5 rfl) ?_
                                          refine lv_iconst (v := 0) hx hb dL_law_1130 (by decide) ?_
                                          refine va_lald hx hb hK hP 49 2 gtX5X6L_49 rfl (show ¬ ((0 : Int32) < 0 ∨ 1 ≤ (0 : Int32).toNatClampNeg) from by decide) dL_law_1131 ?_
                                          refine lv_iload hx hb dL_law_1132 (lv_at hl 0 rfl) ?_
                                          refine lv_i2l hx hb dL_law_1134 rfl ?_
                                          refine W.lcmp hx hb dL_law_1135 ?_
                                          refine lv_if_eq (tgt := 1141) hx hb dL_law_1136 (by decide) (fun c_166 => ?_) (fun c_166 => ?_)
                                          · replace hF := if_t hF c_166
                                            refine lv_goto (tgt := 1447) hx hb dL_law_1141 (by decide) ?_
                                            refine lv_iinc (v := x4_23 + 4) (lv' := [(4, .int (x4_23 + 4)), (6, .int z162.1), (5, .int z160.1), (0, .ref b), (1, .ref (h 0)), (2, .ref (g 0)), (3, .ref xo)]) hx hb dL_law_1447 hl (k := 6) rfl rfl (by decide) rfl (fun ls hl => ?_)
                                            refine lv_goto (tgt := 23) hx hb dL_law_1450 (by decide) ?_
                                            exact ih  m_day_23 m_coins_23 m_felts_23 m_made_23 m_worth_23 m_rags_23 m_water_23 m_pulp_23 m_beat_23 m_sort_23 m_nM_23 m_mark_23 m_size_23 m_worn_23 m_nT_23 m_skill_23 m_vat_23 m_pair_23 m_nQ_23 m_allS_23 m_pmark_23 m_pgrade_23 m_psheets_23 m_loft_23 t_day_23 t_coins_23 t_felts_23 t_made_23 t_worth_23 t_rags_23 t_water_23 t_pulp_23 t_beat_23 t_sort_23 t_nM_23 t_mark_23 t_size_23 t_worn_23 t_nT_23 t_skill_23 t_vat_23 t_pair_23 t_nQ_23 t_allS_23 t_pmark_23 t_pgrade_23 t_psheets_23 t_loft_23 z162.2 o_pairs_23 o_teams_23 o_water_23 o_vats_23 o_moulds_23 o_crews_23 o_posts_23 o_loft_23 o_nums_23 z160.2 (x4_23 + 4)  hF (cu + 1) (su + 6) (by omega) (by omega) _ _ _ hP hD hS (lv_sub hl [3, 4, 5, 6, 0] rfl)
                                          · replace hF := if_f hF c_166
                                            refine lv_iconst (v := 0) hx hb dL_law_1139 (by decide) ?_
                                            exact absurd (Option.some.inj hF) (by decide)
                                      · replace hF := if_f hF c_164
                                        refine lv_iconst (v := 0) hx hb dL_law_1122 (by decide) ?_
                                        exact absurd (Option.some.inj hF) (by decide)
                                    · replace hF := if_f hF c_158
                                      by_cases c_167 : ((xs x4_23.toNatClampNeg) &&& 31).toInt = 15
                                      · replace hF := if_t hF c_167
                                        refine lv_tableIn (off := 1105) (tgt := 1144) hx hb dL_law_39 (fun h9 => c_3 (Or.inl h9)) (fun h9 => c_3 (Or.inr h9)) (by rw [c_167] <;> rfl) (by decide) ?_
                                        refine lv_aload_n hx hb dL_law_1144 rfl (lv_at hl 1 rfl) ?_
                                        refine lv_aload_n hx hb dL_law_1145 rfl (lv_at hl 0 rfl) ?_
                                        refine lv_iload hx hb dL_law_1146 (lv_at hl 4 rfl) ?_
                                        refine lv_iconst (v := 1) hx hb dL_law_1148 (by decide) ?_
                                        refine lv_iadd hx hb dL_law_1149 ?_
                                        replace hF := ckI_some hF
                                        obtain ⟨hi_168, hF⟩ := hF
                                        refine va_sld hx hb hX hbl hbA hS hi_168 dL_law_1150 ?_
                                        refine lv_aload_n hx hb dL_law_1151 rfl (lv_at hl 3 rfl) ?_
                                        replace hF := bnd_some hF
                                        obtain ⟨z169, hz_169, hF⟩ := hF
                                        refine kwIE (kSW (hh := [(0, 9, 12, 15)]) (As := [.ref (h 0), .int (xs (x4_23 + 1).toNatClampNeg), .ref xo]) ⟨hx, hb, hml, hown, hts⟩ (kL_pass l D cy sa h m_day_23 m_coins_23 m_felts_23 m_made_23 m_worth_23 m_rags_23 m_water_23 m_pulp_23 m_beat_23 m_sort_23 m_nM_23 m_mark_23 m_size_23 m_worn_23 m_nT_23 m_skill_23 m_vat_23 m_pair_23 m_nQ_23 m_allS_23 m_pmark_23 m_pgrade_23 m_psheets_23 m_loft_23 t_day_23 t_coins_23 t_felts_23 t_made_23 t_worth_23 t_rags_23 t_water_23 t_pulp_23 t_beat_23 t_sort_23 t_nM_23 t_mark_23 t_size_23 t_worn_23 t_nT_23 t_skill_23 t_vat_23 t_pair_23 t_nQ_23 t_allS_23 t_pmark_23 t_pgrade_23 t_psheets_23 t_loft_23 xo lo_23 (xs (x4_23 + 1).toNatClampNeg) hst z169 hz_169 _) (vx_cwSW 3 hts gL_law_L_pass rfl rfl rfl (by decide +kernel) ⟨Nat.le_of_ble_eq_true rfl, Nat.le_of_ble_eq_true rfl⟩) hK hP hD hS hA hG [0, 1, 2, 3, 4, 5, 6, 7, 8, 9, 10, 11, 12, 13, 14, 15, 16, 17, 18, 19, 20, 21, 22, 23, 24, 25, 26, 27, 28, 29, 30, 31, 32, 33, 34, 35, 36, 37, 38, 39, 40, 49] hcW ndW rfl hl.1 [] rfl (Nat.le_of_ble_eq_true rfl) dL_law_1152 ⟨(by show _ ≤ (601024 : Nat); omega), (by show _ ≤ (7293034 : Nat); omega)⟩) hP hD hS hA [0, 1, 2, 3, 4, 5, 6, 7, 8, 9, 10, 11, 12, 13, 14, 15, 16, 17, 18, 19, 20, 21, 22, 23, 24, 25, 26, 27, 28, 29, 30, 31, 32, 33, 34, 35, 36, 37, 38, 39, 40, 49] hcW hmW kpW (fun H locs hP hD hS => ?_)
                                        refine lv_istore (lv' := [(5, .int z169.1), (0, .ref b), (1, .ref (h 0)), (2, .ref (g 0)), (3, .ref xo), (4, .int x4_23)]) hx hb dL_law_1155 hl (by decide) rfl (fun ls hl => ?_)
                                        refine lv_aload_n hx hb dL_law_1157 rfl (lv_at hl 3 rfl) ?_
                                        refine lv_aload_n hx hb dL_law_1158 rfl (lv_at hl 1 rfl) ?_
                                        refine lv_iload hx hb dL_law_1159 (lv_at hl 5 rfl) ?_
                                        refine lv_iconst (v := 1) hx hb dL_law_1161 (by decide) ?_
                                        refine lv_iadd hx hb dL_law_1162 ?_
                                        replace hF := ckI_some hF
                                        obtain ⟨hi_170, hF⟩ := hF
                                        refine va_sld hx hb hX hbl hbA hS hi_170 dL_law_1163 ?_
                                        replace hF := bnd_some hF
                                        obtain ⟨z171, hz_171, hF⟩ := hF
                                        refine kwIE (kV (As := [.int (xs (x4_23 + 1).toNatClampNeg)]) ⟨hx, hb, hml, hown, hts⟩ (kX6_pass l D cy sa g o_thrown_23 o_pairs_23 o_teams_23 o_water_23 o_vats_23 o_moulds_23 o_crews_23 o_posts_23 o_loft_23 o_nums_23 (xs (x4_23 + 1).toNatClampNeg) z171 hz_171 _) (cwV 1 hts gL_law_X6_pass rfl rfl rfl (by decide +kernel) ⟨Nat.le_of_ble_eq_true rfl, Nat.le_of_ble_eq_true rfl⟩) hK hP hD hS hA hG [41, 42, 43, 44, 45, 46, 47, 48] hcX5X6L_X6_41 ndX6_41 gtX6_0 rfl rfl rfl hl.1 [] rfl (Nat.le_of_ble_eq_true rfl) dL_law_1164 ⟨(by show _ ≤ (601024 : Nat); omega), (by show _ ≤ (7293034 : Nat); omega)⟩) hP hD hS hA [41, 42, 43, 44, 45, 46, 47, 48] hcX5X6L_X6_41 hmX6 kpX5X6L_X6_41 (fun H locs hP hD hS => ?_)
                                        refine lv_istore (lv' := [(6, .int z171.1), (5, .int z169.1), (0, .ref b), (1, .ref (h 0)), (2, .ref (g 0)), (3, .ref xo), (4, .int x4_23)]) hx hb dL_law_1167 hl (by decide) rfl (fun ls hl => ?_)
                                        refine lv_aload_n hx hb dL_law_1169 rfl (lv_at hl 4 rfl) ?_
                                        replace hF := bnd_some hF
                                        obtain ⟨z172, hz_172, hF⟩ := hF
                                        refine krI (kV (As := []) ⟨hx, hb, hml, hown, hts⟩ (kX6_thrown l D cy sa g z171.2.1 o_pairs_23 o_teams_23 o_water_23 z171.2.2.1 z171.2.2.2.1 o_crews_23 z171.2.2.2.2.1 z171.2.2.2.2.2.1 z171.2.2.2.2.2.2 z172 hz_172 _) (cwV 0 hts gL_law_X6_thrown rfl rfl rfl (by decide +kernel) ⟨Nat.le_of_ble_eq_true rfl, Nat.le_of_ble_eq_true rfl⟩) hK hP hD hS hA hG [41, 42, 43, 44, 45, 46, 47, 48] hcX5X6L_X6_41 ndX6_41 gtX6_0 rfl rfl rfl hl.1 [] rfl (Nat.le_of_ble_eq_true rfl) dL_law_1170 ⟨(by show _ ≤ (601024 : Nat); omega), (by show _ ≤ (7293034 : Nat); omega)⟩) hP hD hS hA [41, 42, 43, 44, 45, 46, 47, 48] hcX5X6L_X6_41 (fun H locs hP hS => ?_)
                                        refine lv_iload hx hb dL_law_1173 (lv_at hl 1 rfl) ?_
                                        refine lv_icmp_eq (tgt := 1180) hx hb dL_law_1175 (by decide) (fun c_173 => ?_) (fun c_173 => ?_)
                                        · replace hF := if_t hF c_173
                                          refine lv_iload hx hb dL_law_1180 (lv_at hl 1 rfl) ?_
                                          refine lv_if_ne (tgt := 1197) hx hb dL_law_1182 (by decide) (fun c_174 => ?_) (fun c_174 => ?_)
                                          · replace hF := if_f hF c_174
                                            refine lv_goto (tgt := 1447) hx hb dL_law_1197 (by decide) ?_
                                            refine lv_iinc (v := x4_23 + 4) (lv' := [(4, .int (x4_23 + 4)), (6, .int z171.1), (5, .int z169.1), (0, .ref b), (1, .ref (h 0)), (2, .ref (g 0)), (3, .ref xo)]) hx hb dL_law_1447 hl (k := 6) rfl rfl (by decide) rfl (fun ls hl => ?_)
                                            refine lv_goto (tgt := 23) hx hb dL_law_1450 (by decide) ?_
                                            exact ih  z169.2.1 m_coins_23 m_felts_23 z169.2.2.1 z169.2.2.2.1 m_rags_23 m_water_23 z169.2.2.2.2.1 z169.2.2.2.2.2.1 z169.2.2.2.2.2.2.1 m_nM_23 m_mark_23 m_size_23 z169.2.2.2.2.2.2.2.1 m_nT_23 m_skill_23 m_vat_23 m_pair_23 z169.2.2.2.2.2.2.2.2.1 z169.2.2.2.2.2.2.2.2.2.1 z169.2.2.2.2.2.2.2.2.2.2.1 z169.2.2.2.2.2.2.2.2.2.2.2.1 z169.2.2.2.2.2.2.2.2.2.2.2.2.1 z169.2.2.2.2.2.2.2.2.2.2.2.2.2.1 t_day_23 t_coins_23 t_felts_23 t_made_23 t_worth_23 t_rags_23 t_water_23 t_pulp_23 t_beat_23 t_sort_23 t_nM_23 t_mark_23 t_size_23 t_worn_23 t_nT_23 t_skill_23 t_vat_23 t_pair_23 t_nQ_23 t_allS_23 t_pmark_23 t_pgrade_23 t_psheets_23 t_loft_23 z171.2.1 o_pairs_23 o_teams_23 o_water_23 z171.2.2.1 z171.2.2.2.1 o_crews_23 z171.2.2.2.2.1 z171.2.2.2.2.2.1 z171.2.2.2.2.2.2 z169.2.2.2.2.2.2.2.2.2.2.2.2.2.2 (x4_23 + 4)  hF (cu + 165) (su + 498) (by omega) (by omega) _ _ _ hP hD hS (lv_sub hl [3, 4, 5, 6, 0] rfl)
                                          · replace hF := if_t hF c_174
                                            refine lv_aload_n hx hb dL_law_1185 rfl (lv_at hl 5 rfl) ?_
                                            refine lv_iconst (v := 0) hx hb dL_law_1186 (by decide) ?_
                                            refine va_lald hx hb hK hP 49 2 gtX5X6L_49 rfl (show ¬ ((0 : Int32) < 0 ∨ 1 ≤ (0 : Int32).toNatClampNeg) from by decide) dL_law_1187 ?_
                                            refine lv_iload hx hb dL_law_1188 (lv_at hl 0 rfl) ?_
                                            refine lv_i2l hx hb dL_law_1190 rfl ?_
                                            refine W.lcmp hx hb dL_law_1191 ?_
                                            refine lv_if_eq (tgt := 1197) hx hb dL_law_1192 (by decide) (fun c_175 => ?_) (fun c_175 => ?_)
                                            · replace hF := if_t hF c_175
                                              refine lv_goto (tgt := 1447) hx hb dL_law_1197 (by decide) ?_
                                              refine lv_iinc (v := x4_23 + 4) (lv' := [(4, .int (x4_23 + 4)), (6, .int z171.1), (5, .int z169.1), (0, .ref b), (1, .ref (h 0)), (2, .ref (g 0)), (3, .ref xo)]) hx hb dL_law_1447 hl (k := 6) rfl rfl (by decide) rfl (fun ls hl => ?_)
                                              refine lv_goto (tgt := 23) hx hb dL_law_1450 (by decide) ?_
                                              exact ih  z169.2.1 m_coins_23 m_felts_23 z169.2.2.1 z169.2.2.2.1 m_rags_23 m_water_23 z169.2.2.2.2.1 z169.2.2.2.2.2.1 z169.2.2.2.2.2.2.1 m_nM_23 m_mark_23 m_size_23 z169.2.2.2.2.2.2.2.1 m_nT_23 m_skill_23 m_vat_23 m_pair_23 z169.2.2.2.2.2.2.2.2.1 z169.2.2.2.2.2.2.2.2.2.1 z169.2.2.2.2.2.2.2.2.2.2.1 z169.2.2.2.2.2.2.2.2.2.2.2.1 z169.2.2.2.2.2.2.2.2.2.2.2.2.1 z169.2.2.2.2.2.2.2.2.2.2.2.2.2.1 t_day_23 t_coins_23 t_felts_23 t_made_23 t_worth_23 t_rags_23 t_water_23 t_pulp_23 t_beat_23 t_sort_23 t_nM_23 t_mark_23 t_size_23 t_worn_23 t_nT_23 t_skill_23 t_vat_23 t_pair_23 t_nQ_23 t_allS_23 t_pmark_23 t_pgrade_23 t_psheets_23 t_loft_23 z171.2.1 o_pairs_23 o_teams_23 o_water_23 z171.2.2.1 z171.2.2.2.1 o_crews_23 z171.2.2.2.2.1 z171.2.2.2.2.2.1 z171.2.2.2.2.2.2 z169.2.2.2.2.2.2.2.2.2.2.2.2.2.2 (x4_23 + 4)  hF (cu + 165) (su + 498) (by omega) (by omega) _ _ _ hP hD hS (lv_sub hl [3, 4, 5, 6, 0] rfl)
                                            · replace hF := if_f hF c_175
                                              refine lv_iconst (v := 0) hx hb dL_law_1195 (by decide) ?_
                                              exact absurd (Option.some.inj hF) (by decide)
                                        · replace hF := if_f hF c_173
                                          refine lv_iconst (v := 0) hx hb dL_law_1178 (by decide) ?_
                                          exact absurd (Option.some.inj hF) (by decide)
                                      · replace hF := if_f hF c_167
                                        by_cases c_176 : ((xs x4_23.toNatClampNeg) &&& 31).toInt = 16
                                        · replace hF := if_t hF c_176
                                          refine lv_tableIn (off := 1161) (tgt := 1200) hx hb dL_law_39 (fun h9 => c_3 (Or.inl h9)) (fun h9 => c_3 (Or.inr h9)) (by rw [c_176] <;> rfl) (by decide) ?_
                                          refine lv_aload_n hx hb dL_law_1200 rfl (lv_at hl 1 rfl) ?_
                                          refine lv_aload_n hx hb dL_law_1201 rfl (lv_at hl 0 rfl) ?_
                                          refine lv_iload hx hb dL_law_1202 (lv_at hl 4 rfl) ?_
                                          refine lv_iconst (v := 1) hx hb dL_law_1204 (by decide) ?_
                                          refine lv_iadd hx hb dL_law_1205 ?_
                                          replace hF := ckI_some hF
                                          obtain ⟨hi_177, hF⟩ := hF
                                          refine va_sld hx hb hX hbl hbA hS hi_177 dL_law_1206 ?_
                                          refine lv_aload_n hx hb dL_law_1207 rfl (lv_at hl 0 rfl) ?_
                                          refine lv_iload hx hb dL_law_1208 (lv_at hl 4 rfl) ?_
                                          refine lv_iconst (v := 2) hx hb dL_law_1210 (by decide) ?_
                                          refine lv_iadd hx hb dL_law_1211 ?_
                                          replace hF := ckI_some hF
                                          obtain ⟨hi_178, hF⟩ := hF
                                          refine va_sld hx hb hX hbl hbA hS hi_178 dL_law_1212 ?_
                                          refine lv_aload_n hx hb dL_law_1213 rfl (lv_at hl 3 rfl) ?_
                                          replace hF := bnd_some hF
                                          obtain ⟨z179, hz_179, hF⟩ := hF
                                          refine kwIE (kSW (hh := [(0, 10, 13, 13), (0, 10, 17, 15)]) (As := [.ref (h 0), .int (xs (x4_23 + 1).toNatClampNeg), .int (xs (x4_23 + 2).toNatClampNeg), .ref xo]) ⟨hx, hb, hml, hown, hts⟩ (kL_ripe l D cy sa h m_day_23 m_coins_23 m_felts_23 m_made_23 m_worth_23 m_rags_23 m_water_23 m_pulp_23 m_beat_23 m_sort_23 m_nM_23 m_mark_23 m_size_23 m_worn_23 m_nT_23 m_skill_23 m_vat_23 m_pair_23 m_nQ_23 m_allS_23 m_pmark_23 m_pgrade_23 m_psheets_23 m_loft_23 t_day_23 t_coins_23 t_felts_23 t_made_23 t_worth_23 t_rags_23 t_water_23 t_pulp_23 t_beat_23 t_sort_23 t_nM_23 t_mark_23 t_size_23 t_worn_23 t_nT_23 t_skill_23 t_vat_23 t_pair_23 t_nQ_23 t_allS_23 t_pmark_23 t_pgrade_23 t_psheets_23 t_loft_23 xo lo_23 (xs (x4_23 + 1).toNatClampNeg) (xs (x4_23 + 2).toNatClampNeg) hst z179 hz_179 _) (vx_cwSW 4 hts gL_law_L_ripe rfl rfl rfl (by decide +kernel) ⟨Nat.le_of_ble_eq_true rfl, Nat.le_of_ble_eq_true rfl⟩) hK hP hD hS hA hG [0, 1, 2, 3, 4, 5, 6, 7, 8, 9, 10, 11, 12, 13, 14, 15, 16, 17, 18, 19, 20, 21, 22, 23, 24, 25, 26, 27, 28, 29, 30, 31, 32, 33, 34, 35, 36, 37, 38, 39, 40, 49] hcW ndW rfl hl.1 [] rfl (Nat.le_of_ble_eq_true rfl) dL_law_1214 ⟨(by show _ ≤ (601024 : Nat); omega), (by show _ ≤ (7293034 : Nat); omega)⟩) hP hD hS hA [0, 1, 2, 3, 4, 5, 6, 7, 8, 9, 10, 11, 12, 13, 14, 15, 16, 17, 18, 19, 20, 21, 22, 23, 24, 25, 26, 27, 28, 29, 30, 31, 32, 33, 34, 35, 36, 37, 38, 39, 40, 49] hcW hmW kpW (fun H locs hP hD hS => ?_)
                                          refine lv_istore (lv' := [(5, .int z179.1), (0, .ref b), (1, .ref (h 0)), (2, .ref (g 0)), (3, .ref xo), (4, .int x4_23)]) hx hb dL_law_1217 hl (by decide) rfl (fun ls hl => ?_)
                                          refine lv_aload_n hx hb dL_law_1219 rfl (lv_at hl 3 rfl) ?_
                                          refine lv_aload_n hx hb dL_law_1220 rfl (lv_at hl 1 rfl) ?_
                                          refine lv_iload hx hb dL_law_1221 (lv_at hl 5 rfl) ?_
                                          refine lv_iconst (v := 1) hx hb dL_law_1223 (by decide) ?_
                                          refine lv_iadd hx hb dL_law_1224 ?_
                                          replace hF := ckI_some hF
                                          obtain ⟨hi_180, hF⟩ := hF
                                          refine va_sld hx hb hX hbl hbA hS hi_180 dL_law_1225 ?_
                                          refine lv_aload_n hx hb dL_law_1226 rfl (lv_at hl 1 rfl) ?_
                                          refine lv_iload hx hb dL_law_1227 (lv_at hl 5 rfl) ?_
                                          refine lv_iconst (v := 2) hx hb dL_law_1229 (by decide) ?_
                                          refine lv_iadd hx hb dL_law_1230 ?_
                                          replace hF := ckI_some hF
                                          obtain ⟨hi_181, hF⟩ := hF
                                          refine va_sld hx hb hX hbl hbA hS hi_181 dL_law_1231 ?_
                                          replace hF := bnd_some hF
                                          obtain ⟨z182, hz_182, hF⟩ := hF
                                          refine kwIE (kV (As := [.int (xs (x4_23 + 1).toNatClampNeg), .int (xs (x4_23 + 2).toNatClampNeg)]) ⟨hx, hb, hml, hown, hts⟩ (kX6_ripe l D cy sa g o_thrown_23 o_pairs_23 o_teams_23 o_water_23 o_vats_23 o_moulds_23 o_crews_23 o_posts_23 o_loft_23 o_nums_23 (xs (x4_23 + 1).toNatClampNeg) (xs (x4_23 + 2).toNatClampNeg) z182 hz_182 _) (cwV 2 hts gL_law_X6_ripe rfl rfl rfl (by decide +kernel) ⟨Nat.le_of_ble_eq_true rfl, Nat.le_of_ble_eq_true rfl⟩) hK hP hD hS hA hG [41, 42, 43, 44, 45, 46, 47, 48] hcX5X6L_X6_41 ndX6_41 gtX6_0 rfl rfl rfl hl.1 [] rfl (Nat.le_of_ble_eq_true rfl) dL_law_1232 ⟨(by show _ ≤ (601024 : Nat); omega), (by show _ ≤ (7293034 : Nat); omega)⟩) hP hD hS hA [41, 42, 43, 44, 45, 46, 47, 48] hcX5X6L_X6_41 hmX6 kpX5X6L_X6_41 (fun H locs hP hD hS => ?_)
                                          refine lv_istore (lv' := [(6, .int z182.1), (5, .int z179.1), (0, .ref b), (1, .ref (h 0)), (2, .ref (g 0)), (3, .ref xo), (4, .int x4_23)]) hx hb dL_law_1235 hl (by decide) rfl (fun ls hl => ?_)
                                          refine lv_aload_n hx hb dL_law_1237 rfl (lv_at hl 4 rfl) ?_
                                          replace hF := bnd_some hF
                                          obtain ⟨z183, hz_183, hF⟩ := hF
                                          refine krI (kV (As := []) ⟨hx, hb, hml, hown, hts⟩ (kX6_thrown l D cy sa g z182.2.1 o_pairs_23 o_teams_23 o_water_23 z182.2.2.1 z182.2.2.2.1 z182.2.2.2.2.1 z182.2.2.2.2.2.1 z182.2.2.2.2.2.2.1 z182.2.2.2.2.2.2.2 z183 hz_183 _) (cwV 0 hts gL_law_X6_thrown rfl rfl rfl (by decide +kernel) ⟨Nat.le_of_ble_eq_true rfl, Nat.le_of_ble_eq_true rfl⟩) hK hP hD hS hA hG [41, 42, 43, 44, 45, 46, 47, 48] hcX5X6L_X6_41 ndX6_41 gtX6_0 rfl rfl rfl hl.1 [] rfl (Nat.le_of_ble_eq_true rfl) dL_law_1238 ⟨(by show _ ≤ (601024 : Nat); omega), (by show _ ≤ (7293034 : Nat); omega)⟩) hP hD hS hA [41, 42, 43, 44, 45, 46, 47, 48] hcX5X6L_X6_41 (fun H locs hP hS => ?_)
                                          refine lv_iload hx hb dL_law_1241 (lv_at hl 1 rfl) ?_
                                          refine lv_icmp_eq (tgt := 1248) hx hb dL_law_1243 (by decide) (fun c_184 => ?_) (fun c_184 => ?_)
                                          · replace hF := if_t hF c_184
                                            refine lv_iload hx hb dL_law_1248 (lv_at hl 1 rfl) ?_
                                            refine lv_if_ne (tgt := 1265) hx hb dL_law_1250 (by decide) (fun c_185 => ?_) (fun c_185 => ?_)
                                            · replace hF := if_f hF c_185
                                              refine lv_goto (tgt := 1447) hx hb dL_law_1265 (by decide) ?_
                                              refine lv_iinc (v := x4_23 + 4) (lv' := [(4, .int (x4_23 + 4)), (6, .int z182.1), (5, .int z179.1), (0, .ref b), (1, .ref (h 0)), (2, .ref (g 0)), (3, .ref xo)]) hx hb dL_law_1447 hl (k := 6) rfl rfl (by decide) rfl (fun ls hl => ?_)
                                              refine lv_goto (tgt := 23) hx hb dL_law_1450 (by decide) ?_
                                              exact ih  m_day_23 m_coins_23 m_felts_23 m_made_23 m_worth_23 m_rags_23 m_water_23 m_pulp_23 m_beat_23 m_sort_23 m_nM_23 m_mark_23 m_size_23 m_worn_23 m_nT_23 m_skill_23 m_vat_23 m_pair_23 m_nQ_23 m_allS_23 m_pmark_23 m_pgrade_23 m_psheets_23 m_loft_23 z179.2.1 z179.2.2.1 z179.2.2.2.1 z179.2.2.2.2.1 z179.2.2.2.2.2.1 z179.2.2.2.2.2.2.1 z179.2.2.2.2.2.2.2.1 z179.2.2.2.2.2.2.2.2.1 z179.2.2.2.2.2.2.2.2.2.1 z179.2.2.2.2.2.2.2.2.2.2.1 z179.2.2.2.2.2.2.2.2.2.2.2.1 z179.2.2.2.2.2.2.2.2.2.2.2.2.1 z179.2.2.2.2.2.2.2.2.2.2.2.2.2.1 z179.2.2.2.2.2.2.2.2.2.2.2.2.2.2.1 z179.2.2.2.2.2.2.2.2.2.2.2.2.2.2.2.1 z179.2.2.2.2.2.2.2.2.2.2.2.2.2.2.2.2.1 z179.2.2.2.2.2.2.2.2.2.2.2.2.2.2.2.2.2.1 z179.2.2.2.2.2.2.2.2.2.2.2.2.2.2.2.2.2.2.1 z179.2.2.2.2.2.2.2.2.2.2.2.2.2.2.2.2.2.2.2.1 z179.2.2.2.2.2.2.2.2.2.2.2.2.2.2.2.2.2.2.2.2.1 z179.2.2.2.2.2.2.2.2.2.2.2.2.2.2.2.2.2.2.2.2.2.1 z179.2.2.2.2.2.2.2.2.2.2.2.2.2.2.2.2.2.2.2.2.2.2.1 z179.2.2.2.2.2.2.2.2.2.2.2.2.2.2.2.2.2.2.2.2.2.2.2.1 z179.2.2.2.2.2.2.2.2.2.2.2.2.2.2.2.2.2.2.2.2.2.2.2.2.1 z182.2.1 o_pairs_23 o_teams_23 o_water_23 z182.2.2.1 z182.2.2.2.1 z182.2.2.2.2.1 z182.2.2.2.2.2.1 z182.2.2.2.2.2.2.1 z182.2.2.2.2.2.2.2 z179.2.2.2.2.2.2.2.2.2.2.2.2.2.2.2.2.2.2.2.2.2.2.2.2.2 (x4_23 + 4)  hF (cu + 257) (su + 1107) (by omega) (by omega) _ _ _ hP hD hS (lv_sub hl [3, 4, 5, 6, 0] rfl)
                                            · replace hF := if_t hF c_185
                                              refine lv_aload_n hx hb dL_law_1253 rfl (lv_at hl 5 rfl) ?_
                                              refine lv_iconst (v := 0) hx hb dL_law_1254 (by decide) ?_
                                              refine va_lald hx hb hK hP 49 2 gtX5X6L_49 rfl (show ¬ ((0 : Int32) < 0 ∨ 1 ≤ (0 : Int32).toNatClampNeg) from by decide) dL_law_1255 ?_
                                              refine lv_iload hx hb dL_law_1256 (lv_at hl 0 rfl) ?_
                                              refine lv_i2l hx hb dL_law_1258 rfl ?_
                                              refine W.lcmp hx hb dL_law_1259 ?_
                                              refine lv_if_eq (tgt := 1265) hx hb dL_law_1260 (by decide) (fun c_186 => ?_) (fun c_186 => ?_)
                                              · replace hF := if_t hF c_186
                                                refine lv_goto (tgt := 1447) hx hb dL_law_1265 (by decide) ?_
                                                refine lv_iinc (v := x4_23 + 4) (lv' := [(4, .int (x4_23 + 4)), (6, .int z182.1), (5, .int z179.1), (0, .ref b), (1, .ref (h 0)), (2, .ref (g 0)), (3, .ref xo)]) hx hb dL_law_1447 hl (k := 6) rfl rfl (by decide) rfl (fun ls hl => ?_)
                                                refine lv_goto (tgt := 23) hx hb dL_law_1450 (by decide) ?_
                                                exact ih  m_day_23 m_coins_23 m_felts_23 m_made_23 m_worth_23 m_rags_23 m_water_23 m_pulp_23 m_beat_23 m_sort_23 m_nM_23 m_mark_23 m_size_23 m_worn_23 m_nT_23 m_skill_23 m_vat_23 m_pair_23 m_nQ_23 m_allS_23 m_pmark_23 m_pgrade_23 m_psheets_23 m_loft_23 z179.2.1 z179.2.2.1 z179.2.2.2.1 z179.2.2.2.2.1 z179.2.2.2.2.2.1 z179.2.2.2.2.2.2.1 z179.2.2.2.2.2.2.2.1 z179.2.2.2.2.2.2.2.2.1 z179.2.2.2.2.2.2.2.2.2.1 z179.2.2.2.2.2.2.2.2.2.2.1 z179.2.2.2.2.2.2.2.2.2.2.2.1 z179.2.2.2.2.2.2.2.2.2.2.2.2.1 z179.2.2.2.2.2.2.2.2.2.2.2.2.2.1 z179.2.2.2.2.2.2.2.2.2.2.2.2.2.2.1 z179.2.2.2.2.2.2.2.2.2.2.2.2.2.2.2.1 z179.2.2.2.2.2.2.2.2.2.2.2.2.2.2.2.2.1 z179.2.2.2.2.2.2.2.2.2.2.2.2.2.2.2.2.2.1 z179.2.2.2.2.2.2.2.2.2.2.2.2.2.2.2.2.2.2.1 z179.2.2.2.2.2.2.2.2.2.2.2.2.2.2.2.2.2.2.2.1 z179.2.2.2.2.2.2.2.2.2.2.2.2.2.2.2.2.2.2.2.2.1 z179.2.2.2.2.2.2.2.2.2.2.2.2.2.2.2.2.2.2.2.2.2.1 z179.2.2.2.2.2.2.2.2.2.2.2.2.2.2.2.2.2.2.2.2.2.2.1 z179.2.2.2.2.2.2.2.2.2.2.2.2.2.2.2.2.2.2.2.2.2.2.2.1 z179.2.2.2.2.2.2.2.2.2.2.2.2.2.2.2.2.2.2.2.2.2.2.2.2.1 z182.2.1 o_pairs_23 o_teams_23 o_water_23 z182.2.2.1 z182.2.2.2.1 z182.2.2.2.2.1 z182.2.2.2.2.2.1 z182.2.2.2.2.2.2.1 z182.2.2.2.2.2.2.2 z179.2.2.2.2.2.2.2.2.2.2.2.2.2.2.2.2.2.2.2.2.2.2.2.2.2 (x4_23 + 4)  hF (cu + 257) (su + 1107) (by omega) (by omega) _ _ _ hP hD hS (lv_sub hl [3, 4, 5, 6, 0] rfl)
                                              · replace hF := if_f hF c_186
                                                refine lv_iconst (v := 0) hx hb dL_law_1263 (by decide) ?_
                                                exact absurd (Option.some.inj hF) (by decide)
                                          · replace hF := if_f hF c_184
                                            refine lv_iconst (v := 0) hx hb dL_law_1246 (by decide) ?_
                                            exact absurd (Option.some.inj hF) (by decide)
                                        · replace hF := if_f hF c_176
                                          by_cases c_187 : ((xs x4_23.toNatClampNeg) &&& 31).toInt = 17
                                          · replace hF := if_t hF c_187
                                            refine lv_tableIn (off := 1229) (tgt := 1268) hx hb dL_law_39 (fun h9 => c_3 (Or.inl h9)) (fun h9 => c_3 (Or.inr h9)) (by rw [c_187] <;> rfl) (by decide) ?_
                                            refine lv_aload_n hx hb dL_law_1268 rfl (lv_at hl 1 rfl) ?_
                                            refine lv_aload_n hx hb dL_law_1269 rfl (lv_at hl 0 rfl) ?_
                                            refine lv_iload hx hb dL_law_1270 (lv_at hl 4 rfl) ?_
                                            refine lv_iconst (v := 1) hx hb dL_law_1272 (by decide) ?_
                                            refine lv_iadd hx hb dL_law_1273 ?_
                                            replace hF := ckI_some hF
                                            obtain ⟨hi_188, hF⟩ := hF
                                            refine va_sld hx hb hX hbl hbA hS hi_188 dL_law_1274 ?_
                                            refine lv_aload_n hx hb dL_law_1275 rfl (lv_at hl 0 rfl) ?_
                                            refine lv_iload hx hb dL_law_1276 (lv_at hl 4 rfl) ?_
                                            refine lv_iconst (v := 2) hx hb dL_law_1278 (by decide) ?_
                                            refine lv_iadd hx hb dL_law_1279 ?_
                                            replace hF := ckI_some hF
                                            obtain ⟨hi_189, hF⟩ := hF
                                            refine va_sld hx hb hX hbl hbA hS hi_189 dL_law_1280 ?_
                                            refine lv_aload_n hx hb dL_law_1281 rfl (lv_at hl 3 rfl) ?_
                                            replace hF := bnd_some hF
                                            obtain ⟨z190, hz_190, hF⟩ := hF
                                            refine kwIE (kSW (hh := [(0, 10, 13, 15), (0, 10, 17, 13)]) (As := [.ref (h 0), .int (xs (x4_23 + 1).toNatClampNeg), .int (xs (x4_23 + 2).toNatClampNeg), .ref xo]) ⟨hx, hb, hml, hown, hts⟩ (kL_foresee l D cy sa h m_day_23 m_coins_23 m_felts_23 m_made_23 m_worth_23 m_rags_23 m_water_23 m_pulp_23 m_beat_23 m_sort_23 m_nM_23 m_mark_23 m_size_23 m_worn_23 m_nT_23 m_skill_23 m_vat_23 m_pair_23 m_nQ_23 m_allS_23 m_pmark_23 m_pgrade_23 m_psheets_23 m_loft_23 t_day_23 t_coins_23 t_felts_23 t_made_23 t_worth_23 t_rags_23 t_water_23 t_pulp_23 t_beat_23 t_sort_23 t_nM_23 t_mark_23 t_size_23 t_worn_23 t_nT_23 t_skill_23 t_vat_23 t_pair_23 t_nQ_23 t_allS_23 t_pmark_23 t_pgrade_23 t_psheets_23 t_loft_23 xo lo_23 (xs (x4_23 + 1).toNatClampNeg) (xs (x4_23 + 2).toNatClampNeg) hst z190 hz_190 _) (vx_cwSW 4 hts gL_law_L_foresee rfl rfl rfl (by decide +kernel) ⟨Nat.le_of_ble_eq_true rfl, Nat.le_of_ble_eq_true rfl⟩) hK hP hD hS hA hG [0, 1, 2, 3, 4, 5, 6, 7, 8, 9, 10, 11, 12, 13, 14, 15, 16, 17, 18, 19, 20, 21, 22, 23, 24, 25, 26, 27, 28, 29, 30, 31, 32, 33, 34, 35, 36, 37, 38, 39, 40, 49] hcW ndW rfl hl.1 [] rfl (Nat.le_of_ble_eq_true rfl) dL_law_1282 ⟨(by show _ ≤ (601024 : Nat); omega), (by show _ ≤ (7293034 : Nat); omega)⟩) hP hD hS hA [0, 1, 2, 3, 4, 5, 6, 7, 8, 9, 10, 11, 12, 13, 14, 15, 16, 17, 18, 19, 20, 21, 22, 23, 24, 25, 26, 27, 28, 29, 30, 31, 32, 33, 34, 35, 36, 37, 38, 39, 40, 49] hcW hmW kpW (fun H locs hP hD hS => ?_)
                                            refine lv_istore (lv' := [(5, .int z190.1), (0, .ref b), (1, .ref (h 0)), (2, .ref (g 0)), (3, .ref xo), (4, .int x4_23)]) hx hb dL_law_1285 hl (by decide) rfl (fun ls hl => ?_)
                                            refine lv_aload_n hx hb dL_law_1287 rfl (lv_at hl 3 rfl) ?_
                                            refine lv_aload_n hx hb dL_law_1288 rfl (lv_at hl 1 rfl) ?_
                                            refine lv_iload hx hb dL_law_1289 (lv_at hl 5 rfl) ?_
                                            refine lv_iconst (v := 1) hx hb dL_law_1291 (by decide) ?_
                                            refine lv_iadd hx hb dL_law_1292 ?_
                                            replace hF := ckI_some hF
                                            obtain ⟨hi_191, hF⟩ := hF
                                            refine va_sld hx hb hX hbl hbA hS hi_191 dL_law_1293 ?_
                                            refine lv_aload_n hx hb dL_law_1294 rfl (lv_at hl 1 rfl) ?_
                                            refine lv_iload hx hb dL_law_1295 (lv_at hl 5 rfl) ?_
                                            refine lv_iconst (v := 2) hx hb dL_law_1297 (by decide) ?_
                                            refine lv_iadd hx hb dL_law_1298 ?_
                                            replace hF := ckI_some hF
                                            obtain ⟨hi_192, hF⟩ := hF
                                            refine va_sld hx hb hX hbl hbA hS hi_192 dL_law_1299 ?_
                                            replace hF := bnd_some hF
                                            obtain ⟨z193, hz_193, hF⟩ := hF
                                            refine kwIE (kV (As := [.int (xs (x4_23 + 1).toNatClampNeg), .int (xs (x4_23 + 2).toNatClampNeg)]) ⟨hx, hb, hml, hown, hts⟩ (kX6_foresee l D cy sa g o_thrown_23 o_pairs_23 o_teams_23 o_water_23 o_vats_23 o_moulds_23 o_crews_23 o_posts_23 o_loft_23 o_nums_23 (xs (x4_23 + 1).toNatClampNeg) (xs (x4_23 + 2).toNatClampNeg) z193 hz_193 _) (cwV 2 hts gL_law_X6_foresee rfl rfl rfl (by decide +kernel) ⟨Nat.le_of_ble_eq_true rfl, Nat.le_of_ble_eq_true rfl⟩) hK hP hD hS hA hG [41, 42, 43, 44, 45, 46, 47, 48] hcX5X6L_X6_41 ndX6_41 gtX6_0 rfl rfl rfl hl.1 [] rfl (Nat.le_of_ble_eq_true rfl) dL_law_1300 ⟨(by show _ ≤ (601024 : Nat); omega), (by show _ ≤ (7293034 : Nat); omega)⟩) hP hD hS hA [41, 42, 43, 44, 45, 46, 47, 48] hcX5X6L_X6_41 hmX6 kpX5X6L_X6_41 (fun H locs hP hD hS => ?_)
                                            refine lv_istore (lv' := [(6, .int z193.1), (5, .int z190.1), (0, .ref b), (1, .ref (h 0)), (2, .ref (g 0)), (3, .ref xo), (4, .int x4_23)]) hx hb dL_law_1303 hl (by decide) rfl (fun ls hl => ?_)
                                            refine lv_aload_n hx hb dL_law_1305 rfl (lv_at hl 4 rfl) ?_
                                            replace hF := bnd_some hF
                                            obtain ⟨z194, hz_194, hF⟩ := hF
                                            refine krI (kV (As := []) ⟨hx, hb, hml, hown, hts⟩ (kX6_thrown l D cy sa g z193.2 o_pairs_23 o_teams_23 o_water_23 o_vats_23 o_moulds_23 o_crews_23 o_posts_23 o_loft_23 o_nums_23 z194 hz_194 _) (cwV 0 hts gL_law_X6_thrown rfl rfl rfl (by decide +kernel) ⟨Nat.le_of_ble_eq_true rfl, Nat.le_of_ble_eq_true rfl⟩) hK hP hD hS hA hG [41, 42, 43, 44, 45, 46, 47, 48] hcX5X6L_X6_41 ndX6_41 gtX6_0 rfl rfl rfl hl.1 [] rfl (Nat.le_of_ble_eq_true rfl) dL_law_1306 ⟨(by show _ ≤ (601024 : Nat); omega), (by show _ ≤ (7293034 : Nat); omega)⟩) hP hD hS hA [41, 42, 43, 44, 45, 46, 47, 48] hcX5X6L_X6_41 (fun H locs hP hS => ?_)
                                            refine lv_iload hx hb dL_law_1309 (lv_at hl 1 rfl) ?_
                                            refine lv_icmp_eq (tgt := 1316) hx hb dL_law_1311 (by decide) (fun c_195 => ?_) (fun c_195 => ?_)
                                            · replace hF := if_t hF c_195
                                              refine lv_iload hx hb dL_law_1316 (lv_at hl 1 rfl) ?_
                                              refine lv_if_ne (tgt := 1333) hx hb dL_law_1318 (by decide) (fun c_196 => ?_) (fun c_196 => ?_)
                                              · replace hF := if_f hF c_196
                                                refine lv_goto (tgt := 1447) hx hb dL_law_1333 (by decide) ?_
                                                refine lv_iinc (v := x4_23 + 4) (lv' := [(4, .int (x4_23 + 4)), (6, .int z193.1), (5, .int z190.1), (0, .ref b), (1, .ref (h 0)), (2, .ref (g 0)), (3, .ref xo)]) hx hb dL_law_1447 hl (k := 6) rfl rfl (by decide) rfl (fun ls hl => ?_)
                                                refine lv_goto (tgt := 23) hx hb dL_law_1450 (by decide) ?_
                                                exact ih  m_day_23 m_coins_23 m_felts_23 m_made_23 m_worth_23 m_rags_23 m_water_23 m_pulp_23 m_beat_23 m_sort_23 m_nM_23 m_mark_23 m_size_23 m_worn_23 m_nT_23 m_skill_23 m_vat_23 m_pair_23 m_nQ_23 m_allS_23 m_pmark_23 m_pgrade_23 m_psheets_23 m_loft_23 z190.2.1 z190.2.2.1 z190.2.2.2.1 z190.2.2.2.2.1 z190.2.2.2.2.2.1 z190.2.2.2.2.2.2.1 z190.2.2.2.2.2.2.2.1 z190.2.2.2.2.2.2.2.2.1 z190.2.2.2.2.2.2.2.2.2.1 z190.2.2.2.2.2.2.2.2.2.2.1 z190.2.2.2.2.2.2.2.2.2.2.2.1 z190.2.2.2.2.2.2.2.2.2.2.2.2.1 z190.2.2.2.2.2.2.2.2.2.2.2.2.2.1 z190.2.2.2.2.2.2.2.2.2.2.2.2.2.2.1 z190.2.2.2.2.2.2.2.2.2.2.2.2.2.2.2.1 z190.2.2.2.2.2.2.2.2.2.2.2.2.2.2.2.2.1 z190.2.2.2.2.2.2.2.2.2.2.2.2.2.2.2.2.2.1 z190.2.2.2.2.2.2.2.2.2.2.2.2.2.2.2.2.2.2.1 z190.2.2.2.2.2.2.2.2.2.2.2.2.2.2.2.2.2.2.2.1 z190.2.2.2.2.2.2.2.2.2.2.2.2.2.2.2.2.2.2.2.2.1 z190.2.2.2.2.2.2.2.2.2.2.2.2.2.2.2.2.2.2.2.2.2.1 z190.2.2.2.2.2.2.2.2.2.2.2.2.2.2.2.2.2.2.2.2.2.2.1 z190.2.2.2.2.2.2.2.2.2.2.2.2.2.2.2.2.2.2.2.2.2.2.2.1 z190.2.2.2.2.2.2.2.2.2.2.2.2.2.2.2.2.2.2.2.2.2.2.2.2.1 z193.2 o_pairs_23 o_teams_23 o_water_23 o_vats_23 o_moulds_23 o_crews_23 o_posts_23 o_loft_23 o_nums_23 z190.2.2.2.2.2.2.2.2.2.2.2.2.2.2.2.2.2.2.2.2.2.2.2.2.2 (x4_23 + 4)  hF (cu + 173) (su + 855) (by omega) (by omega) _ _ _ hP hD hS (lv_sub hl [3, 4, 5, 6, 0] rfl)
                                              · replace hF := if_t hF c_196
                                                refine lv_aload_n hx hb dL_law_1321 rfl (lv_at hl 5 rfl) ?_
                                                refine lv_iconst (v := 0) hx hb dL_law_1322 (by decide) ?_
                                                refine va_lald hx hb hK hP 49 2 gtX5X6L_49 rfl (show ¬ ((0 : Int32) < 0 ∨ 1 ≤ (0 : Int32).toNatClampNeg) from by decide) dL_law_1323 ?_
                                                refine lv_iload hx hb dL_law_1324 (lv_at hl 0 rfl) ?_
                                                refine lv_i2l hx hb dL_law_1326 rfl ?_
                                                refine W.lcmp hx hb dL_law_1327 ?_
                                                refine lv_if_eq (tgt := 1333) hx hb dL_law_1328 (by decide) (fun c_197 => ?_) (fun c_197 => ?_)
                                                · replace hF := if_t hF c_197
                                                  refine lv_goto (tgt := 1447) hx hb dL_law_1333 (by decide) ?_
                                                  refine lv_iinc (v := x4_23 + 4) (lv' := [(4, .int (x4_23 + 4)), (6, .int z193.1), (5, .int z190.1), (0, .ref b), (1, .ref (h 0)), (2, .ref (g 0)), (3, .ref xo)]) hx hb dL_law_1447 hl (k := 6) rfl rfl (by decide) rfl (fun ls hl => ?_)
                                                  refine lv_goto (tgt := 23) hx hb dL_law_1450 (by decide) ?_
                                                  exact ih  m_day_23 m_coins_23 m_felts_23 m_made_23 m_worth_23 m_rags_23 m_water_23 m_pulp_23 m_beat_23 m_sort_23 m_nM_23 m_mark_23 m_size_23 m_worn_23 m_nT_23 m_skill_23 m_vat_23 m_pair_23 m_nQ_23 m_allS_23 m_pmark_23 m_pgrade_23 m_psheets_23 m_loft_23 z190.2.1 z190.2.2.1 z190.2.2.2.1 z190.2.2.2.2.1 z190.2.2.2.2.2.1 z190.2.2.2.2.2.2.1 z190.2.2.2.2.2.2.2.1 z190.2.2.2.2.2.2.2.2.1 z190.2.2.2.2.2.2.2.2.2.1 z190.2.2.2.2.2.2.2.2.2.2.1 z190.2.2.2.2.2.2.2.2.2.2.2.1 z190.2.2.2.2.2.2.2.2.2.2.2.2.1 z190.2.2.2.2.2.2.2.2.2.2.2.2.2.1 z190.2.2.2.2.2.2.2.2.2.2.2.2.2.2.1 z190.2.2.2.2.2.2.2.2.2.2.2.2.2.2.2.1 z190.2.2.2.2.2.2.2.2.2.2.2.2.2.2.2.2.1 z190.2.2.2.2.2.2.2.2.2.2.2.2.2.2.2.2.2.1 z190.2.2.2.2.2.2.2.2.2.2.2.2.2.2.2.2.2.2.1 z190.2.2.2.2.2.2.2.2.2.2.2.2.2.2.2.2.2.2.2.1 z190.2.2.2.2.2.2.2.2.2.2.2.2.2.2.2.2.2.2.2.2.1 z190.2.2.2.2.2.2.2.2.2.2.2.2.2.2.2.2.2.2.2.2.2.1 z190.2.2.2.2.2.2.2.2.2.2.2.2.2.2.2.2.2.2.2.2.2.2.1 z190.2.2.2.2.2.2.2.2.2.2.2.2.2.2.2.2.2.2.2.2.2.2.2.1 z190.2.2.2.2.2.2.2.2.2.2.2.2.2.2.2.2.2.2.2.2.2.2.2.2.1 z193.2 o_pairs_23 o_teams_23 o_water_23 o_vats_23 o_moulds_23 o_crews_23 o_posts_23 o_loft_23 o_nums_23 z190.2.2.2.2.2.2.2.2.2.2.2.2.2.2.2.2.2.2.2.2.2.2.2.2.2 (x4_23 + 4)  hF (cu + 173) (su + 855) (by omega) (by omega) _ _ _ hP hD hS (lv_sub hl [3, 4, 5, 6, 0] rfl)
                                                · replace hF := if_f hF c_197
                                                  refine lv_iconst (v := 0) hx hb dL_law_1331 (by decide) ?_
                                                  exact absurd (Option.some.inj hF) (by decide)
                                            · replace hF := if_f hF c_195
                                              refine lv_iconst (v := 0) hx hb dL_law_1314 (by decide) ?_
                                              exact absurd (Option.some.inj hF) (by decide)
                                          · replace hF := if_f hF c_187
                                            by_cases c_198 : ((xs x4_23.toNatClampNeg) &&& 31).toInt = 18
                                            · replace hF := if_t hF c_198
                                              refine lv_tableIn (off := 1297) (tgt := 1336) hx hb dL_law_39 (fun h9 => c_3 (Or.inl h9)) (fun h9 => c_3 (Or.inr h9)) (by rw [c_198] <;> rfl) (by decide) ?_
                                              refine lv_aload_n hx hb dL_law_1336 rfl (lv_at hl 1 rfl) ?_
                                              refine lv_aload_n hx hb dL_law_1337 rfl (lv_at hl 0 rfl) ?_
                                              refine lv_iload hx hb dL_law_1338 (lv_at hl 4 rfl) ?_
                                              refine lv_iconst (v := 1) hx hb dL_law_1340 (by decide) ?_
                                              refine lv_iadd hx hb dL_law_1341 ?_
                                              replace hF := ckI_some hF
                                              obtain ⟨hi_199, hF⟩ := hF
                                              refine va_sld hx hb hX hbl hbA hS hi_199 dL_law_1342 ?_
                                              refine lv_aload_n hx hb dL_law_1343 rfl (lv_at hl 3 rfl) ?_
                                              replace hF := bnd_some hF
                                              obtain ⟨z200, hz_200, hF⟩ := hF
                                              refine kwIE (kSW (hh := [(0, 9, 12, 13)]) (As := [.ref (h 0), .int (xs (x4_23 + 1).toNatClampNeg), .ref xo]) ⟨hx, hb, hml, hown, hts⟩ (kL_advise l D cy sa h m_day_23 m_coins_23 m_felts_23 m_made_23 m_worth_23 m_rags_23 m_water_23 m_pulp_23 m_beat_23 m_sort_23 m_nM_23 m_mark_23 m_size_23 m_worn_23 m_nT_23 m_skill_23 m_vat_23 m_pair_23 m_nQ_23 m_allS_23 m_pmark_23 m_pgrade_23 m_psheets_23 m_loft_23 t_day_23 t_coins_23 t_felts_23 t_made_23 t_worth_23 t_rags_23 t_water_23 t_pulp_23 t_beat_23 t_sort_23 t_nM_23 t_mark_23 t_size_23 t_worn_23 t_nT_23 t_skill_23 t_vat_23 t_pair_23 t_nQ_23 t_allS_23 t_pmark_23 t_pgrade_23 t_psheets_23 t_loft_23 xo lo_23 (xs (x4_23 + 1).toNatClampNeg) hst z200 hz_200 _) (vx_cwSW 3 hts gL_law_L_advise rfl rfl rfl (by decide +kernel) ⟨Nat.le_of_ble_eq_true rfl, Nat.le_of_ble_eq_true rfl⟩) hK hP hD hS hA hG [0, 1, 2, 3, 4, 5, 6, 7, 8, 9, 10, 11, 12, 13, 14, 15, 16, 17, 18, 19, 20, 21, 22, 23, 24, 25, 26, 27, 28, 29, 30, 31, 32, 33, 34, 35, 36, 37, 38, 39, 40, 49] hcW ndW rfl hl.1 [] rfl (Nat.le_of_ble_eq_true rfl) dL_law_1344 ⟨(by show _ ≤ (601024 : Nat); omega), (by show _ ≤ (7293034 : Nat); omega)⟩) hP hD hS hA [0, 1, 2, 3, 4, 5, 6, 7, 8, 9, 10, 11, 12, 13, 14, 15, 16, 17, 18, 19, 20, 21, 22, 23, 24, 25, 26, 27, 28, 29, 30, 31, 32, 33, 34, 35, 36, 37, 38, 39, 40, 49] hcW hmW kpW (fun H locs hP hD hS => ?_)
                                              refine lv_istore (lv' := [(5, .int z200.1), (0, .ref b), (1, .ref (h 0)), (2, .ref (g 0)), (3, .ref xo), (4, .int x4_23)]) hx hb dL_law_1347 hl (by decide) rfl (fun ls hl => ?_)
                                              refine lv_aload_n hx hb dL_law_1349 rfl (lv_at hl 3 rfl) ?_
                                              refine lv_aload_n hx hb dL_law_1350 rfl (lv_at hl 1 rfl) ?_
                                              refine lv_iload hx hb dL_law_1351 (lv_at hl 5 rfl) ?_
                                              refine lv_iconst (v := 1) hx hb dL_law_1353 (by decide) ?_
                                              refine lv_iadd hx hb dL_law_1354 ?_
                                              replace hF := ckI_some hF
                                              obtain ⟨hi_201, hF⟩ := hF
                                              refine va_sld hx hb hX hbl hbA hS hi_201 dL_law_1355 ?_
                                              replace hF := bnd_some hF
                                              obtain ⟨z202, hz_202, hF⟩ := hF
                                              refine kwIE (kV (As := [.int (xs (x4_23 + 1).toNatClampNeg)]) ⟨hx, hb, hml, hown, hts⟩ (kX6_advise l D cy sa g o_thrown_23 o_pairs_23 o_teams_23 o_water_23 o_vats_23 o_moulds_23 o_crews_23 o_posts_23 o_loft_23 o_nums_23 (xs (x4_23 + 1).toNatClampNeg) z202 hz_202 _) (cwV 1 hts gL_law_X6_advise rfl rfl rfl (by decide +kernel) ⟨Nat.le_of_ble_eq_true rfl, Nat.le_of_ble_eq_true rfl⟩) hK hP hD hS hA hG [41, 42, 43, 44, 45, 46, 47, 48] hcX5X6L_X6_41 ndX6_41 gtX6_0 rfl rfl rfl hl.1 [] rfl (Nat.le_of_ble_eq_true rfl) dL_law_1356 ⟨(by show _ ≤ (601024 : Nat); omega), (by show _ ≤ (7293034 : Nat); omega)⟩) hP hD hS hA [41, 42, 43, 44, 45, 46, 47, 48] hcX5X6L_X6_41 hmX6 kpX5X6L_X6_41 (fun H locs hP hD hS => ?_)
                                              refine lv_istore (lv' := [(6, .int z202.1), (5, .int z200.1), (0, .ref b), (1, .ref (h 0)), (2, .ref (g 0)), (3, .ref xo), (4, .int x4_23)]) hx hb dL_law_1359 hl (by decide) rfl (fun ls hl => ?_)
                                              refine lv_aload_n hx hb dL_law_1361 rfl (lv_at hl 4 rfl) ?_
                                              replace hF := bnd_some hF
                                              obtain ⟨z203, hz_203, hF⟩ := hF
                                              refine krI (kV (As := []) ⟨hx, hb, hml, hown, hts⟩ (kX6_thrown l D cy sa g z202.2.1 o_pairs_23 o_teams_23 o_water_23 z202.2.2.1 z202.2.2.2.1 z202.2.2.2.2.1 z202.2.2.2.2.2.1 z202.2.2.2.2.2.2.1 z202.2.2.2.2.2.2.2 z203 hz_203 _) (cwV 0 hts gL_law_X6_thrown rfl rfl rfl (by decide +kernel) ⟨Nat.le_of_ble_eq_true rfl, Nat.le_of_ble_eq_true rfl⟩) hK hP hD hS hA hG [41, 42, 43, 44, 45, 46, 47, 48] hcX5X6L_X6_41 ndX6_41 gtX6_0 rfl rfl rfl hl.1 [] rfl (Nat.le_of_ble_eq_true rfl) dL_law_1362 ⟨(by show _ ≤ (601024 : Nat); omega), (by show _ ≤ (7293034 : Nat); omega)⟩) hP hD hS hA [41, 42, 43, 44, 45, 46, 47, 48] hcX5X6L_X6_41 (fun H locs hP hS => ?_)
                                              refine lv_iload hx hb dL_law_1365 (lv_at hl 1 rfl) ?_
                                              refine lv_icmp_eq (tgt := 1372) hx hb dL_law_1367 (by decide) (fun c_204 => ?_) (fun c_204 => ?_)
                                              · replace hF := if_t hF c_204
                                                refine lv_iload hx hb dL_law_1372 (lv_at hl 1 rfl) ?_
                                                refine lv_if_ne (tgt := 1389) hx hb dL_law_1374 (by decide) (fun c_205 => ?_) (fun c_205 => ?_)
                                                · replace hF := if_f hF c_205
                                                  refine lv_goto (tgt := 1447) hx hb dL_law_1389 (by decide) ?_
                                                  refine lv_iinc (v := x4_23 + 4) (lv' := [(4, .int (x4_23 + 4)), (6, .int z202.1), (5, .int z200.1), (0, .ref b), (1, .ref (h 0)), (2, .ref (g 0)), (3, .ref xo)]) hx hb dL_law_1447 hl (k := 6) rfl rfl (by decide) rfl (fun ls hl => ?_)
                                                  refine lv_goto (tgt := 23) hx hb dL_law_1450 (by decide) ?_
                                                  exact ih  m_day_23 m_coins_23 m_felts_23 m_made_23 m_worth_23 m_rags_23 m_water_23 m_pulp_23 m_beat_23 m_sort_23 m_nM_23 m_mark_23 m_size_23 m_worn_23 m_nT_23 m_skill_23 m_vat_23 m_pair_23 m_nQ_23 m_allS_23 m_pmark_23 m_pgrade_23 m_psheets_23 m_loft_23 z200.2.1 z200.2.2.1 z200.2.2.2.1 z200.2.2.2.2.1 z200.2.2.2.2.2.1 z200.2.2.2.2.2.2.1 z200.2.2.2.2.2.2.2.1 z200.2.2.2.2.2.2.2.2.1 z200.2.2.2.2.2.2.2.2.2.1 z200.2.2.2.2.2.2.2.2.2.2.1 z200.2.2.2.2.2.2.2.2.2.2.2.1 z200.2.2.2.2.2.2.2.2.2.2.2.2.1 z200.2.2.2.2.2.2.2.2.2.2.2.2.2.1 z200.2.2.2.2.2.2.2.2.2.2.2.2.2.2.1 z200.2.2.2.2.2.2.2.2.2.2.2.2.2.2.2.1 z200.2.2.2.2.2.2.2.2.2.2.2.2.2.2.2.2.1 z200.2.2.2.2.2.2.2.2.2.2.2.2.2.2.2.2.2.1 z200.2.2.2.2.2.2.2.2.2.2.2.2.2.2.2.2.2.2.1 z200.2.2.2.2.2.2.2.2.2.2.2.2.2.2.2.2.2.2.2.1 z200.2.2.2.2.2.2.2.2.2.2.2.2.2.2.2.2.2.2.2.2.1 z200.2.2.2.2.2.2.2.2.2.2.2.2.2.2.2.2.2.2.2.2.2.1 z200.2.2.2.2.2.2.2.2.2.2.2.2.2.2.2.2.2.2.2.2.2.2.1 z200.2.2.2.2.2.2.2.2.2.2.2.2.2.2.2.2.2.2.2.2.2.2.2.1 z200.2.2.2.2.2.2.2.2.2.2.2.2.2.2.2.2.2.2.2.2.2.2.2.2.1 z202.2.1 o_pairs_23 o_teams_23 o_water_23 z202.2.2.1 z202.2.2.2.1 z202.2.2.2.2.1 z202.2.2.2.2.2.1 z202.2.2.2.2.2.2.1 z202.2.2.2.2.2.2.2 z200.2.2.2.2.2.2.2.2.2.2.2.2.2.2.2.2.2.2.2.2.2.2.2.2.2 (x4_23 + 4)  hF (cu + 33) (su + 447) (by omega) (by omega) _ _ _ hP hD hS (lv_sub hl [3, 4, 5, 6, 0] rfl)
                                                · replace hF := if_t hF c_205
                                                  refine lv_aload_n hx hb dL_law_1377 rfl (lv_at hl 5 rfl) ?_
                                                  refine lv_iconst (v := 0) hx hb dL_law_1378 (by decide) ?_
                                                  refine va_lald hx hb hK hP 49 2 gtX5X6L_49 rfl (show ¬ ((0 : Int32) < 0 ∨ 1 ≤ (0 : Int32).toNatClampNeg) from by decide) dL_law_1379 ?_
                                                  refine lv_iload hx hb dL_law_1380 (lv_at hl 0 rfl) ?_
                                                  refine lv_i2l hx hb dL_law_1382 rfl ?_
                                                  refine W.lcmp hx hb dL_law_1383 ?_
                                                  refine lv_if_eq (tgt := 1389) hx hb dL_law_1384 (by decide) (fun c_206 => ?_) (fun c_206 => ?_)
                                                  · replace hF := if_t hF c_206
                                                    refine lv_goto (tgt := 1447) hx hb dL_law_1389 (by decide) ?_
                                                    refine lv_iinc (v := x4_23 + 4) (lv' := [(4, .int (x4_23 + 4)), (6, .int z202.1), (5, .int z200.1), (0, .ref b), (1, .ref (h 0)), (2, .ref (g 0)), (3, .ref xo)]) hx hb dL_law_1447 hl (k := 6) rfl rfl (by decide) rfl (fun ls hl => ?_)
                                                    refine lv_goto (tgt := 23) hx hb dL_law_1450 (by decide) ?_
                                                    exact ih  m_day_23 m_coins_23 m_felts_23 m_made_23 m_worth_23 m_rags_23 m_water_23 m_pulp_23 m_beat_23 m_sort_23 m_nM_23 m_mark_23 m_size_23 m_worn_23 m_nT_23 m_skill_23 m_vat_23 m_pair_23 m_nQ_23 m_allS_23 m_pmark_23 m_pgrade_23 m_psheets_23 m_loft_23 z200.2.1 z200.2.2.1 z200.2.2.2.1 z200.2.2.2.2.1 z200.2.2.2.2.2.1 z200.2.2.2.2.2.2.1 z200.2.2.2.2.2.2.2.1 z200.2.2.2.2.2.2.2.2.1 z200.2.2.2.2.2.2.2.2.2.1 z200.2.2.2.2.2.2.2.2.2.2.1 z200.2.2.2.2.2.2.2.2.2.2.2.1 z200.2.2.2.2.2.2.2.2.2.2.2.2.1 z200.2.2.2.2.2.2.2.2.2.2.2.2.2.1 z200.2.2.2.2.2.2.2.2.2.2.2.2.2.2.1 z200.2.2.2.2.2.2.2.2.2.2.2.2.2.2.2.1 z200.2.2.2.2.2.2.2.2.2.2.2.2.2.2.2.2.1 z200.2.2.2.2.2.2.2.2.2.2.2.2.2.2.2.2.2.1 z200.2.2.2.2.2.2.2.2.2.2.2.2.2.2.2.2.2.2.1 z200.2.2.2.2.2.2.2.2.2.2.2.2.2.2.2.2.2.2.2.1 z200.2.2.2.2.2.2.2.2.2.2.2.2.2.2.2.2.2.2.2.2.1 z200.2.2.2.2.2.2.2.2.2.2.2.2.2.2.2.2.2.2.2.2.2.1 z200.2.2.2.2.2.2.2.2.2.2.2.2.2.2.2.2.2.2.2.2.2.2.1 z200.2.2.2.2.2.2.2.2.2.2.2.2.2.2.2.2.2.2.2.2.2.2.2.1 z200.2.2.2.2.2.2.2.2.2.2.2.2.2.2.2.2.2.2.2.2.2.2.2.2.1 z202.2.1 o_pairs_23 o_teams_23 o_water_23 z202.2.2.1 z202.2.2.2.1 z202.2.2.2.2.1 z202.2.2.2.2.2.1 z202.2.2.2.2.2.2.1 z202.2.2.2.2.2.2.2 z200.2.2.2.2.2.2.2.2.2.2.2.2.2.2.2.2.2.2.2.2.2.2.2.2.2 (x4_23 + 4)  hF (cu + 33) (su + 447) (by omega) (by omega) _ _ _ hP hD hS (lv_sub hl [3, 4, 5, 6, 0] rfl)
                                                  · replace hF := if_f hF c_206
                                                    refine lv_iconst (v := 0) hx hb dL_law_1387 (by decide) ?_
                                                    exact absurd (Option.some.inj hF) (by decide)
                                              · replace hF := if_f hF c_204
                                                refine lv_iconst (v := 0) hx hb dL_law_1370 (by decide) ?_
                                                exact absurd (Option.some.inj hF) (by decide)
                                            · replace hF := if_f hF c_198
                                              by_cases c_207 : ((xs x4_23.toNatClampNeg) &&& 31).toInt = 19
                                              · replace hF := if_t hF c_207
                                                refine lv_tableIn (off := 1353) (tgt := 1392) hx hb dL_law_39 (fun h9 => c_3 (Or.inl h9)) (fun h9 => c_3 (Or.inr h9)) (by rw [c_207] <;> rfl) (by decide) ?_
                                                refine lv_aload_n hx hb dL_law_1392 rfl (lv_at hl 1 rfl) ?_
                                                replace hF := bnd_some hF
                                                obtain ⟨z208, hz_208, hF⟩ := hF
                                                refine krD (kV (As := []) ⟨hx, hb, hml, hown, hts⟩ (kX5_mean l D cy sa h m_day_23 m_coins_23 m_felts_23 m_made_23 m_worth_23 m_rags_23 m_water_23 m_pulp_23 m_beat_23 m_sort_23 m_nM_23 m_mark_23 m_size_23 m_worn_23 m_nT_23 m_skill_23 m_vat_23 m_pair_23 m_nQ_23 m_allS_23 m_pmark_23 m_pgrade_23 m_psheets_23 m_loft_23 t_day_23 t_coins_23 t_felts_23 t_made_23 t_worth_23 t_rags_23 t_water_23 t_pulp_23 t_beat_23 t_sort_23 t_nM_23 t_mark_23 t_size_23 t_worn_23 t_nT_23 t_skill_23 t_vat_23 t_pair_23 t_nQ_23 t_allS_23 t_pmark_23 t_pgrade_23 t_psheets_23 t_loft_23 z208 hz_208 _) (cwV 0 hts gL_law_X5_mean rfl rfl rfl (by decide +kernel) ⟨Nat.le_of_ble_eq_true rfl, Nat.le_of_ble_eq_true rfl⟩) hK hP hD hS hA hG [0, 1, 2, 3, 4, 5, 6, 7, 8, 9, 10, 11, 12, 13, 14, 15, 16, 17, 18, 19, 20, 21, 22, 23, 24, 25, 26, 27, 28, 29, 30, 31, 32, 33, 34, 35, 36, 37, 38, 39, 40] hcX5X6L_X5_0 ndX5_0 gtX5_0 rfl rfl rfl hl.1 [] rfl (Nat.le_of_ble_eq_true rfl) dL_law_1393 ⟨(by show _ ≤ (601024 : Nat); omega), (by show _ ≤ (7293034 : Nat); omega)⟩) hP hD hS hA [0, 1, 2, 3, 4, 5, 6, 7, 8, 9, 10, 11, 12, 13, 14, 15, 16, 17, 18, 19, 20, 21, 22, 23, 24, 25, 26, 27, 28, 29, 30, 31, 32, 33, 34, 35, 36, 37, 38, 39, 40] hcX5X6L_X5_0 (fun H locs hP hS => ?_)
                                                refine lv_dstore (lv' := [(5, .double z208), (0, .ref b), (1, .ref (h 0)), (2, .ref (g 0)), (3, .ref xo), (4, .int x4_23)]) hx hb dL_law_1396 hl (by decide) rfl (fun ls hl => ?_)
                                                refine lv_aload_n hx hb dL_law_1398 rfl (lv_at hl 3 rfl) ?_
                                                replace hF := bnd_some hF
                                                obtain ⟨z209, hz_209, hF⟩ := hF
                                                refine kwDE (kV (As := []) ⟨hx, hb, hml, hown, hts⟩ (kX6_mean l D cy sa g o_thrown_23 o_pairs_23 o_teams_23 o_water_23 o_vats_23 o_moulds_23 o_crews_23 o_posts_23 o_loft_23 o_nums_23 z209 hz_209 _) (cwV 0 hts gL_law_X6_mean rfl rfl rfl (by decide +kernel) ⟨Nat.le_of_ble_eq_true rfl, Nat.le_of_ble_eq_true rfl⟩) hK hP hD hS hA hG [41, 42, 43, 44, 45, 46, 47, 48] hcX5X6L_X6_41 ndX6_41 gtX6_0 rfl rfl rfl hl.1 [] rfl (Nat.le_of_ble_eq_true rfl) dL_law_1399 ⟨(by show _ ≤ (601024 : Nat); omega), (by show _ ≤ (7293034 : Nat); omega)⟩) hP hD hS hA [41, 42, 43, 44, 45, 46, 47, 48] hcX5X6L_X6_41 hmX6 kpX5X6L_X6_41 (fun H locs hP hD hS => ?_)
                                                refine lv_dstore (lv' := [(7, .double z209.1), (5, .double z208), (0, .ref b), (1, .ref (h 0)), (2, .ref (g 0)), (3, .ref xo), (4, .int x4_23)]) hx hb dL_law_1402 hl (by decide) rfl (fun ls hl => ?_)
                                                refine lv_dload hx hb dL_law_1404 (lv_at hl 1 rfl) ?_
                                                refine lv_dload hx hb dL_law_1406 (lv_at hl 0 rfl) ?_
                                                refine lv_dcmp hx hb dL_law_1408 ?_
                                                refine lv_if_eq (tgt := 1430) hx hb dL_law_1409 (by decide) (fun c_210 => ?_) (fun c_210 => ?_)
                                                · replace hF := if_t hF c_210
                                                  refine lv_goto (tgt := 1447) hx hb dL_law_1430 (by decide) ?_
                                                  refine lv_iinc (v := x4_23 + 4) (lv' := [(4, .int (x4_23 + 4)), (7, .double z209.1), (5, .double z208), (0, .ref b), (1, .ref (h 0)), (2, .ref (g 0)), (3, .ref xo)]) hx hb dL_law_1447 hl (k := 6) rfl rfl (by decide) rfl (fun ls hl => ?_)
                                                  refine lv_goto (tgt := 23) hx hb dL_law_1450 (by decide) ?_
                                                  exact ih  m_day_23 m_coins_23 m_felts_23 m_made_23 m_worth_23 m_rags_23 m_water_23 m_pulp_23 m_beat_23 m_sort_23 m_nM_23 m_mark_23 m_size_23 m_worn_23 m_nT_23 m_skill_23 m_vat_23 m_pair_23 m_nQ_23 m_allS_23 m_pmark_23 m_pgrade_23 m_psheets_23 m_loft_23 t_day_23 t_coins_23 t_felts_23 t_made_23 t_worth_23 t_rags_23 t_water_23 t_pulp_23 t_beat_23 t_sort_23 t_nM_23 t_mark_23 t_size_23 t_worn_23 t_nT_23 t_skill_23 t_vat_23 t_pair_23 t_nQ_23 t_allS_23 t_pmark_23 t_pgrade_23 t_psheets_23 t_loft_23 z209.2 o_pairs_23 o_teams_23 o_water_23 o_vats_23 o_moulds_23 o_crews_23 o_posts_23 o_loft_23 o_nums_23 lo_23 (x4_23 + 4)  hF (cu) (su) (by omega) (by omega) _ _ _ hP hD hS (lv_sub hl [3, 4, 5, 6, 0] rfl)
                                                · replace hF := if_f hF c_210
                                                  refine lv_dload hx hb dL_law_1412 (lv_at hl 1 rfl) ?_
                                                  refine lv_dload hx hb dL_law_1414 (lv_at hl 1 rfl) ?_
                                                  refine lv_dcmp hx hb dL_law_1416 ?_
                                                  refine lv_if_eq (tgt := 1428) hx hb dL_law_1417 (by decide) (fun c_211 => ?_) (fun c_211 => ?_)
                                                  · replace hF := if_t hF c_211
                                                    refine lv_iconst (v := 0) hx hb dL_law_1428 (by decide) ?_
                                                    exact absurd (Option.some.inj hF) (by decide)
                                                  · replace hF := if_f hF c_211
                                                    refine lv_dload hx hb dL_law_1420 (lv_at hl 0 rfl) ?_
                                                    refine lv_dload hx hb dL_law_1422 (lv_at hl 0 rfl) ?_
                                                    refine lv_dcmp hx hb dL_law_1424 ?_
                                                    refine lv_if_ne (tgt := 1430) hx hb dL_law_1425 (by decide) (fun c_212 => ?_) (fun c_212 => ?_)
                                                    · replace hF := if_f hF c_212
                                                      refine lv_goto (tgt := 1447) hx hb dL_law_1430 (by decide) ?_
                                                      refine lv_iinc (v := x4_23 + 4) (lv' := [(4, .int (x4_23 + 4)), (7, .double z209.1), (5, .double z208), (0, .ref b), (1, .ref (h 0)), (2, .ref (g 0)), (3, .ref xo)]) hx hb dL_law_1447 hl (k := 6) rfl rfl (by decide) rfl (fun ls hl => ?_)
                                                      refine lv_goto (tgt := 23) hx hb dL_law_1450 (by decide) ?_
                                                      exact ih  m_day_23 m_coins_23 m_felts_23 m_made_23 m_worth_23 m_rags_23 m_water_23 m_pulp_23 m_beat_23 m_sort_23 m_nM_23 m_mark_23 m_size_23 m_worn_23 m_nT_23 m_skill_23 m_vat_23 m_pair_23 m_nQ_23 m_allS_23 m_pmark_23 m_pgrade_23 m_psheets_23 m_loft_23 t_day_23 t_coins_23 t_felts_23 t_made_23 t_worth_23 t_rags_23 t_water_23 t_pulp_23 t_beat_23 t_sort_23 t_nM_23 t_mark_23 t_size_23 t_worn_23 t_nT_23 t_skill_23 t_vat_23 t_pair_23 t_nQ_23 t_allS_23 t_pmark_23 t_pgrade_23 t_psheets_23 t_loft_23 z209.2 o_pairs_23 o_teams_23 o_water_23 o_vats_23 o_moulds_23 o_crews_23 o_posts_23 o_loft_23 o_nums_23 lo_23 (x4_23 + 4)  hF (cu) (su) (by omega) (by omega) _ _ _ hP hD hS (lv_sub hl [3, 4, 5, 6, 0] rfl)
                                                    · replace hF := if_t hF c_212
                                                      refine lv_iconst (v := 0) hx hb dL_law_1428 (by decide) ?_
                                                      exact absurd (Option.some.inj hF) (by decide)
                                              · replace hF := if_f hF c_207
                                                refine lv_tableIn (off := 1394) (tgt := 1433) hx hb dL_law_39 (fun h9 => c_3 (Or.inl h9)) (fun h9 => c_3 (Or.inr h9)) (by rw [show (((xs x4_23.toNatClampNeg) &&& 31)).toInt = 20 by omega] <;> rfl) (by decide) ?_
                                                refine lv_aload_n hx hb dL_law_1433 rfl (lv_at hl 1 rfl) ?_
                                                replace hF := bnd_some hF
                                                obtain ⟨z213, hz_213, hF⟩ := hF
                                                refine krL (kV (As := []) ⟨hx, hb, hml, hown, hts⟩ (kX5_digest l D cy sa h m_day_23 m_coins_23 m_felts_23 m_made_23 m_worth_23 m_rags_23 m_water_23 m_pulp_23 m_beat_23 m_sort_23 m_nM_23 m_mark_23 m_size_23 m_worn_23 m_nT_23 m_skill_23 m_vat_23 m_pair_23 m_nQ_23 m_allS_23 m_pmark_23 m_pgrade_23 m_psheets_23 m_loft_23 t_day_23 t_coins_23 t_felts_23 t_made_23 t_worth_23 t_rags_23 t_water_23 t_pulp_23 t_beat_23 t_sort_23 t_nM_23 t_mark_23 t_size_23 t_worn_23 t_nT_23 t_skill_23 t_vat_23 t_pair_23 t_nQ_23 t_allS_23 t_pmark_23 t_pgrade_23 t_psheets_23 t_loft_23 z213 hz_213 _) (cwV 0 hts gL_law_X5_digest rfl rfl rfl (by decide +kernel) ⟨Nat.le_of_ble_eq_true rfl, Nat.le_of_ble_eq_true rfl⟩) hK hP hD hS hA hG [0, 1, 2, 3, 4, 5, 6, 7, 8, 9, 10, 11, 12, 13, 14, 15, 16, 17, 18, 19, 20, 21, 22, 23, 24, 25, 26, 27, 28, 29, 30, 31, 32, 33, 34, 35, 36, 37, 38, 39, 40] hcX5X6L_X5_0 ndX5_0 gtX5_0 rfl rfl rfl hl.1 [] rfl (Nat.le_of_ble_eq_true rfl) dL_law_1434 ⟨(by show _ ≤ (601024 : Nat); omega), (by show _ ≤ (7293034 : Nat); omega)⟩) hP hD hS hA [0, 1, 2, 3, 4, 5, 6, 7, 8, 9, 10, 11, 12, 13, 14, 15, 16, 17, 18, 19, 20, 21, 22, 23, 24, 25, 26, 27, 28, 29, 30, 31, 32, 33, 34, 35, 36, 37, 38, 39, 40] hcX5X6L_X5_0 (fun H locs hP hS => ?_)
                                                refine lv_aload_n hx hb dL_law_1437 rfl (lv_at hl 2 rfl) ?_
                                                replace hF := bnd_some hF
                                                obtain ⟨z214, hz_214, hF⟩ := hF
                                                refine kwLE (kV (As := []) ⟨hx, hb, hml, hown, hts⟩ (kX6_digest l D cy sa g o_thrown_23 o_pairs_23 o_teams_23 o_water_23 o_vats_23 o_moulds_23 o_crews_23 o_posts_23 o_loft_23 o_nums_23 z214 hz_214 _) (cwV 0 hts gL_law_X6_digest rfl rfl rfl (by decide +kernel) ⟨Nat.le_of_ble_eq_true rfl, Nat.le_of_ble_eq_true rfl⟩) hK hP hD hS hA hG [41, 42, 43, 44, 45, 46, 47, 48] hcX5X6L_X6_41 ndX6_41 gtX6_0 rfl rfl rfl hl.1 [.long z213] rfl (Nat.le_of_ble_eq_true rfl) dL_law_1438 ⟨(by show _ ≤ (601024 : Nat); omega), (by show _ ≤ (7293034 : Nat); omega)⟩) hP hD hS hA [41, 42, 43, 44, 45, 46, 47, 48] hcX5X6L_X6_41 hmX6 kpX5X6L_X6_41 (fun H locs hP hD hS => ?_)
                                                refine W.lcmp hx hb dL_law_1441 ?_
                                                refine lv_if_eq (tgt := 1447) hx hb dL_law_1442 (by decide) (fun c_215 => ?_) (fun c_215 => ?_)
                                                · replace hF := if_t hF c_215
                                                  refine lv_iinc (v := x4_23 + 4) (lv' := [(4, .int (x4_23 + 4)), (0, .ref b), (1, .ref (h 0)), (2, .ref (g 0)), (3, .ref xo)]) hx hb dL_law_1447 hl (k := 4) rfl rfl (by decide) rfl (fun ls hl => ?_)
                                                  refine lv_goto (tgt := 23) hx hb dL_law_1450 (by decide) ?_
                                                  exact ih  m_day_23 m_coins_23 m_felts_23 m_made_23 m_worth_23 m_rags_23 m_water_23 m_pulp_23 m_beat_23 m_sort_23 m_nM_23 m_mark_23 m_size_23 m_worn_23 m_nT_23 m_skill_23 m_vat_23 m_pair_23 m_nQ_23 m_allS_23 m_pmark_23 m_pgrade_23 m_psheets_23 m_loft_23 t_day_23 t_coins_23 t_felts_23 t_made_23 t_worth_23 t_rags_23 t_water_23 t_pulp_23 t_beat_23 t_sort_23 t_nM_23 t_mark_23 t_size_23 t_worn_23 t_nT_23 t_skill_23 t_vat_23 t_pair_23 t_nQ_23 t_allS_23 t_pmark_23 t_pgrade_23 t_psheets_23 t_loft_23 z214.2 o_pairs_23 o_teams_23 o_water_23 o_vats_23 o_moulds_23 o_crews_23 o_posts_23 o_loft_23 o_nums_23 lo_23 (x4_23 + 4)  hF (cu) (su) (by omega) (by omega) _ _ _ hP hD hS (lv_sub hl [1, 2, 3, 4, 0] rfl)
                                                · replace hF := if_f hF c_215
                                                  refine lv_iconst (v := 0) hx hb dL_law_1445 (by decide) ?_
                                                  exact absurd (Option.some.inj hF) (by decide)
