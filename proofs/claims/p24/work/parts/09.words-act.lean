theorem wsL_law_x0 : ∀ w ∈ (vx_atS RX5 27 "java/lang/IndexOutOfBoundsException" ["java/lang/RuntimeException", "java/lang/Exception"]).filter goodWord, w ∈ lw_tbl := by decide +kernel
theorem wsL_law_x1 : ∀ w ∈ (vx_atS RX5 37 "java/lang/IllegalArgumentException" ["java/lang/RuntimeException", "java/lang/Exception"]).filter goodWord, w ∈ lw_tbl := by decide +kernel
theorem wsL_law_x2 : ∀ w ∈ (vx_atS RX5 50 "java/lang/IllegalStateException" ["java/lang/RuntimeException", "java/lang/Exception"]).filter goodWord, w ∈ lw_tbl := by decide +kernel
set_option maxRecDepth 20000 in
theorem ggL_act_L_below : GoodIn wsL_act wsL_below := goodIn_r _ [19, 20] (by decide +kernel) (by decide +kernel)
set_option maxRecDepth 20000 in
theorem gL_act_L_below : GoodIn wsL_act (va_wsS RL 18 yL_below wsL_below) := goodIn_app (goodIn_of _ (by decide +kernel)) ggL_act_L_below
set_option maxRecDepth 20000 in
theorem ggL_act_X5_buy : GoodIn wsL_act wsX5_buy := goodIn_ca (goodIn_ca (goodIn_ca (goodIn_r _ [25, 26, 27, 28, 29, 30, 31, 32, 33, 34, 35, 24, 36, 37, 38, 39, 40, 41, 42, 43, 44, 45, 46, 223, 224, 225, 226, 227, 228, 229, 230, 231, 232, 233, 234, 235, 236] (by decide +kernel) (by decide +kernel)) (goodIn_sub (fun _ h => List.mem_cons_of_mem _ (List.mem_append_left _ (List.mem_append_left _ (List.mem_append_right _ h)))) (by decide +kernel))) (goodIn_sub (fun _ h => List.mem_cons_of_mem _ (List.mem_append_left _ (List.mem_append_right _ h))) (by decide +kernel))) (goodIn_sub (fun _ h => List.mem_cons_of_mem _ (List.mem_append_right _ h)) (by decide +kernel))
set_option maxRecDepth 20000 in
theorem gL_act_X5_buy : GoodIn wsL_act (wsV RL 35 RX5 yX5_buy wsX5_buy) := goodIn_app (goodIn_of _ (by decide +kernel)) ggL_act_X5_buy
set_option maxRecDepth 20000 in
theorem ggL_act_X6_worth : GoodIn wsL_act wsX6_worth := goodIn_r _ [50] (by decide +kernel) (by decide +kernel)
set_option maxRecDepth 20000 in
theorem gL_act_X6_worth : GoodIn wsL_act (va_wsS RL 43 yX6_worth wsX6_worth) := goodIn_app (goodIn_of _ (by decide +kernel)) ggL_act_X6_worth
set_option maxRecDepth 20000 in
theorem ggL_act_X5_sell : GoodIn wsL_act wsX5_sell := goodIn_ca (goodIn_ca (goodIn_ca (goodIn_r _ [54, 26, 27, 28, 29, 30, 31, 33, 34, 35, 24, 36, 37, 38, 39, 55, 56, 57, 43, 58, 59, 60, 61, 62, 63, 64, 65, 66, 67, 223, 224, 225, 226, 227, 228, 229, 230, 231, 232, 233, 234, 235, 236] (by decide +kernel) (by decide +kernel)) (goodIn_sub (fun _ h => List.mem_cons_of_mem _ (List.mem_append_left _ (List.mem_append_left _ (List.mem_append_right _ h)))) (by decide +kernel))) (goodIn_sub (fun _ h => List.mem_cons_of_mem _ (List.mem_append_left _ (List.mem_append_right _ h))) (by decide +kernel))) (goodIn_sub (fun _ h => List.mem_cons_of_mem _ (List.mem_append_right _ h)) (by decide +kernel))
set_option maxRecDepth 20000 in
theorem gL_act_X5_sell : GoodIn wsL_act (wsV RL 47 RX5 yX5_sell wsX5_sell) := goodIn_app (goodIn_of _ (by decide +kernel)) ggL_act_X5_sell
set_option maxRecDepth 20000 in
theorem ggL_act_X5_fill : GoodIn wsL_act wsX5_fill := goodIn_ca (goodIn_ca (goodIn_ca (goodIn_r _ [71, 26, 27, 28, 29, 30, 31, 33, 34, 35, 24, 36, 37, 38, 39, 72, 73, 74, 75, 76, 77, 78, 79, 80, 81, 82, 83, 223, 224, 225, 226, 227, 228, 229, 230, 231, 232, 233, 234, 235, 236, 237, 238, 239] (by decide +kernel) (by decide +kernel)) (goodIn_sub (fun _ h => List.mem_cons_of_mem _ (List.mem_append_left _ (List.mem_append_left _ (List.mem_append_right _ h)))) (by decide +kernel))) (goodIn_sub (fun _ h => List.mem_cons_of_mem _ (List.mem_append_left _ (List.mem_append_right _ h))) (by decide +kernel))) (goodIn_sub (fun _ h => List.mem_cons_of_mem _ (List.mem_append_right _ h)) (by decide +kernel))
set_option maxRecDepth 20000 in
theorem gL_act_X5_fill : GoodIn wsL_act (wsV RL 54 RX5 yX5_fill wsX5_fill) := goodIn_app (goodIn_of _ (by decide +kernel)) ggL_act_X5_fill
set_option maxRecDepth 20000 in
theorem ggL_act_X5_drain : GoodIn wsL_act wsX5_drain := goodIn_ca (goodIn_ca (goodIn_r _ [87, 26, 27, 30, 31, 33, 34, 35, 24, 36, 72, 73, 74, 75, 76, 77, 88, 89, 90, 91, 92, 79, 80, 81, 82, 83, 223, 224, 225, 226, 227, 228, 229, 230, 231, 232, 233, 234, 235, 236, 237, 238, 239] (by decide +kernel) (by decide +kernel)) (goodIn_sub (fun _ h => List.mem_cons_of_mem _ (List.mem_append_left _ (List.mem_append_left _ (List.mem_append_right _ h)))) (by decide +kernel))) (goodIn_sub (fun _ h => List.mem_cons_of_mem _ (List.mem_append_right _ h)) (by decide +kernel))
set_option maxRecDepth 20000 in
theorem gL_act_X5_drain : GoodIn wsL_act (wsV RL 57 RX5 yX5_drain wsX5_drain) := goodIn_app (goodIn_of _ (by decide +kernel)) ggL_act_X5_drain
set_option maxRecDepth 20000 in
theorem ggL_act_X6_more : GoodIn wsL_act wsX6_more := goodIn_r _ [95, 96] (by decide +kernel) (by decide +kernel)
set_option maxRecDepth 20000 in
theorem gL_act_X6_more : GoodIn wsL_act (va_wsS RL 60 yX6_more wsX6_more) := goodIn_app (goodIn_of _ (by decide +kernel)) ggL_act_X6_more
set_option maxRecDepth 20000 in
theorem ggL_act_X5_pair : GoodIn wsL_act wsX5_pair := goodIn_ca (goodIn_ca (goodIn_ca (goodIn_r _ [100, 26, 27, 28, 29, 30, 31, 33, 34, 35, 24, 36, 37, 38, 39, 101, 102, 103, 104, 105, 106, 107, 108, 109, 223, 224, 225, 226, 227, 228, 229, 230, 231, 232, 233, 234, 235, 236, 240, 241, 242, 243] (by decide +kernel) (by decide +kernel)) (goodIn_sub (fun _ h => List.mem_cons_of_mem _ (List.mem_append_left _ (List.mem_append_left _ (List.mem_append_right _ h)))) (by decide +kernel))) (goodIn_sub (fun _ h => List.mem_cons_of_mem _ (List.mem_append_left _ (List.mem_append_right _ h))) (by decide +kernel))) (goodIn_sub (fun _ h => List.mem_cons_of_mem _ (List.mem_append_right _ h)) (by decide +kernel))
set_option maxRecDepth 20000 in
theorem gL_act_X5_pair : GoodIn wsL_act (wsV RL 64 RX5 yX5_pair wsX5_pair) := goodIn_app (goodIn_of _ (by decide +kernel)) ggL_act_X5_pair
set_option maxRecDepth 20000 in
theorem ggL_act_X5_wire : GoodIn wsL_act wsX5_wire := goodIn_ca (goodIn_ca (goodIn_r _ [113, 26, 27, 30, 31, 33, 114, 115, 116, 104, 117, 106, 118, 119, 120, 121, 109, 122, 123, 124, 125, 126, 223, 224, 225, 226, 227, 228, 229, 230, 231, 232, 233, 234, 235, 236, 240, 241, 242, 243] (by decide +kernel) (by decide +kernel)) (goodIn_sub (fun _ h => List.mem_cons_of_mem _ (List.mem_append_left _ (List.mem_append_left _ (List.mem_append_right _ h)))) (by decide +kernel))) (goodIn_sub (fun _ h => List.mem_cons_of_mem _ (List.mem_append_right _ h)) (by decide +kernel))
set_option maxRecDepth 20000 in
theorem gL_act_X5_wire : GoodIn wsL_act (wsV RL 67 RX5 yX5_wire wsX5_wire) := goodIn_app (goodIn_of _ (by decide +kernel)) ggL_act_X5_wire
set_option maxRecDepth 20000 in
theorem ggL_act_X5_team : GoodIn wsL_act wsX5_team := goodIn_ca (goodIn_ca (goodIn_r _ [130, 28, 29, 30, 31, 33, 37, 38, 24, 39, 131, 132, 133, 134, 135, 136, 137, 138, 139, 223, 224, 225, 226, 227, 228, 229, 230, 231, 232, 233, 234, 235, 236, 244, 245, 246, 247] (by decide +kernel) (by decide +kernel)) (goodIn_sub (fun _ h => List.mem_cons_of_mem _ (List.mem_append_left _ (List.mem_append_right _ h))) (by decide +kernel))) (goodIn_sub (fun _ h => List.mem_cons_of_mem _ (List.mem_append_right _ h)) (by decide +kernel))
set_option maxRecDepth 20000 in
theorem gL_act_X5_team : GoodIn wsL_act (wsV RL 70 RX5 yX5_team wsX5_team) := goodIn_app (goodIn_of _ (by decide +kernel)) ggL_act_X5_team
set_option maxRecDepth 20000 in
theorem ggL_act_X5_setWater : GoodIn wsL_act wsX5_setWater := goodIn_ca (goodIn_ca (goodIn_r _ [143, 26, 27, 28, 29, 33, 34, 35, 24, 36, 223, 224, 225, 226, 227, 228, 229, 230, 231, 232, 233, 234, 235, 236] (by decide +kernel) (by decide +kernel)) (goodIn_sub (fun _ h => List.mem_cons_of_mem _ (List.mem_append_left _ (List.mem_append_left _ (List.mem_append_right _ h)))) (by decide +kernel))) (goodIn_sub (fun _ h => List.mem_cons_of_mem _ (List.mem_append_left _ (List.mem_append_right _ h))) (by decide +kernel))
set_option maxRecDepth 20000 in
theorem gL_act_X5_setWater : GoodIn wsL_act (wsV RL 81 RX5 yX5_setWater wsX5_setWater) := goodIn_app (goodIn_of _ (by decide +kernel)) ggL_act_X5_setWater
set_option maxRecDepth 20000 in
theorem gpL_act_X5_place_0 : GoodIn wsL_act (.code yX5_place cX5_place 5 (some .int) :: wsX5_place_r1) := goodIn_r _ [147, 26, 27, 30, 31, 33, 148, 149, 150, 134, 151, 136, 34, 35, 24, 36, 114, 115, 116, 104, 117, 106, 152, 153, 154] (by decide +kernel) (by decide +kernel)
set_option maxRecDepth 20000 in
theorem gpL_act_X5_place_1 : GoodIn wsL_act wsX5_place_r2 := goodIn_r _ [155, 156, 157, 158, 159, 139, 160, 161, 162, 163, 164, 138, 165, 166, 167, 43, 168, 169, 170, 171, 172, 173, 174, 175] (by decide +kernel) (by decide +kernel)
set_option maxRecDepth 20000 in
theorem gpL_act_X5_place_2 : GoodIn wsL_act wsX5_place_r3 := goodIn_r _ [176, 177, 178, 179, 180, 181, 182, 183, 75, 184, 82, 185, 186, 187, 188, 108, 122, 189, 190, 191, 192, 137, 193, 194] (by decide +kernel) (by decide +kernel)
set_option maxRecDepth 20000 in
theorem gpL_act_X5_place_3 : GoodIn wsL_act wsX5_place_r4 := goodIn_r _ [195, 196, 45, 197, 198, 73, 74, 76, 77] (by decide +kernel) (by decide +kernel)
set_option maxRecDepth 20000 in
theorem gpL_act_X5_place_wsX50 : GoodIn wsL_act wsX50 := goodIn_r _ [223, 224] (by decide +kernel) (by decide +kernel)
set_option maxRecDepth 20000 in
theorem gpL_act_X5_place_wsX00 : GoodIn wsL_act wsX00 := goodIn_r _ [225, 226, 227, 228, 229, 230, 231, 232, 233, 234, 235, 236] (by decide +kernel) (by decide +kernel)
set_option maxRecDepth 20000 in
theorem gpL_act_X5_place_wsX30 : GoodIn wsL_act wsX30 := goodIn_r _ [244, 245, 246, 247] (by decide +kernel) (by decide +kernel)
set_option maxRecDepth 20000 in
theorem gpL_act_X5_place_wsX10 : GoodIn wsL_act wsX10 := goodIn_r _ [240, 241, 242, 243] (by decide +kernel) (by decide +kernel)
set_option maxRecDepth 20000 in
theorem gpL_act_X5_place_wsX40 : GoodIn wsL_act wsX40 := goodIn_r _ [237, 238, 239] (by decide +kernel) (by decide +kernel)
set_option maxRecDepth 20000 in
theorem gpL_act_X5_place_wsX20 : GoodIn wsL_act wsX20 := goodIn_r _ [248, 249, 250, 251, 252] (by decide +kernel) (by decide +kernel)
set_option maxRecDepth 20000 in
theorem ggL_act_X5_place : GoodIn wsL_act wsX5_place := goodIn_ca (goodIn_ca (goodIn_ca (goodIn_ca (goodIn_ca (goodIn_ca (goodIn_ca (goodIn_ca (goodIn_ca gpL_act_X5_place_0 (goodIn_app gpL_act_X5_place_1 (goodIn_app gpL_act_X5_place_2 gpL_act_X5_place_3))) gpL_act_X5_place_wsX50) gpL_act_X5_place_wsX00) gpL_act_X5_place_wsX30) gpL_act_X5_place_wsX10) gpL_act_X5_place_wsX40) gpL_act_X5_place_wsX20) (goodIn_sub (fun _ h => List.mem_cons_of_mem _ (List.mem_append_left _ (List.mem_append_left _ (List.mem_append_right _ h)))) (by decide +kernel))) (goodIn_sub (fun _ h => List.mem_cons_of_mem _ (List.mem_append_right _ h)) (by decide +kernel))
set_option maxRecDepth 20000 in
theorem gL_act_X5_place : GoodIn wsL_act (wsV RL 84 RX5 yX5_place wsX5_place) := goodIn_app (goodIn_of _ (by decide +kernel)) ggL_act_X5_place
set_option maxRecDepth 20000 in
theorem ggL_act_X6_makes : GoodIn wsL_act wsX6_makes := goodIn_r _ [202, 203, 204, 205, 206, 207, 49, 208, 209, 210, 211, 212, 213, 214, 215, 216, 217, 218, 219, 220, 221, 222] (by decide +kernel) (by decide +kernel)
set_option maxRecDepth 20000 in
theorem gL_act_X6_makes : GoodIn wsL_act (wsV RL 87 RX6 yX6_makes wsX6_makes) := goodIn_app (goodIn_of _ (by decide +kernel)) ggL_act_X6_makes
