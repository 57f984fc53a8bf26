set_option maxRecDepth 20000 in
theorem ggL_buy_X5_buy : GoodIn wsL_buy wsX5_buy := goodIn_ca (goodIn_ca (goodIn_ca (goodIn_r _ [8, 9, 10, 11, 12, 13, 14, 15, 16, 17, 18, 7, 19, 20, 21, 22, 23, 24, 25, 26, 27, 28, 29, 30, 31, 32, 33, 34, 35, 36, 37, 38, 39, 40, 41, 42, 43] (by decide +kernel) (by decide +kernel)) (goodIn_sub (fun _ h => List.mem_cons_of_mem _ (List.mem_append_left _ (List.mem_append_left _ (List.mem_append_right _ h)))) (by decide +kernel))) (goodIn_sub (fun _ h => List.mem_cons_of_mem _ (List.mem_append_left _ (List.mem_append_right _ h))) (by decide +kernel))) (goodIn_sub (fun _ h => List.mem_cons_of_mem _ (List.mem_append_right _ h)) (by decide +kernel))
set_option maxRecDepth 20000 in
theorem gL_buy_X5_buy : GoodIn wsL_buy (wsV RL 7 RX5 yX5_buy wsX5_buy) := goodIn_app (goodIn_of _ (by decide +kernel)) ggL_buy_X5_buy
theorem dL_buy_0 : decode cL_buy 0 = .ok (.aload_n 3, 1) := by decide +kernel
theorem dL_buy_1 : decode cL_buy 1 = .ok (.iconst 0, 1) := by decide +kernel
theorem dL_buy_2 : decode cL_buy 2 = .ok (.aload_n 0, 1) := by decide +kernel
theorem dL_buy_3 : decode cL_buy 3 = .ok (.iload_n 1, 1) := by decide +kernel
theorem dL_buy_4 : decode cL_buy 4 = .ok (.iload_n 2, 1) := by decide +kernel
theorem dL_buy_5 : decode cL_buy 5 = .ok (.invokevirtual 7, 3) := by decide +kernel
theorem dL_buy_8 : decode cL_buy 8 = .ok (.i2l, 1) := by decide +kernel
theorem dL_buy_9 : decode cL_buy 9 = .ok (.lastore, 1) := by decide +kernel
theorem dL_buy_10 : decode cL_buy 10 = .ok (.goto 15, 3) := by decide +kernel
theorem dL_buy_13 : decode cL_buy 13 = .ok (.astore 4, 2) := by decide +kernel
theorem dL_buy_15 : decode cL_buy 15 = .ok (.iconst 1, 1) := by decide +kernel
theorem dL_buy_16 : decode cL_buy 16 = .ok (.ireturn, 1) := by decide +kernel
theorem dL_buy_17 : decode cL_buy 17 = .ok (.astore 4, 2) := by decide +kernel
theorem dL_buy_19 : decode cL_buy 19 = .ok (.iconst 2, 1) := by decide +kernel
theorem dL_buy_20 : decode cL_buy 20 = .ok (.ireturn, 1) := by decide +kernel
theorem dL_buy_21 : decode cL_buy 21 = .ok (.astore 4, 2) := by decide +kernel
theorem dL_buy_23 : decode cL_buy 23 = .ok (.iconst 3, 1) := by decide +kernel
theorem dL_buy_24 : decode cL_buy 24 = .ok (.ireturn, 1) := by decide +kernel
theorem dL_buy_25 : decode cL_buy 25 = .ok (.iconst 0, 1) := by decide +kernel
theorem dL_buy_26 : decode cL_buy 26 = .ok (.ireturn, 1) := by decide +kernel
set_option maxRecDepth 20000 in
theorem ggL_sell_X5_sell : GoodIn wsL_sell wsX5_sell := goodIn_ca (goodIn_ca (goodIn_ca (goodIn_r _ [8, 9, 10, 11, 12, 13, 14, 15, 16, 17, 7, 18, 19, 20, 21, 22, 23, 24, 25, 26, 27, 28, 29, 30, 31, 32, 33, 34, 35, 36, 37, 38, 39, 40, 41, 42, 43, 44, 45, 46, 47, 48, 49] (by decide +kernel) (by decide +kernel)) (goodIn_sub (fun _ h => List.mem_cons_of_mem _ (List.mem_append_left _ (List.mem_append_left _ (List.mem_append_right _ h)))) (by decide +kernel))) (goodIn_sub (fun _ h => List.mem_cons_of_mem _ (List.mem_append_left _ (List.mem_append_right _ h))) (by decide +kernel))) (goodIn_sub (fun _ h => List.mem_cons_of_mem _ (List.mem_append_right _ h)) (by decide +kernel))
set_option maxRecDepth 20000 in
theorem gL_sell_X5_sell : GoodIn wsL_sell (wsV RL 19 RX5 yX5_sell wsX5_sell) := goodIn_app (goodIn_of _ (by decide +kernel)) ggL_sell_X5_sell
theorem dL_sell_0 : decode cL_sell 0 = .ok (.aload 4, 2) := by decide +kernel
theorem dL_sell_2 : decode cL_sell 2 = .ok (.iconst 0, 1) := by decide +kernel
theorem dL_sell_3 : decode cL_sell 3 = .ok (.aload_n 0, 1) := by decide +kernel
theorem dL_sell_4 : decode cL_sell 4 = .ok (.iload_n 1, 1) := by decide +kernel
theorem dL_sell_5 : decode cL_sell 5 = .ok (.iload_n 2, 1) := by decide +kernel
theorem dL_sell_6 : decode cL_sell 6 = .ok (.iload_n 3, 1) := by decide +kernel
theorem dL_sell_7 : decode cL_sell 7 = .ok (.invokevirtual 19, 3) := by decide +kernel
theorem dL_sell_10 : decode cL_sell 10 = .ok (.i2l, 1) := by decide +kernel
theorem dL_sell_11 : decode cL_sell 11 = .ok (.lastore, 1) := by decide +kernel
theorem dL_sell_12 : decode cL_sell 12 = .ok (.goto 15, 3) := by decide +kernel
theorem dL_sell_15 : decode cL_sell 15 = .ok (.astore 5, 2) := by decide +kernel
theorem dL_sell_17 : decode cL_sell 17 = .ok (.iconst 1, 1) := by decide +kernel
theorem dL_sell_18 : decode cL_sell 18 = .ok (.ireturn, 1) := by decide +kernel
theorem dL_sell_19 : decode cL_sell 19 = .ok (.astore 5, 2) := by decide +kernel
theorem dL_sell_21 : decode cL_sell 21 = .ok (.iconst 2, 1) := by decide +kernel
theorem dL_sell_22 : decode cL_sell 22 = .ok (.ireturn, 1) := by decide +kernel
theorem dL_sell_23 : decode cL_sell 23 = .ok (.astore 5, 2) := by decide +kernel
theorem dL_sell_25 : decode cL_sell 25 = .ok (.iconst 3, 1) := by decide +kernel
theorem dL_sell_26 : decode cL_sell 26 = .ok (.ireturn, 1) := by decide +kernel
theorem dL_sell_27 : decode cL_sell 27 = .ok (.iconst 0, 1) := by decide +kernel
theorem dL_sell_28 : decode cL_sell 28 = .ok (.ireturn, 1) := by decide +kernel
set_option maxRecDepth 20000 in
theorem ggL_fill_X5_fill : GoodIn wsL_fill wsX5_fill := goodIn_ca (goodIn_ca (goodIn_ca (goodIn_r _ [8, 9, 10, 11, 12, 13, 14, 15, 16, 17, 7, 18, 19, 20, 21, 22, 23, 24, 25, 26, 27, 28, 29, 30, 31, 32, 33, 34, 35, 36, 37, 38, 39, 40, 41, 42, 43, 44, 45, 46, 47, 48, 49, 50] (by decide +kernel) (by decide +kernel)) (goodIn_sub (fun _ h => List.mem_cons_of_mem _ (List.mem_append_left _ (List.mem_append_left _ (List.mem_append_right _ h)))) (by decide +kernel))) (goodIn_sub (fun _ h => List.mem_cons_of_mem _ (List.mem_append_left _ (List.mem_append_right _ h))) (by decide +kernel))) (goodIn_sub (fun _ h => List.mem_cons_of_mem _ (List.mem_append_right _ h)) (by decide +kernel))
set_option maxRecDepth 20000 in
theorem gL_fill_X5_fill : GoodIn wsL_fill (wsV RL 23 RX5 yX5_fill wsX5_fill) := goodIn_app (goodIn_of _ (by decide +kernel)) ggL_fill_X5_fill
theorem dL_fill_0 : decode cL_fill 0 = .ok (.aload 4, 2) := by decide +kernel
theorem dL_fill_2 : decode cL_fill 2 = .ok (.iconst 0, 1) := by decide +kernel
theorem dL_fill_3 : decode cL_fill 3 = .ok (.aload_n 0, 1) := by decide +kernel
theorem dL_fill_4 : decode cL_fill 4 = .ok (.iload_n 1, 1) := by decide +kernel
theorem dL_fill_5 : decode cL_fill 5 = .ok (.iload_n 2, 1) := by decide +kernel
theorem dL_fill_6 : decode cL_fill 6 = .ok (.iload_n 3, 1) := by decide +kernel
theorem dL_fill_7 : decode cL_fill 7 = .ok (.invokevirtual 23, 3) := by decide +kernel
theorem dL_fill_10 : decode cL_fill 10 = .ok (.i2l, 1) := by decide +kernel
theorem dL_fill_11 : decode cL_fill 11 = .ok (.lastore, 1) := by decide +kernel
theorem dL_fill_12 : decode cL_fill 12 = .ok (.goto 15, 3) := by decide +kernel
theorem dL_fill_15 : decode cL_fill 15 = .ok (.astore 5, 2) := by decide +kernel
theorem dL_fill_17 : decode cL_fill 17 = .ok (.iconst 1, 1) := by decide +kernel
theorem dL_fill_18 : decode cL_fill 18 = .ok (.ireturn, 1) := by decide +kernel
theorem dL_fill_19 : decode cL_fill 19 = .ok (.astore 5, 2) := by decide +kernel
theorem dL_fill_21 : decode cL_fill 21 = .ok (.iconst 2, 1) := by decide +kernel
theorem dL_fill_22 : decode cL_fill 22 = .ok (.ireturn, 1) := by decide +kernel
theorem dL_fill_23 : decode cL_fill 23 = .ok (.astore 5, 2) := by decide +kernel
theorem dL_fill_25 : decode cL_fill 25 = .ok (.iconst 3, 1) := by decide +kernel
theorem dL_fill_26 : decode cL_fill 26 = .ok (.ireturn, 1) := by decide +kernel
theorem dL_fill_27 : decode cL_fill 27 = .ok (.iconst 0, 1) := by decide +kernel
theorem dL_fill_28 : decode cL_fill 28 = .ok (.ireturn, 1) := by decide +kernel
set_option maxRecDepth 20000 in
theorem ggL_drain_X5_drain : GoodIn wsL_drain wsX5_drain := goodIn_ca (goodIn_ca (goodIn_r _ [7, 8, 9, 10, 11, 12, 13, 14, 6, 15, 16, 17, 18, 19, 20, 21, 22, 23, 24, 25, 26, 27, 28, 29, 30, 31, 32, 33, 34, 35, 36, 37, 38, 39, 40, 41, 42, 43, 44, 45, 46, 47, 48] (by decide +kernel) (by decide +kernel)) (goodIn_sub (fun _ h => List.mem_cons_of_mem _ (List.mem_append_left _ (List.mem_append_right _ h))) (by decide +kernel))) (goodIn_sub (fun _ h => List.mem_cons_of_mem _ (List.mem_append_right _ h)) (by decide +kernel))
set_option maxRecDepth 20000 in
theorem gL_drain_X5_drain : GoodIn wsL_drain (wsV RL 26 RX5 yX5_drain wsX5_drain) := goodIn_app (goodIn_of _ (by decide +kernel)) ggL_drain_X5_drain
theorem dL_drain_0 : decode cL_drain 0 = .ok (.aload_n 2, 1) := by decide +kernel
theorem dL_drain_1 : decode cL_drain 1 = .ok (.iconst 0, 1) := by decide +kernel
theorem dL_drain_2 : decode cL_drain 2 = .ok (.aload_n 0, 1) := by decide +kernel
theorem dL_drain_3 : decode cL_drain 3 = .ok (.iload_n 1, 1) := by decide +kernel
theorem dL_drain_4 : decode cL_drain 4 = .ok (.invokevirtual 26, 3) := by decide +kernel
theorem dL_drain_7 : decode cL_drain 7 = .ok (.i2l, 1) := by decide +kernel
theorem dL_drain_8 : decode cL_drain 8 = .ok (.lastore, 1) := by decide +kernel
theorem dL_drain_9 : decode cL_drain 9 = .ok (.goto 9, 3) := by decide +kernel
theorem dL_drain_12 : decode cL_drain 12 = .ok (.astore_n 3, 1) := by decide +kernel
theorem dL_drain_13 : decode cL_drain 13 = .ok (.iconst 1, 1) := by decide +kernel
theorem dL_drain_14 : decode cL_drain 14 = .ok (.ireturn, 1) := by decide +kernel
theorem dL_drain_15 : decode cL_drain 15 = .ok (.astore_n 3, 1) := by decide +kernel
theorem dL_drain_16 : decode cL_drain 16 = .ok (.iconst 2, 1) := by decide +kernel
theorem dL_drain_17 : decode cL_drain 17 = .ok (.ireturn, 1) := by decide +kernel
theorem dL_drain_18 : decode cL_drain 18 = .ok (.iconst 0, 1) := by decide +kernel
theorem dL_drain_19 : decode cL_drain 19 = .ok (.ireturn, 1) := by decide +kernel
set_option maxRecDepth 20000 in
theorem ggL_pair_X5_pair : GoodIn wsL_pair wsX5_pair := goodIn_ca (goodIn_ca (goodIn_ca (goodIn_r _ [8, 9, 10, 11, 12, 13, 14, 15, 16, 17, 7, 18, 19, 20, 21, 22, 23, 24, 25, 26, 27, 28, 29, 30, 31, 32, 33, 34, 35, 36, 37, 38, 39, 40, 41, 42, 43, 44, 45, 46, 47, 48] (by decide +kernel) (by decide +kernel)) (goodIn_sub (fun _ h => List.mem_cons_of_mem _ (List.mem_append_left _ (List.mem_append_left _ (List.mem_append_right _ h)))) (by decide +kernel))) (goodIn_sub (fun _ h => List.mem_cons_of_mem _ (List.mem_append_left _ (List.mem_append_right _ h))) (by decide +kernel))) (goodIn_sub (fun _ h => List.mem_cons_of_mem _ (List.mem_append_right _ h)) (by decide +kernel))
set_option maxRecDepth 20000 in
theorem gL_pair_X5_pair : GoodIn wsL_pair (wsV RL 30 RX5 yX5_pair wsX5_pair) := goodIn_app (goodIn_of _ (by decide +kernel)) ggL_pair_X5_pair
theorem dL_pair_0 : decode cL_pair 0 = .ok (.aload_n 3, 1) := by decide +kernel
theorem dL_pair_1 : decode cL_pair 1 = .ok (.iconst 0, 1) := by decide +kernel
theorem dL_pair_2 : decode cL_pair 2 = .ok (.aload_n 0, 1) := by decide +kernel
theorem dL_pair_3 : decode cL_pair 3 = .ok (.iload_n 1, 1) := by decide +kernel
theorem dL_pair_4 : decode cL_pair 4 = .ok (.iload_n 2, 1) := by decide +kernel
theorem dL_pair_5 : decode cL_pair 5 = .ok (.invokevirtual 30, 3) := by decide +kernel
theorem dL_pair_8 : decode cL_pair 8 = .ok (.i2l, 1) := by decide +kernel
theorem dL_pair_9 : decode cL_pair 9 = .ok (.lastore, 1) := by decide +kernel
theorem dL_pair_10 : decode cL_pair 10 = .ok (.goto 15, 3) := by decide +kernel
theorem dL_pair_13 : decode cL_pair 13 = .ok (.astore 4, 2) := by decide +kernel
theorem dL_pair_15 : decode cL_pair 15 = .ok (.iconst 1, 1) := by decide +kernel
theorem dL_pair_16 : decode cL_pair 16 = .ok (.ireturn, 1) := by decide +kernel
theorem dL_pair_17 : decode cL_pair 17 = .ok (.astore 4, 2) := by decide +kernel
theorem dL_pair_19 : decode cL_pair 19 = .ok (.iconst 2, 1) := by decide +kernel
theorem dL_pair_20 : decode cL_pair 20 = .ok (.ireturn, 1) := by decide +kernel
theorem dL_pair_21 : decode cL_pair 21 = .ok (.astore 4, 2) := by decide +kernel
theorem dL_pair_23 : decode cL_pair 23 = .ok (.iconst 3, 1) := by decide +kernel
theorem dL_pair_24 : decode cL_pair 24 = .ok (.ireturn, 1) := by decide +kernel
theorem dL_pair_25 : decode cL_pair 25 = .ok (.iconst 0, 1) := by decide +kernel
theorem dL_pair_26 : decode cL_pair 26 = .ok (.ireturn, 1) := by decide +kernel
set_option maxRecDepth 20000 in
theorem ggL_wire_X5_wire : GoodIn wsL_wire wsX5_wire := goodIn_ca (goodIn_ca (goodIn_r _ [7, 8, 9, 10, 11, 12, 13, 14, 15, 16, 17, 18, 19, 20, 21, 22, 23, 24, 25, 26, 27, 28, 29, 30, 31, 32, 33, 34, 35, 36, 37, 38, 39, 40, 41, 42, 43, 44, 45, 46] (by decide +kernel) (by decide +kernel)) (goodIn_sub (fun _ h => List.mem_cons_of_mem _ (List.mem_append_left _ (List.mem_append_right _ h))) (by decide +kernel))) (goodIn_sub (fun _ h => List.mem_cons_of_mem _ (List.mem_append_right _ h)) (by decide +kernel))
set_option maxRecDepth 20000 in
theorem gL_wire_X5_wire : GoodIn wsL_wire (wsV RL 33 RX5 yX5_wire wsX5_wire) := goodIn_app (goodIn_of _ (by decide +kernel)) ggL_wire_X5_wire
theorem dL_wire_0 : decode cL_wire 0 = .ok (.aload_n 2, 1) := by decide +kernel
theorem dL_wire_1 : decode cL_wire 1 = .ok (.iconst 0, 1) := by decide +kernel
theorem dL_wire_2 : decode cL_wire 2 = .ok (.aload_n 0, 1) := by decide +kernel
theorem dL_wire_3 : decode cL_wire 3 = .ok (.iload_n 1, 1) := by decide +kernel
theorem dL_wire_4 : decode cL_wire 4 = .ok (.invokevirtual 33, 3) := by decide +kernel
theorem dL_wire_7 : decode cL_wire 7 = .ok (.i2l, 1) := by decide +kernel
theorem dL_wire_8 : decode cL_wire 8 = .ok (.lastore, 1) := by decide +kernel
theorem dL_wire_9 : decode cL_wire 9 = .ok (.goto 9, 3) := by decide +kernel
theorem dL_wire_12 : decode cL_wire 12 = .ok (.astore_n 3, 1) := by decide +kernel
theorem dL_wire_13 : decode cL_wire 13 = .ok (.iconst 1, 1) := by decide +kernel
theorem dL_wire_14 : decode cL_wire 14 = .ok (.ireturn, 1) := by decide +kernel
theorem dL_wire_15 : decode cL_wire 15 = .ok (.astore_n 3, 1) := by decide +kernel
theorem dL_wire_16 : decode cL_wire 16 = .ok (.iconst 2, 1) := by decide +kernel
theorem dL_wire_17 : decode cL_wire 17 = .ok (.ireturn, 1) := by decide +kernel
theorem dL_wire_18 : decode cL_wire 18 = .ok (.iconst 0, 1) := by decide +kernel
theorem dL_wire_19 : decode cL_wire 19 = .ok (.ireturn, 1) := by decide +kernel
set_option maxRecDepth 20000 in
theorem ggL_team_X5_team : GoodIn wsL_team wsX5_team := goodIn_ca (goodIn_ca (goodIn_r _ [7, 8, 9, 10, 11, 12, 13, 14, 6, 15, 16, 17, 18, 19, 20, 21, 22, 23, 24, 25, 26, 27, 28, 29, 30, 31, 32, 33, 34, 35, 36, 37, 38, 39, 40, 41, 42] (by decide +kernel) (by decide +kernel)) (goodIn_sub (fun _ h => List.mem_cons_of_mem _ (List.mem_append_left _ (List.mem_append_right _ h))) (by decide +kernel))) (goodIn_sub (fun _ h => List.mem_cons_of_mem _ (List.mem_append_right _ h)) (by decide +kernel))
set_option maxRecDepth 20000 in
theorem gL_team_X5_team : GoodIn wsL_team (wsV RL 36 RX5 yX5_team wsX5_team) := goodIn_app (goodIn_of _ (by decide +kernel)) ggL_team_X5_team
theorem dL_team_0 : decode cL_team 0 = .ok (.aload_n 2, 1) := by decide +kernel
theorem dL_team_1 : decode cL_team 1 = .ok (.iconst 0, 1) := by decide +kernel
theorem dL_team_2 : decode cL_team 2 = .ok (.aload_n 0, 1) := by decide +kernel
theorem dL_team_3 : decode cL_team 3 = .ok (.iload_n 1, 1) := by decide +kernel
theorem dL_team_4 : decode cL_team 4 = .ok (.invokevirtual 36, 3) := by decide +kernel
theorem dL_team_7 : decode cL_team 7 = .ok (.i2l, 1) := by decide +kernel
theorem dL_team_8 : decode cL_team 8 = .ok (.lastore, 1) := by decide +kernel
theorem dL_team_9 : decode cL_team 9 = .ok (.goto 9, 3) := by decide +kernel
theorem dL_team_12 : decode cL_team 12 = .ok (.astore_n 3, 1) := by decide +kernel
theorem dL_team_13 : decode cL_team 13 = .ok (.iconst 1, 1) := by decide +kernel
theorem dL_team_14 : decode cL_team 14 = .ok (.ireturn, 1) := by decide +kernel
theorem dL_team_15 : decode cL_team 15 = .ok (.astore_n 3, 1) := by decide +kernel
theorem dL_team_16 : decode cL_team 16 = .ok (.iconst 2, 1) := by decide +kernel
theorem dL_team_17 : decode cL_team 17 = .ok (.ireturn, 1) := by decide +kernel
theorem dL_team_18 : decode cL_team 18 = .ok (.iconst 0, 1) := by decide +kernel
theorem dL_team_19 : decode cL_team 19 = .ok (.ireturn, 1) := by decide +kernel
set_option maxRecDepth 20000 in
theorem ggL_place_X5_place : GoodIn wsL_place wsX5_place := goodIn_ca (goodIn_ca (goodIn_r _ [7, 8, 9, 10, 11, 12, 13, 14, 15, 16, 17, 18, 19, 20, 6, 21, 22, 23, 24, 25, 26, 27, 28, 29, 30, 31, 32, 33, 34, 35, 36, 37, 38, 39, 40, 41, 42, 43, 44, 45, 46, 47, 48, 49, 50, 51, 52, 53, 54, 55, 56, 57, 58, 59, 60, 61, 62, 63, 64, 65, 66, 67, 68, 69, 70, 71, 72, 73, 74, 75, 76, 77, 78, 79, 80, 81, 82, 83, 84, 85, 86, 87, 88, 89, 90, 91, 92, 93, 94, 95, 96, 97, 98, 99, 100, 101, 102, 103, 104, 105, 106, 107, 108, 109, 110, 111, 112, 113, 114, 115, 116, 117] (by decide +kernel) (by decide +kernel)) (goodIn_sub (fun _ h => List.mem_cons_of_mem _ (List.mem_append_left _ (List.mem_append_right _ h))) (by decide +kernel))) (goodIn_sub (fun _ h => List.mem_cons_of_mem _ (List.mem_append_right _ h)) (by decide +kernel))
set_option maxRecDepth 20000 in
theorem gL_place_X5_place : GoodIn wsL_place (wsV RL 39 RX5 yX5_place wsX5_place) := goodIn_app (goodIn_of _ (by decide +kernel)) ggL_place_X5_place
theorem dL_place_0 : decode cL_place 0 = .ok (.aload 4, 2) := by decide +kernel
theorem dL_place_2 : decode cL_place 2 = .ok (.iconst 0, 1) := by decide +kernel
theorem dL_place_3 : decode cL_place 3 = .ok (.aload_n 0, 1) := by decide +kernel
theorem dL_place_4 : decode cL_place 4 = .ok (.iload_n 1, 1) := by decide +kernel
theorem dL_place_5 : decode cL_place 5 = .ok (.iload_n 2, 1) := by decide +kernel
theorem dL_place_6 : decode cL_place 6 = .ok (.iload_n 3, 1) := by decide +kernel
theorem dL_place_7 : decode cL_place 7 = .ok (.invokevirtual 39, 3) := by decide +kernel
theorem dL_place_10 : decode cL_place 10 = .ok (.i2l, 1) := by decide +kernel
theorem dL_place_11 : decode cL_place 11 = .ok (.lastore, 1) := by decide +kernel
theorem dL_place_12 : decode cL_place 12 = .ok (.goto 11, 3) := by decide +kernel
theorem dL_place_15 : decode cL_place 15 = .ok (.astore 5, 2) := by decide +kernel
theorem dL_place_17 : decode cL_place 17 = .ok (.iconst 1, 1) := by decide +kernel
theorem dL_place_18 : decode cL_place 18 = .ok (.ireturn, 1) := by decide +kernel
theorem dL_place_19 : decode cL_place 19 = .ok (.astore 5, 2) := by decide +kernel
theorem dL_place_21 : decode cL_place 21 = .ok (.iconst 2, 1) := by decide +kernel
theorem dL_place_22 : decode cL_place 22 = .ok (.ireturn, 1) := by decide +kernel
theorem dL_place_23 : decode cL_place 23 = .ok (.iconst 0, 1) := by decide +kernel
theorem dL_place_24 : decode cL_place 24 = .ok (.ireturn, 1) := by decide +kernel
set_option maxRecDepth 20000 in
theorem ggL_setWater_X5_setWater : GoodIn wsL_setWater wsX5_setWater := goodIn_ca (goodIn_ca (goodIn_r _ [7, 8, 9, 10, 11, 12, 13, 14, 6, 15, 16, 17, 18, 19, 20, 21, 22, 23, 24, 25, 26, 27, 28, 29] (by decide +kernel) (by decide +kernel)) (goodIn_sub (fun _ h => List.mem_cons_of_mem _ (List.mem_append_left _ (List.mem_append_right _ h))) (by decide +kernel))) (goodIn_sub (fun _ h => List.mem_cons_of_mem _ (List.mem_append_right _ h)) (by decide +kernel))
set_option maxRecDepth 20000 in
theorem gL_setWater_X5_setWater : GoodIn wsL_setWater (wsV RL 42 RX5 yX5_setWater wsX5_setWater) := goodIn_app (goodIn_of _ (by decide +kernel)) ggL_setWater_X5_setWater
theorem dL_setWater_0 : decode cL_setWater 0 = .ok (.aload_n 3, 1) := by decide +kernel
theorem dL_setWater_1 : decode cL_setWater 1 = .ok (.iconst 0, 1) := by decide +kernel
theorem dL_setWater_2 : decode cL_setWater 2 = .ok (.aload_n 0, 1) := by decide +kernel
theorem dL_setWater_3 : decode cL_setWater 3 = .ok (.iload_n 1, 1) := by decide +kernel
theorem dL_setWater_4 : decode cL_setWater 4 = .ok (.iload_n 2, 1) := by decide +kernel
theorem dL_setWater_5 : decode cL_setWater 5 = .ok (.invokevirtual 42, 3) := by decide +kernel
theorem dL_setWater_8 : decode cL_setWater 8 = .ok (.i2l, 1) := by decide +kernel
theorem dL_setWater_9 : decode cL_setWater 9 = .ok (.lastore, 1) := by decide +kernel
theorem dL_setWater_10 : decode cL_setWater 10 = .ok (.goto 11, 3) := by decide +kernel
theorem dL_setWater_13 : decode cL_setWater 13 = .ok (.astore 4, 2) := by decide +kernel
theorem dL_setWater_15 : decode cL_setWater 15 = .ok (.iconst 1, 1) := by decide +kernel
theorem dL_setWater_16 : decode cL_setWater 16 = .ok (.ireturn, 1) := by decide +kernel
theorem dL_setWater_17 : decode cL_setWater 17 = .ok (.astore 4, 2) := by decide +kernel
theorem dL_setWater_19 : decode cL_setWater 19 = .ok (.iconst 2, 1) := by decide +kernel
theorem dL_setWater_20 : decode cL_setWater 20 = .ok (.ireturn, 1) := by decide +kernel
theorem dL_setWater_21 : decode cL_setWater 21 = .ok (.iconst 0, 1) := by decide +kernel
theorem dL_setWater_22 : decode cL_setWater 22 = .ok (.ireturn, 1) := by decide +kernel
set_option maxRecDepth 20000 in
theorem ggL_about_X5_about : GoodIn wsL_about wsX5_about := goodIn_ca (goodIn_r _ [6, 7, 8, 9, 10, 11, 5, 12, 13, 14, 15, 16, 17, 18, 19, 20, 21, 22, 23, 24, 25, 26, 27, 28, 29, 30, 31, 32, 33, 34, 35, 36, 37, 38, 39, 40, 41, 42, 43, 44, 45, 46, 47, 48, 49] (by decide +kernel) (by decide +kernel)) (goodIn_sub (fun _ h => List.mem_cons_of_mem _ (List.mem_append_right _ h)) (by decide +kernel))
set_option maxRecDepth 20000 in
theorem gL_about_X5_about : GoodIn wsL_about (wsV RL 45 RX5 yX5_about wsX5_about) := goodIn_app (goodIn_of _ (by decide +kernel)) ggL_about_X5_about
theorem dL_about_0 : decode cL_about 0 = .ok (.aload_n 3, 1) := by decide +kernel
theorem dL_about_1 : decode cL_about 1 = .ok (.iconst 0, 1) := by decide +kernel
theorem dL_about_2 : decode cL_about 2 = .ok (.aload_n 0, 1) := by decide +kernel
theorem dL_about_3 : decode cL_about 3 = .ok (.iload_n 1, 1) := by decide +kernel
theorem dL_about_4 : decode cL_about 4 = .ok (.iload_n 2, 1) := by decide +kernel
theorem dL_about_5 : decode cL_about 5 = .ok (.invokevirtual 45, 3) := by decide +kernel
theorem dL_about_8 : decode cL_about 8 = .ok (.i2l, 1) := by decide +kernel
theorem dL_about_9 : decode cL_about 9 = .ok (.lastore, 1) := by decide +kernel
theorem dL_about_10 : decode cL_about 10 = .ok (.goto 7, 3) := by decide +kernel
theorem dL_about_13 : decode cL_about 13 = .ok (.astore 4, 2) := by decide +kernel
theorem dL_about_15 : decode cL_about 15 = .ok (.iconst 1, 1) := by decide +kernel
theorem dL_about_16 : decode cL_about 16 = .ok (.ireturn, 1) := by decide +kernel
theorem dL_about_17 : decode cL_about 17 = .ok (.iconst 0, 1) := by decide +kernel
theorem dL_about_18 : decode cL_about 18 = .ok (.ireturn, 1) := by decide +kernel
set_option maxRecDepth 20000 in
theorem ggL_mould_X5_mould : GoodIn wsL_mould wsX5_mould := goodIn_ca (goodIn_r _ [6, 7, 8, 9, 10, 11, 12, 13, 14, 15, 16, 17, 5, 18, 19, 20, 21, 22, 23, 24, 25, 26, 27, 28, 29, 30, 31, 32, 33, 34, 35, 36, 37, 38, 39, 40, 41, 42, 43, 44, 45, 46, 47, 48, 49, 50, 51, 52, 53, 54, 55, 56, 57, 58, 59, 60, 61, 62, 63, 64, 65, 66, 67, 68, 69, 70, 71, 72, 73, 74, 75, 76, 77, 78] (by decide +kernel) (by decide +kernel)) (goodIn_sub (fun _ h => List.mem_cons_of_mem _ (List.mem_append_right _ h)) (by decide +kernel))
set_option maxRecDepth 20000 in
theorem gL_mould_X5_mould : GoodIn wsL_mould (wsV RL 48 RX5 yX5_mould wsX5_mould) := goodIn_app (goodIn_of _ (by decide +kernel)) ggL_mould_X5_mould
theorem dL_mould_0 : decode cL_mould 0 = .ok (.aload_n 3, 1) := by decide +kernel
theorem dL_mould_1 : decode cL_mould 1 = .ok (.iconst 0, 1) := by decide +kernel
theorem dL_mould_2 : decode cL_mould 2 = .ok (.aload_n 0, 1) := by decide +kernel
theorem dL_mould_3 : decode cL_mould 3 = .ok (.iload_n 1, 1) := by decide +kernel
theorem dL_mould_4 : decode cL_mould 4 = .ok (.iload_n 2, 1) := by decide +kernel
theorem dL_mould_5 : decode cL_mould 5 = .ok (.invokevirtual 48, 3) := by decide +kernel
theorem dL_mould_8 : decode cL_mould 8 = .ok (.i2l, 1) := by decide +kernel
theorem dL_mould_9 : decode cL_mould 9 = .ok (.lastore, 1) := by decide +kernel
theorem dL_mould_10 : decode cL_mould 10 = .ok (.goto 7, 3) := by decide +kernel
theorem dL_mould_13 : decode cL_mould 13 = .ok (.astore 4, 2) := by decide +kernel
theorem dL_mould_15 : decode cL_mould 15 = .ok (.iconst 1, 1) := by decide +kernel
theorem dL_mould_16 : decode cL_mould 16 = .ok (.ireturn, 1) := by decide +kernel
theorem dL_mould_17 : decode cL_mould 17 = .ok (.iconst 0, 1) := by decide +kernel
theorem dL_mould_18 : decode cL_mould 18 = .ok (.ireturn, 1) := by decide +kernel
set_option maxRecDepth 20000 in
theorem ggL_told_X5_told : GoodIn wsL_told wsX5_told := goodIn_ca (goodIn_r _ [6, 7, 8, 9, 10, 11, 12, 13, 14, 15, 16, 17, 5, 18, 19, 20, 21, 22, 23, 24, 25, 26, 27, 28, 29, 30, 31, 32, 33, 34, 35, 36, 37, 38, 39, 40, 41, 42, 43, 44, 45, 46, 47, 48, 49, 50, 51, 52, 53, 54, 55, 56, 57, 58, 59, 60, 61, 62, 63, 64, 65, 66, 67, 68, 69, 70, 71, 72, 73, 74, 75, 76, 77, 78, 79, 80, 81, 82, 83, 84, 85, 86, 87, 88, 89, 90, 91, 92, 93, 94, 95, 96, 97, 98, 99, 100, 101, 102, 103, 104, 105, 106, 107, 108] (by decide +kernel) (by decide +kernel)) (goodIn_sub (fun _ h => List.mem_cons_of_mem _ (List.mem_append_right _ h)) (by decide +kernel))
set_option maxRecDepth 20000 in
theorem gL_told_X5_told : GoodIn wsL_told (wsV RL 51 RX5 yX5_told wsX5_told) := goodIn_app (goodIn_of _ (by decide +kernel)) ggL_told_X5_told
theorem dL_told_0 : decode cL_told 0 = .ok (.aload_n 3, 1) := by decide +kernel
theorem dL_told_1 : decode cL_told 1 = .ok (.iconst 0, 1) := by decide +kernel
theorem dL_told_2 : decode cL_told 2 = .ok (.aload_n 0, 1) := by decide +kernel
theorem dL_told_3 : decode cL_told 3 = .ok (.iload_n 1, 1) := by decide +kernel
theorem dL_told_4 : decode cL_told 4 = .ok (.iload_n 2, 1) := by decide +kernel
theorem dL_told_5 : decode cL_told 5 = .ok (.invokevirtual 51, 3) := by decide +kernel
theorem dL_told_8 : decode cL_told 8 = .ok (.i2l, 1) := by decide +kernel
theorem dL_told_9 : decode cL_told 9 = .ok (.lastore, 1) := by decide +kernel
theorem dL_told_10 : decode cL_told 10 = .ok (.goto 7, 3) := by decide +kernel
theorem dL_told_13 : decode cL_told 13 = .ok (.astore 4, 2) := by decide +kernel
theorem dL_told_15 : decode cL_told 15 = .ok (.iconst 1, 1) := by decide +kernel
theorem dL_told_16 : decode cL_told 16 = .ok (.ireturn, 1) := by decide +kernel
theorem dL_told_17 : decode cL_told 17 = .ok (.iconst 0, 1) := by decide +kernel
theorem dL_told_18 : decode cL_told 18 = .ok (.ireturn, 1) := by decide +kernel
set_option maxRecDepth 20000 in
theorem ggL_post_X5_post : GoodIn wsL_post wsX5_post := goodIn_ca (goodIn_r _ [6, 7, 8, 9, 10, 11, 12, 13, 14, 15, 16, 17, 5, 18, 19, 20, 21, 22, 23, 24, 25, 26, 27, 28, 29, 30, 31, 32, 33, 34, 35, 36, 37, 38, 39, 40, 41, 42, 43, 44, 45, 46, 47, 48, 49, 50, 51, 52, 53, 54, 55, 56, 57] (by decide +kernel) (by decide +kernel)) (goodIn_sub (fun _ h => List.mem_cons_of_mem _ (List.mem_append_right _ h)) (by decide +kernel))
set_option maxRecDepth 20000 in
theorem gL_post_X5_post : GoodIn wsL_post (wsV RL 54 RX5 yX5_post wsX5_post) := goodIn_app (goodIn_of _ (by decide +kernel)) ggL_post_X5_post
theorem dL_post_0 : decode cL_post 0 = .ok (.aload_n 3, 1) := by decide +kernel
theorem dL_post_1 : decode cL_post 1 = .ok (.iconst 0, 1) := by decide +kernel
theorem dL_post_2 : decode cL_post 2 = .ok (.aload_n 0, 1) := by decide +kernel
theorem dL_post_3 : decode cL_post 3 = .ok (.iload_n 1, 1) := by decide +kernel
theorem dL_post_4 : decode cL_post 4 = .ok (.iload_n 2, 1) := by decide +kernel
theorem dL_post_5 : decode cL_post 5 = .ok (.invokevirtual 54, 3) := by decide +kernel
theorem dL_post_8 : decode cL_post 8 = .ok (.i2l, 1) := by decide +kernel
theorem dL_post_9 : decode cL_post 9 = .ok (.lastore, 1) := by decide +kernel
theorem dL_post_10 : decode cL_post 10 = .ok (.goto 7, 3) := by decide +kernel
theorem dL_post_13 : decode cL_post 13 = .ok (.astore 4, 2) := by decide +kernel
theorem dL_post_15 : decode cL_post 15 = .ok (.iconst 1, 1) := by decide +kernel
theorem dL_post_16 : decode cL_post 16 = .ok (.ireturn, 1) := by decide +kernel
theorem dL_post_17 : decode cL_post 17 = .ok (.iconst 0, 1) := by decide +kernel
theorem dL_post_18 : decode cL_post 18 = .ok (.ireturn, 1) := by decide +kernel
set_option maxRecDepth 20000 in
theorem ggL_loft_X5_loft : GoodIn wsL_loft wsX5_loft := goodIn_ca (goodIn_r _ [6, 7, 8, 9, 10, 11, 5, 12, 13, 14, 15, 16, 17, 18, 19, 20, 21, 22, 23, 24, 25, 26, 27, 28, 29, 30, 31, 32] (by decide +kernel) (by decide +kernel)) (goodIn_sub (fun _ h => List.mem_cons_of_mem _ (List.mem_append_right _ h)) (by decide +kernel))
set_option maxRecDepth 20000 in
theorem gL_loft_X5_loft : GoodIn wsL_loft (wsV RL 57 RX5 yX5_loft wsX5_loft) := goodIn_app (goodIn_of _ (by decide +kernel)) ggL_loft_X5_loft
theorem dL_loft_0 : decode cL_loft 0 = .ok (.aload_n 3, 1) := by decide +kernel
theorem dL_loft_1 : decode cL_loft 1 = .ok (.iconst 0, 1) := by decide +kernel
theorem dL_loft_2 : decode cL_loft 2 = .ok (.aload_n 0, 1) := by decide +kernel
theorem dL_loft_3 : decode cL_loft 3 = .ok (.iload_n 1, 1) := by decide +kernel
theorem dL_loft_4 : decode cL_loft 4 = .ok (.iload_n 2, 1) := by decide +kernel
theorem dL_loft_5 : decode cL_loft 5 = .ok (.invokevirtual 57, 3) := by decide +kernel
theorem dL_loft_8 : decode cL_loft 8 = .ok (.i2l, 1) := by decide +kernel
theorem dL_loft_9 : decode cL_loft 9 = .ok (.lastore, 1) := by decide +kernel
theorem dL_loft_10 : decode cL_loft 10 = .ok (.goto 7, 3) := by decide +kernel
theorem dL_loft_13 : decode cL_loft 13 = .ok (.astore 4, 2) := by decide +kernel
theorem dL_loft_15 : decode cL_loft 15 = .ok (.iconst 1, 1) := by decide +kernel
theorem dL_loft_16 : decode cL_loft 16 = .ok (.ireturn, 1) := by decide +kernel
theorem dL_loft_17 : decode cL_loft 17 = .ok (.iconst 0, 1) := by decide +kernel
theorem dL_loft_18 : decode cL_loft 18 = .ok (.ireturn, 1) := by decide +kernel
set_option maxRecDepth 20000 in
theorem ggL_count_X5_count : GoodIn wsL_count wsX5_count := goodIn_ca (goodIn_r _ [6, 7, 8, 9, 10, 11, 5, 12, 13, 14, 15, 16, 17, 18, 19, 20, 21, 22, 23, 24, 25, 26, 27, 28, 29, 30, 31, 32, 33, 34, 35, 36, 37, 38, 39, 40, 41, 42, 43, 44, 45, 46, 47, 48, 49, 50, 51, 52, 53, 54, 55, 56, 57, 58, 59, 60, 61, 62, 63, 64, 65, 66] (by decide +kernel) (by decide +kernel)) (goodIn_sub (fun _ h => List.mem_cons_of_mem _ (List.mem_append_right _ h)) (by decide +kernel))
set_option maxRecDepth 20000 in
theorem gL_count_X5_count : GoodIn wsL_count (wsV RL 60 RX5 yX5_count wsX5_count) := goodIn_app (goodIn_of _ (by decide +kernel)) ggL_count_X5_count
theorem dL_count_0 : decode cL_count 0 = .ok (.aload_n 2, 1) := by decide +kernel
theorem dL_count_1 : decode cL_count 1 = .ok (.iconst 0, 1) := by decide +kernel
theorem dL_count_2 : decode cL_count 2 = .ok (.aload_n 0, 1) := by decide +kernel
theorem dL_count_3 : decode cL_count 3 = .ok (.iload_n 1, 1) := by decide +kernel
theorem dL_count_4 : decode cL_count 4 = .ok (.invokevirtual 60, 3) := by decide +kernel
theorem dL_count_7 : decode cL_count 7 = .ok (.i2l, 1) := by decide +kernel
theorem dL_count_8 : decode cL_count 8 = .ok (.lastore, 1) := by decide +kernel
theorem dL_count_9 : decode cL_count 9 = .ok (.goto 6, 3) := by decide +kernel
theorem dL_count_12 : decode cL_count 12 = .ok (.astore_n 3, 1) := by decide +kernel
theorem dL_count_13 : decode cL_count 13 = .ok (.iconst 1, 1) := by decide +kernel
theorem dL_count_14 : decode cL_count 14 = .ok (.ireturn, 1) := by decide +kernel
theorem dL_count_15 : decode cL_count 15 = .ok (.iconst 0, 1) := by decide +kernel
theorem dL_count_16 : decode cL_count 16 = .ok (.ireturn, 1) := by decide +kernel
set_option maxRecDepth 20000 in
theorem ggL_pass_X5_pass : GoodIn wsL_pass wsX5_pass := goodIn_ca (goodIn_r _ [6, 7, 8, 9, 10, 11, 5, 12, 13, 14, 15, 16, 17, 18, 19, 20, 21, 22, 23, 24, 25, 26, 27, 28, 29, 30, 31, 32, 33, 34, 35, 36, 37, 38, 39, 40, 41, 42, 43, 44, 45, 46, 47, 48, 49, 50, 51, 52, 53, 54, 55, 56, 57, 58, 59, 60, 61, 62, 63, 64, 65, 66, 67, 68, 69, 70, 71, 72, 73, 74, 75, 76, 77, 78, 79, 80, 81, 82, 83, 84, 85, 86, 87, 88, 89, 90, 91, 92, 93, 94, 95, 96, 97, 98, 99, 100, 101, 102, 103, 104, 105, 106, 107, 108, 109, 110, 111, 112, 113, 114, 115, 116, 117, 118, 119, 120, 121, 122, 123, 124, 125, 126, 127, 128, 129, 130, 131, 132, 133, 134, 135, 136, 137, 138, 139, 140, 141, 142, 143, 144, 145, 146, 147, 148, 149, 150, 151, 152, 153, 154, 155, 156, 157, 158, 159, 160, 161, 162, 163, 164, 165, 166, 167, 168, 169, 170, 171, 172, 173, 174, 175, 176, 177, 178, 179, 180, 181, 182, 183, 184, 185, 186, 187, 188, 189, 190, 191, 192, 193, 194, 195, 196, 197, 198, 199, 200, 201, 202, 203, 204, 205, 206, 207, 208, 209, 210, 211, 212, 213, 214, 215, 216] (by decide +kernel) (by decide +kernel)) (goodIn_sub (fun _ h => List.mem_cons_of_mem _ (List.mem_append_right _ h)) (by decide +kernel))
set_option maxRecDepth 20000 in
theorem gL_pass_X5_pass : GoodIn wsL_pass (wsV RL 63 RX5 yX5_pass wsX5_pass) := goodIn_app (goodIn_of _ (by decide +kernel)) ggL_pass_X5_pass
theorem dL_pass_0 : decode cL_pass 0 = .ok (.aload_n 2, 1) := by decide +kernel
theorem dL_pass_1 : decode cL_pass 1 = .ok (.iconst 0, 1) := by decide +kernel
theorem dL_pass_2 : decode cL_pass 2 = .ok (.aload_n 0, 1) := by decide +kernel
theorem dL_pass_3 : decode cL_pass 3 = .ok (.iload_n 1, 1) := by decide +kernel
theorem dL_pass_4 : decode cL_pass 4 = .ok (.invokevirtual 63, 3) := by decide +kernel
theorem dL_pass_7 : decode cL_pass 7 = .ok (.i2l, 1) := by decide +kernel
theorem dL_pass_8 : decode cL_pass 8 = .ok (.lastore, 1) := by decide +kernel
theorem dL_pass_9 : decode cL_pass 9 = .ok (.goto 6, 3) := by decide +kernel
theorem dL_pass_12 : decode cL_pass 12 = .ok (.astore_n 3, 1) := by decide +kernel
theorem dL_pass_13 : decode cL_pass 13 = .ok (.iconst 1, 1) := by decide +kernel
theorem dL_pass_14 : decode cL_pass 14 = .ok (.ireturn, 1) := by decide +kernel
theorem dL_pass_15 : decode cL_pass 15 = .ok (.iconst 0, 1) := by decide +kernel
theorem dL_pass_16 : decode cL_pass 16 = .ok (.ireturn, 1) := by decide +kernel
set_option maxRecDepth 20000 in
theorem ggL_ripe_X5_ripe : GoodIn wsL_ripe wsX5_ripe := goodIn_ca (goodIn_ca (goodIn_r _ [7, 8, 9, 10, 11, 12, 13, 14, 15, 6, 16, 17, 18, 19, 20, 21, 22, 23, 24, 25, 26, 27, 28, 29, 30, 31, 32, 33, 34, 35, 36, 37, 38, 39, 40, 41, 42, 43, 44, 45, 46, 47, 48, 49, 50, 51, 52, 53, 54, 55, 56, 57, 58, 59, 60, 61, 62, 63, 64, 65, 66, 67, 68, 69, 70, 71, 72, 73, 74, 75, 76, 77, 78, 79, 80, 81, 82, 83, 84, 85, 86, 87, 88, 89, 90, 91, 92, 93, 94, 95, 96, 97, 98, 99, 100, 101, 102, 103, 104, 105, 106, 107, 108, 109, 110, 111, 112, 113, 114, 115, 116, 117, 118, 119, 120, 121, 122, 123, 124, 125, 126, 127, 128, 129, 130, 131, 132, 133, 134, 135, 136, 137, 138, 139, 140, 141, 142, 143, 144, 145, 146, 147, 148, 149, 150, 151, 152, 153, 154, 155, 156, 157, 158, 159, 160, 161, 162, 163, 164, 165, 166, 167, 168, 169, 170, 171, 172, 173, 174, 175, 176, 177, 178, 179, 180, 181, 182, 183, 184, 185, 186, 187, 188, 189, 190, 191, 192, 193, 194, 195, 196, 197, 198, 199, 200, 201, 202, 203, 204, 205, 206, 207, 208, 209, 210, 211, 212, 213, 214, 215, 216, 217, 218, 219, 220, 221, 222, 223, 224, 225, 226, 227, 228, 229, 230, 231, 232, 233, 234, 235, 236, 237, 238, 239, 240, 241, 242, 243, 244, 245, 246, 247] (by decide +kernel) (by decide +kernel)) (goodIn_sub (fun _ h => List.mem_cons_of_mem _ (List.mem_append_left _ (List.mem_append_right _ h))) (by decide +kernel))) (goodIn_sub (fun _ h => List.mem_cons_of_mem _ (List.mem_append_right _ h)) (by decide +kernel))
set_option maxRecDepth 20000 in
theorem gL_ripe_X5_ripe : GoodIn wsL_ripe (wsV RL 66 RX5 yX5_ripe wsX5_ripe) := goodIn_app (goodIn_of _ (by decide +kernel)) ggL_ripe_X5_ripe
theorem dL_ripe_0 : decode cL_ripe 0 = .ok (.aload_n 3, 1) := by decide +kernel
theorem dL_ripe_1 : decode cL_ripe 1 = .ok (.iconst 0, 1) := by decide +kernel
theorem dL_ripe_2 : decode cL_ripe 2 = .ok (.aload_n 0, 1) := by decide +kernel
theorem dL_ripe_3 : decode cL_ripe 3 = .ok (.iload_n 1, 1) := by decide +kernel
theorem dL_ripe_4 : decode cL_ripe 4 = .ok (.iload_n 2, 1) := by decide +kernel
theorem dL_ripe_5 : decode cL_ripe 5 = .ok (.invokevirtual 66, 3) := by decide +kernel
theorem dL_ripe_8 : decode cL_ripe 8 = .ok (.i2l, 1) := by decide +kernel
theorem dL_ripe_9 : decode cL_ripe 9 = .ok (.lastore, 1) := by decide +kernel
theorem dL_ripe_10 : decode cL_ripe 10 = .ok (.goto 11, 3) := by decide +kernel
theorem dL_ripe_13 : decode cL_ripe 13 = .ok (.astore 4, 2) := by decide +kernel
theorem dL_ripe_15 : decode cL_ripe 15 = .ok (.iconst 1, 1) := by decide +kernel
theorem dL_ripe_16 : decode cL_ripe 16 = .ok (.ireturn, 1) := by decide +kernel
theorem dL_ripe_17 : decode cL_ripe 17 = .ok (.astore 4, 2) := by decide +kernel
theorem dL_ripe_19 : decode cL_ripe 19 = .ok (.iconst 2, 1) := by decide +kernel
theorem dL_ripe_20 : decode cL_ripe 20 = .ok (.ireturn, 1) := by decide +kernel
theorem dL_ripe_21 : decode cL_ripe 21 = .ok (.iconst 0, 1) := by decide +kernel
theorem dL_ripe_22 : decode cL_ripe 22 = .ok (.ireturn, 1) := by decide +kernel
set_option maxRecDepth 20000 in
theorem ggL_foresee_X5_foresee : GoodIn wsL_foresee wsX5_foresee := goodIn_ca (goodIn_ca (goodIn_r _ [7, 8, 9, 10, 11, 12, 13, 14, 15, 6, 16, 17, 18, 19, 20, 21, 22, 23, 24, 25, 26, 27, 28, 29, 30, 31, 32, 33, 34, 35, 36, 37, 38, 39, 40, 41, 42, 43, 44, 45, 46, 47, 48, 49, 50, 51, 52, 53, 54, 55, 56, 57, 58, 59, 60, 61, 62, 63, 64, 65, 66, 67, 68, 69, 70, 71, 72, 73, 74, 75, 76, 77, 78, 79, 80, 81, 82, 83, 84, 85, 86, 87, 88, 89, 90, 91, 92, 93, 94, 95, 96, 97, 98, 99, 100, 101, 102, 103, 104, 105, 106, 107, 108, 109, 110, 111, 112, 113, 114, 115, 116, 117, 118, 119, 120, 121, 122, 123, 124, 125, 126, 127, 128, 129, 130, 131, 132, 133, 134, 135, 136, 137, 138, 139, 140, 141, 142, 143, 144, 145, 146, 147, 148, 149, 150, 151, 152, 153, 154, 155, 156, 157, 158, 159, 160, 161, 162, 163, 164, 165, 166, 167, 168, 169, 170, 171, 172, 173, 174, 175, 176, 177, 178, 179, 180, 181, 182, 183, 184, 185, 186, 187, 188, 189, 190, 191, 192, 193, 194, 195, 196, 197, 198, 199, 200, 201, 202, 203, 204, 205, 206, 207, 208, 209, 210, 211, 212, 213, 214, 215, 216, 217, 218, 219, 220, 221, 222, 223, 224, 225, 226, 227, 228, 229, 230, 231, 232, 233, 234, 235, 236, 237, 238, 239, 240, 241, 242, 243, 244, 245, 246, 247, 248, 249, 250, 251, 252, 253, 254, 255, 256, 257, 258, 259, 260, 261, 262, 263, 264, 265, 266] (by decide +kernel) (by decide +kernel)) (goodIn_sub (fun _ h => List.mem_cons_of_mem _ (List.mem_append_left _ (List.mem_append_right _ h))) (by decide +kernel))) (goodIn_sub (fun _ h => List.mem_cons_of_mem _ (List.mem_append_right _ h)) (by decide +kernel))
set_option maxRecDepth 20000 in
theorem gL_foresee_X5_foresee : GoodIn wsL_foresee (wsV RL 69 RX5 yX5_foresee wsX5_foresee) := goodIn_app (goodIn_of _ (by decide +kernel)) ggL_foresee_X5_foresee
theorem dL_foresee_0 : decode cL_foresee 0 = .ok (.aload_n 3, 1) := by decide +kernel
theorem dL_foresee_1 : decode cL_foresee 1 = .ok (.iconst 0, 1) := by decide +kernel
theorem dL_foresee_2 : decode cL_foresee 2 = .ok (.aload_n 0, 1) := by decide +kernel
theorem dL_foresee_3 : decode cL_foresee 3 = .ok (.iload_n 1, 1) := by decide +kernel
theorem dL_foresee_4 : decode cL_foresee 4 = .ok (.iload_n 2, 1) := by decide +kernel
theorem dL_foresee_5 : decode cL_foresee 5 = .ok (.invokevirtual 69, 3) := by decide +kernel
theorem dL_foresee_8 : decode cL_foresee 8 = .ok (.i2l, 1) := by decide +kernel
theorem dL_foresee_9 : decode cL_foresee 9 = .ok (.lastore, 1) := by decide +kernel
theorem dL_foresee_10 : decode cL_foresee 10 = .ok (.goto 11, 3) := by decide +kernel
theorem dL_foresee_13 : decode cL_foresee 13 = .ok (.astore 4, 2) := by decide +kernel
theorem dL_foresee_15 : decode cL_foresee 15 = .ok (.iconst 1, 1) := by decide +kernel
theorem dL_foresee_16 : decode cL_foresee 16 = .ok (.ireturn, 1) := by decide +kernel
theorem dL_foresee_17 : decode cL_foresee 17 = .ok (.astore 4, 2) := by decide +kernel
theorem dL_foresee_19 : decode cL_foresee 19 = .ok (.iconst 2, 1) := by decide +kernel
theorem dL_foresee_20 : decode cL_foresee 20 = .ok (.ireturn, 1) := by decide +kernel
theorem dL_foresee_21 : decode cL_foresee 21 = .ok (.iconst 0, 1) := by decide +kernel
theorem dL_foresee_22 : decode cL_foresee 22 = .ok (.ireturn, 1) := by decide +kernel
set_option maxRecDepth 20000 in
theorem ggL_advise_X5_advise : GoodIn wsL_advise wsX5_advise := goodIn_ca (goodIn_r _ [6, 7, 8, 9, 10, 11, 12, 13, 14, 15, 16, 17, 18, 19, 20, 21, 22, 23, 24, 5, 25, 26, 27, 28, 29, 30, 31, 32, 33, 34, 35, 36, 37, 38, 39, 40, 41, 42, 43, 44, 45, 46, 47, 48, 49, 50, 51, 52, 53, 54, 55, 56, 57, 58, 59, 60, 61, 62, 63, 64, 65, 66, 67, 68, 69, 70, 71, 72, 73, 74, 75, 76, 77, 78, 79, 80, 81, 82, 83, 84, 85, 86, 87, 88, 89, 90, 91, 92, 93, 94, 95, 96, 97, 98, 99, 100, 101, 102, 103, 104, 105, 106, 107, 108, 109, 110, 111, 112, 113, 114, 115, 116, 117, 118, 119, 120, 121, 122, 123, 124, 125, 126, 127, 128, 129, 130, 131, 132, 133, 134, 135, 136, 137, 138, 139, 140, 141, 142, 143, 144, 145, 146, 147, 148, 149, 150, 151, 152, 153, 154, 155, 156, 157, 158, 159, 160, 161, 162, 163, 164, 165, 166, 167, 168, 169, 170, 171, 172, 173, 174, 175, 176, 177, 178, 179, 180, 181, 182, 183, 184, 185, 186, 187, 188, 189, 190, 191, 192, 193, 194, 195, 196, 197, 198, 199, 200, 201, 202, 203, 204, 205, 206, 207, 208, 209, 210, 211, 212, 213, 214, 215, 216, 217, 218, 219, 220, 221, 222, 223, 224, 225, 226, 227, 228, 229, 230, 231, 232, 233, 234, 235, 236, 237, 238, 239, 240, 241, 242, 243, 244, 245, 246, 247, 248, 249, 250] (by decide +kernel) (by decide +kernel)) (goodIn_sub (fun _ h => List.mem_cons_of_mem _ (List.mem_append_right _ h)) (by decide +kernel))
set_option maxRecDepth 20000 in
theorem gL_advise_X5_advise : GoodIn wsL_advise (wsV RL 72 RX5 yX5_advise wsX5_advise) := goodIn_app (goodIn_of _ (by decide +kernel)) ggL_advise_X5_advise
theorem dL_advise_0 : decode cL_advise 0 = .ok (.aload_n 2, 1) := by decide +kernel
theorem dL_advise_1 : decode cL_advise 1 = .ok (.iconst 0, 1) := by decide +kernel
theorem dL_advise_2 : decode cL_advise 2 = .ok (.aload_n 0, 1) := by decide +kernel
theorem dL_advise_3 : decode cL_advise 3 = .ok (.iload_n 1, 1) := by decide +kernel
theorem dL_advise_4 : decode cL_advise 4 = .ok (.invokevirtual 72, 3) := by decide +kernel
theorem dL_advise_7 : decode cL_advise 7 = .ok (.i2l, 1) := by decide +kernel
theorem dL_advise_8 : decode cL_advise 8 = .ok (.lastore, 1) := by decide +kernel
theorem dL_advise_9 : decode cL_advise 9 = .ok (.goto 6, 3) := by decide +kernel
theorem dL_advise_12 : decode cL_advise 12 = .ok (.astore_n 3, 1) := by decide +kernel
theorem dL_advise_13 : decode cL_advise 13 = .ok (.iconst 1, 1) := by decide +kernel
theorem dL_advise_14 : decode cL_advise 14 = .ok (.ireturn, 1) := by decide +kernel
theorem dL_advise_15 : decode cL_advise 15 = .ok (.iconst 0, 1) := by decide +kernel
theorem dL_advise_16 : decode cL_advise 16 = .ok (.ireturn, 1) := by decide +kernel
set_option maxRecDepth 20000 in
theorem ggL_law_X5_init : GoodIn wsL_law wsX5_init := goodIn_r _ [9, 10, 11, 12, 13, 14, 15, 16, 17, 18, 19, 20, 21, 22, 23, 24, 25, 26, 27, 28, 29, 30, 31, 32, 33, 34, 35, 36, 37, 38, 39, 40, 41, 42, 43, 44, 45, 46, 47, 48, 49, 50, 51, 52, 53, 54, 55, 56, 57, 58, 59, 60, 61, 62, 63, 64, 65, 66, 67, 68, 69, 70, 71, 72, 73, 74, 75, 76, 77, 78, 79, 80, 746, 747, 748, 749, 750, 751, 752, 753, 754, 755, 756, 757, 734, 735, 758, 759, 760, 761, 762, 763, 764, 765, 766, 767, 768, 769, 770, 771, 772, 773] (by decide +kernel) (by decide +kernel)
set_option maxRecDepth 20000 in
theorem gL_law_X5_init : GoodIn wsL_law (wsX5_init) := ggL_law_X5_init
set_option maxRecDepth 20000 in
theorem ggL_law_X6_init : GoodIn wsL_law wsX6_init := goodIn_r _ [83, 84, 11, 12, 27, 85, 86, 87, 88, 89, 90, 91, 736, 737, 738, 739, 740, 741, 742, 743, 744, 745] (by decide +kernel) (by decide +kernel)
set_option maxRecDepth 20000 in
theorem gL_law_X6_init : GoodIn wsL_law (wsX6_init) := ggL_law_X6_init
set_option maxRecDepth 20000 in
theorem ggL_law_L_buy : GoodIn wsL_law wsL_buy := goodIn_ca (goodIn_ca (goodIn_ca (goodIn_r _ [95, 96, 97, 98, 99, 100, 101, 2, 102, 103, 104, 105, 106, 107, 108, 109, 16, 110, 111, 112, 113, 114, 115, 116, 117, 118, 15, 119, 24, 28, 734, 735, 746, 747, 748, 749, 750, 751, 752, 753, 754, 755, 756, 757] (by decide +kernel) (by decide +kernel)) (goodIn_sub (fun _ h => List.mem_append_left _ (List.mem_append_left _ (List.mem_append_right _ h))) (by decide +kernel))) (goodIn_sub (fun _ h => List.mem_append_left _ (List.mem_append_right _ h)) (by decide +kernel))) (goodIn_sub (fun _ h => List.mem_append_right _ h) (by decide +kernel))
set_option maxRecDepth 20000 in
theorem gL_law_L_buy : GoodIn wsL_law (va_wsS RL 79 yL_buy wsL_buy) := goodIn_app (goodIn_of _ (by decide +kernel)) ggL_law_L_buy
set_option maxRecDepth 20000 in
theorem ggL_law_X6_buy : GoodIn wsL_law wsX6_buy := goodIn_r _ [123, 124, 91, 125, 126, 5, 127, 128, 129, 130, 131, 736, 737, 738, 739, 740, 741, 742, 743, 744, 745] (by decide +kernel) (by decide +kernel)
set_option maxRecDepth 20000 in
theorem gL_law_X6_buy : GoodIn wsL_law (wsV RL 84 RX6 yX6_buy wsX6_buy) := goodIn_app (goodIn_of _ (by decide +kernel)) ggL_law_X6_buy
set_option maxRecDepth 20000 in
theorem ggL_law_X6_thrown : GoodIn wsL_law wsX6_thrown := goodIn_r _ [135, 124, 736, 737, 738, 739, 740, 741, 742, 743, 744, 745] (by decide +kernel) (by decide +kernel)
set_option maxRecDepth 20000 in
theorem gL_law_X6_thrown : GoodIn wsL_law (wsV RL 85 RX6 yX6_thrown wsX6_thrown) := goodIn_app (goodIn_of _ (by decide +kernel)) ggL_law_X6_thrown
set_option maxRecDepth 20000 in
theorem ggL_law_L_sell : GoodIn wsL_law wsL_sell := goodIn_ca (goodIn_ca (goodIn_ca (goodIn_r _ [138, 96, 97, 98, 139, 140, 141, 2, 142, 103, 104, 105, 106, 107, 108, 16, 110, 111, 112, 113, 114, 115, 143, 144, 145, 15, 146, 46, 147, 148, 149, 150, 151, 152, 153, 154, 734, 735, 746, 747, 748, 749, 750, 751, 752, 753, 754, 755, 756, 757] (by decide +kernel) (by decide +kernel)) (goodIn_sub (fun _ h => List.mem_append_left _ (List.mem_append_left _ (List.mem_append_right _ h))) (by decide +kernel))) (goodIn_sub (fun _ h => List.mem_append_left _ (List.mem_append_right _ h)) (by decide +kernel))) (goodIn_sub (fun _ h => List.mem_append_right _ h) (by decide +kernel))
set_option maxRecDepth 20000 in
theorem gL_law_L_sell : GoodIn wsL_law (va_wsS RL 89 yL_sell wsL_sell) := goodIn_app (goodIn_of _ (by decide +kernel)) ggL_law_L_sell
set_option maxRecDepth 20000 in
theorem ggL_law_X6_sell : GoodIn wsL_law wsX6_sell := goodIn_r _ [158, 124, 90, 91, 125, 126, 5, 127, 128, 129, 130, 131, 159, 160, 161, 736, 737, 738, 739, 740, 741, 742, 743, 744, 745] (by decide +kernel) (by decide +kernel)
set_option maxRecDepth 20000 in
theorem gL_law_X6_sell : GoodIn wsL_law (wsV RL 92 RX6 yX6_sell wsX6_sell) := goodIn_app (goodIn_of _ (by decide +kernel)) ggL_law_X6_sell
set_option maxRecDepth 20000 in
theorem ggL_law_L_fill : GoodIn wsL_law wsL_fill := goodIn_ca (goodIn_ca (goodIn_ca (goodIn_r _ [164, 96, 97, 98, 165, 166, 167, 2, 168, 103, 104, 105, 106, 107, 108, 16, 110, 111, 112, 113, 114, 115, 169, 170, 171, 32, 172, 51, 173, 174, 175, 176, 52, 53, 734, 735, 746, 747, 748, 749, 750, 751, 752, 753, 754, 755, 756, 757, 758, 759, 760] (by decide +kernel) (by decide +kernel)) (goodIn_sub (fun _ h => List.mem_append_left _ (List.mem_append_left _ (List.mem_append_right _ h))) (by decide +kernel))) (goodIn_sub (fun _ h => List.mem_append_left _ (List.mem_append_right _ h)) (by decide +kernel))) (goodIn_sub (fun _ h => List.mem_append_right _ h) (by decide +kernel))
set_option maxRecDepth 20000 in
theorem gL_law_L_fill : GoodIn wsL_law (va_wsS RL 93 yL_fill wsL_fill) := goodIn_app (goodIn_of _ (by decide +kernel)) ggL_law_L_fill
set_option maxRecDepth 20000 in
theorem ggL_law_X6_fill : GoodIn wsL_law wsX6_fill := goodIn_r _ [180, 124, 91, 181, 182, 5, 183, 125, 126, 127, 128, 129, 130, 131, 184, 185, 186, 187, 86, 188, 189, 190, 191, 736, 737, 738, 739, 740, 741, 742, 743, 744, 745] (by decide +kernel) (by decide +kernel)
set_option maxRecDepth 20000 in
theorem gL_law_X6_fill : GoodIn wsL_law (wsV RL 95 RX6 yX6_fill wsX6_fill) := goodIn_app (goodIn_of _ (by decide +kernel)) ggL_law_X6_fill
set_option maxRecDepth 20000 in
theorem ggL_law_L_drain : GoodIn wsL_law wsL_drain := goodIn_ca (goodIn_ca (goodIn_r _ [194, 96, 98, 195, 196, 197, 2, 198, 103, 104, 107, 108, 16, 110, 111, 112, 169, 170, 171, 32, 172, 51, 199, 200, 201, 202, 203, 174, 175, 176, 52, 53, 734, 735, 746, 747, 748, 749, 750, 751, 752, 753, 754, 755, 756, 757, 758, 759, 760] (by decide +kernel) (by decide +kernel)) (goodIn_sub (fun _ h => List.mem_append_left _ (List.mem_append_left _ (List.mem_append_right _ h))) (by decide +kernel))) (goodIn_sub (fun _ h => List.mem_append_right _ h) (by decide +kernel))
set_option maxRecDepth 20000 in
theorem gL_law_L_drain : GoodIn wsL_law (va_wsS RL 96 yL_drain wsL_drain) := goodIn_app (goodIn_of _ (by decide +kernel)) ggL_law_L_drain
set_option maxRecDepth 20000 in
theorem ggL_law_X6_drain : GoodIn wsL_law wsX6_drain := goodIn_r _ [207, 124, 181, 182, 5, 183, 125, 126, 127, 128, 129, 130, 131, 184, 185, 186, 187, 86, 188, 189, 190, 191, 736, 737, 738, 739, 740, 741, 742, 743, 744, 745] (by decide +kernel) (by decide +kernel)
set_option maxRecDepth 20000 in
theorem gL_law_X6_drain : GoodIn wsL_law (wsV RL 99 RX6 yX6_drain wsX6_drain) := goodIn_app (goodIn_of _ (by decide +kernel)) ggL_law_X6_drain
set_option maxRecDepth 20000 in
theorem ggL_law_L_pair : GoodIn wsL_law wsL_pair := goodIn_ca (goodIn_ca (goodIn_ca (goodIn_r _ [210, 96, 97, 98, 211, 212, 213, 2, 214, 103, 104, 105, 106, 107, 108, 16, 110, 111, 112, 113, 114, 115, 215, 216, 217, 36, 218, 61, 62, 63, 64, 734, 735, 746, 747, 748, 749, 750, 751, 752, 753, 754, 755, 756, 757, 761, 762, 763, 764] (by decide +kernel) (by decide +kernel)) (goodIn_sub (fun _ h => List.mem_append_left _ (List.mem_append_left _ (List.mem_append_right _ h))) (by decide +kernel))) (goodIn_sub (fun _ h => List.mem_append_left _ (List.mem_append_right _ h)) (by decide +kernel))) (goodIn_sub (fun _ h => List.mem_append_right _ h) (by decide +kernel))
set_option maxRecDepth 20000 in
theorem gL_law_L_pair : GoodIn wsL_law (va_wsS RL 100 yL_pair wsL_pair) := goodIn_app (goodIn_of _ (by decide +kernel)) ggL_law_L_pair
set_option maxRecDepth 20000 in
theorem ggL_law_X6_pair : GoodIn wsL_law wsX6_pair := goodIn_r _ [222, 124, 223, 87, 125, 126, 5, 127, 128, 129, 130, 131, 736, 737, 738, 739, 740, 741, 742, 743, 744, 745] (by decide +kernel) (by decide +kernel)
set_option maxRecDepth 20000 in
theorem gL_law_X6_pair : GoodIn wsL_law (wsV RL 102 RX6 yX6_pair wsX6_pair) := goodIn_app (goodIn_of _ (by decide +kernel)) ggL_law_X6_pair
set_option maxRecDepth 20000 in
theorem ggL_law_L_wire : GoodIn wsL_law wsL_wire := goodIn_ca (goodIn_ca (goodIn_r _ [226, 96, 98, 227, 228, 229, 2, 230, 103, 104, 107, 108, 16, 231, 232, 233, 36, 234, 61, 235, 236, 237, 238, 64, 239, 240, 241, 242, 243, 734, 735, 746, 747, 748, 749, 750, 751, 752, 753, 754, 755, 756, 757, 761, 762, 763, 764] (by decide +kernel) (by decide +kernel)) (goodIn_sub (fun _ h => List.mem_append_left _ (List.mem_append_left _ (List.mem_append_right _ h))) (by decide +kernel))) (goodIn_sub (fun _ h => List.mem_append_right _ h) (by decide +kernel))
set_option maxRecDepth 20000 in
theorem gL_law_L_wire : GoodIn wsL_law (va_wsS RL 103 yL_wire wsL_wire) := goodIn_app (goodIn_of _ (by decide +kernel)) ggL_law_L_wire
set_option maxRecDepth 20000 in
theorem ggL_law_X6_wire : GoodIn wsL_law wsX6_wire := goodIn_r _ [247, 124, 91, 87, 248, 249, 250, 5, 251, 223, 125, 126, 127, 128, 129, 130, 131, 252, 253, 254, 255, 736, 737, 738, 739, 740, 741, 742, 743, 744, 745] (by decide +kernel) (by decide +kernel)
set_option maxRecDepth 20000 in
theorem gL_law_X6_wire : GoodIn wsL_law (wsV RL 105 RX6 yX6_wire wsX6_wire) := goodIn_app (goodIn_of _ (by decide +kernel)) ggL_law_X6_wire
set_option maxRecDepth 20000 in
theorem ggL_law_L_team : GoodIn wsL_law wsL_team := goodIn_ca (goodIn_ca (goodIn_r _ [258, 97, 98, 259, 260, 261, 2, 262, 105, 106, 107, 108, 16, 113, 114, 115, 263, 264, 265, 40, 266, 68, 69, 70, 71, 734, 735, 746, 747, 748, 749, 750, 751, 752, 753, 754, 755, 756, 757, 765, 766, 767, 768] (by decide +kernel) (by decide +kernel)) (goodIn_sub (fun _ h => List.mem_append_left _ (List.mem_append_right _ h)) (by decide +kernel))) (goodIn_sub (fun _ h => List.mem_append_right _ h) (by decide +kernel))
set_option maxRecDepth 20000 in
theorem gL_law_L_team : GoodIn wsL_law (va_wsS RL 106 yL_team wsL_team) := goodIn_app (goodIn_of _ (by decide +kernel)) ggL_law_L_team
set_option maxRecDepth 20000 in
theorem ggL_law_X6_team : GoodIn wsL_law wsX6_team := goodIn_r _ [270, 124, 271, 88, 125, 126, 5, 127, 128, 129, 130, 131, 736, 737, 738, 739, 740, 741, 742, 743, 744, 745] (by decide +kernel) (by decide +kernel)
set_option maxRecDepth 20000 in
theorem gL_law_X6_team : GoodIn wsL_law (wsV RL 108 RX6 yX6_team wsX6_team) := goodIn_app (goodIn_of _ (by decide +kernel)) ggL_law_X6_team
set_option maxRecDepth 20000 in
theorem ggL_law_L_place : GoodIn wsL_law wsL_place := goodIn_ca (goodIn_ca (goodIn_r _ [274, 96, 98, 275, 276, 277, 2, 278, 103, 104, 107, 108, 16, 279, 280, 281, 40, 282, 68, 110, 111, 112, 231, 232, 233, 36, 234, 61, 283, 284, 285, 286, 287, 288, 289, 290, 71, 291, 292, 293, 294, 295, 70, 296, 297, 298, 15, 299, 41, 33, 37, 300, 301, 302, 303, 304, 305, 306, 307, 308, 309, 310, 311, 32, 312, 52, 313, 314, 315, 316, 63, 239, 317, 318, 319, 320, 69, 321, 322, 323, 324, 24, 45, 325, 170, 171, 172, 51, 734, 735, 746, 747, 748, 749, 750, 751, 752, 753, 754, 755, 756, 757, 765, 766, 767, 768, 761, 762, 763, 764, 758, 759, 760, 769, 770, 771, 772, 773] (by decide +kernel) (by decide +kernel)) (goodIn_sub (fun _ h => List.mem_append_left _ (List.mem_append_left _ (List.mem_append_right _ h))) (by decide +kernel))) (goodIn_sub (fun _ h => List.mem_append_right _ h) (by decide +kernel))
set_option maxRecDepth 20000 in
theorem gL_law_L_place : GoodIn wsL_law (va_wsS RL 109 yL_place wsL_place) := goodIn_app (goodIn_of _ (by decide +kernel)) ggL_law_L_place
set_option maxRecDepth 20000 in
theorem ggL_law_X6_place : GoodIn wsL_law wsX6_place := goodIn_r _ [329, 124, 88, 330, 331, 332, 5, 333, 271, 125, 126, 127, 181, 182, 183, 248, 249, 250, 251, 223, 128, 129, 130, 131, 334, 335, 336, 337, 338, 339, 340, 341, 342, 343, 344, 345, 346, 301, 302, 303, 184, 185, 186, 187, 86, 347, 348, 349, 350, 91, 351, 352, 353, 354, 355, 356, 357, 358, 89, 252, 253, 254, 255, 87, 736, 737, 738, 739, 740, 741, 742, 743, 744, 745] (by decide +kernel) (by decide +kernel)
set_option maxRecDepth 20000 in
theorem gL_law_X6_place : GoodIn wsL_law (wsV RL 111 RX6 yX6_place wsX6_place) := goodIn_app (goodIn_of _ (by decide +kernel)) ggL_law_X6_place
set_option maxRecDepth 20000 in
theorem ggL_law_L_setWater : GoodIn wsL_law wsL_setWater := goodIn_ca (goodIn_ca (goodIn_r _ [361, 96, 97, 362, 363, 364, 2, 365, 103, 104, 105, 106, 16, 110, 111, 112, 734, 735, 746, 747, 748, 749, 750, 751, 752, 753, 754, 755, 756, 757] (by decide +kernel) (by decide +kernel)) (goodIn_sub (fun _ h => List.mem_append_left _ (List.mem_append_left _ (List.mem_append_right _ h))) (by decide +kernel))) (goodIn_sub (fun _ h => List.mem_append_left _ (List.mem_append_right _ h)) (by decide +kernel))
set_option maxRecDepth 20000 in
theorem gL_law_L_setWater : GoodIn wsL_law (va_wsS RL 112 yL_setWater wsL_setWater) := goodIn_app (goodIn_of _ (by decide +kernel)) ggL_law_L_setWater
set_option maxRecDepth 20000 in
theorem ggL_law_X6_setWater : GoodIn wsL_law wsX6_setWater := goodIn_r _ [369, 124, 85, 125, 126, 5, 127, 128, 129, 130, 131, 736, 737, 738, 739, 740, 741, 742, 743, 744, 745] (by decide +kernel) (by decide +kernel)
set_option maxRecDepth 20000 in
theorem gL_law_X6_setWater : GoodIn wsL_law (wsV RL 114 RX6 yX6_setWater wsX6_setWater) := goodIn_app (goodIn_of _ (by decide +kernel)) ggL_law_X6_setWater
set_option maxRecDepth 20000 in
theorem ggL_law_L_about : GoodIn wsL_law wsL_about := goodIn_ca (goodIn_r _ [372, 96, 373, 374, 375, 2, 376, 103, 104, 16, 110, 111, 112, 377, 378, 379, 32, 380, 381, 170, 171, 172, 51, 382, 310, 311, 312, 52, 383, 384, 385, 386, 53, 734, 735, 746, 747, 748, 749, 750, 751, 752, 753, 754, 755, 756, 757, 758, 759, 760] (by decide +kernel) (by decide +kernel)) (goodIn_sub (fun _ h => List.mem_append_left _ (List.mem_append_left _ (List.mem_append_right _ h))) (by decide +kernel))
set_option maxRecDepth 20000 in
theorem gL_law_L_about : GoodIn wsL_law (va_wsS RL 115 yL_about wsL_about) := goodIn_app (goodIn_of _ (by decide +kernel)) ggL_law_L_about
set_option maxRecDepth 20000 in
theorem ggL_law_X6_about : GoodIn wsL_law wsX6_about := goodIn_r _ [390, 124, 181, 182, 5, 183, 125, 126, 127, 184, 185, 186, 187, 86, 128, 129, 130, 131, 736, 737, 738, 739, 740, 741, 742, 743, 744, 745] (by decide +kernel) (by decide +kernel)
set_option maxRecDepth 20000 in
theorem gL_law_X6_about : GoodIn wsL_law (wsV RL 117 RX6 yX6_about wsX6_about) := goodIn_app (goodIn_of _ (by decide +kernel)) ggL_law_X6_about
set_option maxRecDepth 20000 in
theorem ggL_law_L_mould : GoodIn wsL_law wsL_mould := goodIn_ca (goodIn_r _ [393, 96, 394, 395, 396, 2, 397, 103, 104, 16, 231, 232, 233, 36, 234, 61, 110, 111, 112, 398, 399, 400, 15, 401, 37, 41, 402, 403, 404, 405, 62, 239, 313, 314, 315, 316, 63, 406, 236, 237, 238, 64, 407, 284, 285, 40, 286, 68, 287, 288, 289, 290, 71, 291, 280, 281, 282, 734, 735, 746, 747, 748, 749, 750, 751, 752, 753, 754, 755, 756, 757, 761, 762, 763, 764, 765, 766, 767, 768] (by decide +kernel) (by decide +kernel)) (goodIn_sub (fun _ h => List.mem_append_left _ (List.mem_append_left _ (List.mem_append_right _ h))) (by decide +kernel))
set_option maxRecDepth 20000 in
theorem gL_law_L_mould : GoodIn wsL_law (va_wsS RL 118 yL_mould wsL_mould) := goodIn_app (goodIn_of _ (by decide +kernel)) ggL_law_L_mould
set_option maxRecDepth 20000 in
theorem ggL_law_X6_mould : GoodIn wsL_law wsX6_mould := goodIn_r _ [411, 124, 248, 249, 250, 5, 251, 223, 125, 126, 127, 412, 413, 414, 415, 252, 253, 254, 255, 87, 334, 335, 336, 337, 271, 338, 339, 340, 341, 88, 128, 129, 130, 131, 736, 737, 738, 739, 740, 741, 742, 743, 744, 745] (by decide +kernel) (by decide +kernel)
set_option maxRecDepth 20000 in
theorem gL_law_X6_mould : GoodIn wsL_law (wsV RL 120 RX6 yX6_mould wsX6_mould) := goodIn_app (goodIn_of _ (by decide +kernel)) ggL_law_X6_mould
set_option maxRecDepth 20000 in
theorem ggL_law_L_told : GoodIn wsL_law wsL_told := goodIn_ca (goodIn_r _ [418, 96, 419, 420, 421, 2, 422, 103, 104, 16, 279, 280, 281, 40, 282, 68, 110, 111, 112, 423, 424, 425, 15, 426, 41, 317, 318, 319, 320, 69, 291, 304, 305, 306, 307, 70, 308, 288, 289, 290, 71, 427, 297, 298, 299, 33, 37, 300, 301, 302, 303, 309, 310, 311, 32, 312, 52, 313, 314, 315, 36, 316, 63, 239, 232, 233, 234, 61, 321, 322, 323, 324, 24, 45, 325, 170, 171, 172, 51, 734, 735, 746, 747, 748, 749, 750, 751, 752, 753, 754, 755, 756, 757, 765, 766, 767, 768, 758, 759, 760, 761, 762, 763, 764, 769, 770, 771, 772, 773] (by decide +kernel) (by decide +kernel)) (goodIn_sub (fun _ h => List.mem_append_left _ (List.mem_append_left _ (List.mem_append_right _ h))) (by decide +kernel))
set_option maxRecDepth 20000 in
theorem gL_law_L_told : GoodIn wsL_law (va_wsS RL 121 yL_told wsL_told) := goodIn_app (goodIn_of _ (by decide +kernel)) ggL_law_L_told
set_option maxRecDepth 20000 in
theorem ggL_law_X6_told : GoodIn wsL_law wsX6_told := goodIn_r _ [431, 124, 330, 331, 332, 5, 333, 271, 125, 126, 127, 432, 433, 434, 435, 338, 339, 340, 341, 88, 342, 343, 344, 345, 346, 301, 302, 303, 184, 185, 186, 187, 86, 347, 348, 349, 350, 91, 351, 352, 353, 354, 355, 356, 357, 358, 89, 252, 253, 254, 255, 87, 128, 129, 130, 131, 736, 737, 738, 739, 740, 741, 742, 743, 744, 745] (by decide +kernel) (by decide +kernel)
set_option maxRecDepth 20000 in
theorem gL_law_X6_told : GoodIn wsL_law (wsV RL 123 RX6 yX6_told wsX6_told) := goodIn_app (goodIn_of _ (by decide +kernel)) ggL_law_X6_told
set_option maxRecDepth 20000 in
theorem ggL_law_L_post : GoodIn wsL_law wsL_post := goodIn_ca (goodIn_r _ [438, 96, 439, 440, 441, 2, 442, 103, 104, 16, 443, 444, 445, 44, 446, 75, 110, 111, 112, 447, 448, 449, 450, 451, 452, 453, 454, 77, 455, 456, 457, 458, 459, 78, 460, 461, 462, 463, 79, 734, 735, 746, 747, 748, 749, 750, 751, 752, 753, 754, 755, 756, 757, 769, 770, 771, 772, 773] (by decide +kernel) (by decide +kernel)) (goodIn_sub (fun _ h => List.mem_append_left _ (List.mem_append_left _ (List.mem_append_right _ h))) (by decide +kernel))
set_option maxRecDepth 20000 in
theorem gL_law_L_post : GoodIn wsL_law (va_wsS RL 124 yL_post wsL_post) := goodIn_app (goodIn_of _ (by decide +kernel)) ggL_law_L_post
set_option maxRecDepth 20000 in
theorem ggL_law_X6_post : GoodIn wsL_law wsX6_post := goodIn_r _ [467, 124, 91, 125, 126, 5, 127, 355, 356, 357, 358, 89, 128, 129, 130, 131, 736, 737, 738, 739, 740, 741, 742, 743, 744, 745] (by decide +kernel) (by decide +kernel)
set_option maxRecDepth 20000 in
theorem gL_law_X6_post : GoodIn wsL_law (wsV RL 126 RX6 yX6_post wsX6_post) := goodIn_app (goodIn_of _ (by decide +kernel)) ggL_law_X6_post
set_option maxRecDepth 20000 in
theorem ggL_law_L_loft : GoodIn wsL_law wsL_loft := goodIn_ca (goodIn_r _ [470, 96, 471, 472, 473, 2, 474, 103, 104, 16, 110, 111, 112, 143, 144, 145, 15, 146, 46, 734, 735, 746, 747, 748, 749, 750, 751, 752, 753, 754, 755, 756, 757] (by decide +kernel) (by decide +kernel)) (goodIn_sub (fun _ h => List.mem_append_left _ (List.mem_append_left _ (List.mem_append_right _ h))) (by decide +kernel))
set_option maxRecDepth 20000 in
theorem gL_law_L_loft : GoodIn wsL_law (va_wsS RL 127 yL_loft wsL_loft) := goodIn_app (goodIn_of _ (by decide +kernel)) ggL_law_L_loft
set_option maxRecDepth 20000 in
theorem ggL_law_X6_loft : GoodIn wsL_law wsX6_loft := goodIn_r _ [478, 124, 90, 125, 126, 5, 127, 128, 129, 130, 131, 736, 737, 738, 739, 740, 741, 742, 743, 744, 745] (by decide +kernel) (by decide +kernel)
set_option maxRecDepth 20000 in
theorem gL_law_X6_loft : GoodIn wsL_law (wsV RL 129 RX6 yX6_loft wsX6_loft) := goodIn_app (goodIn_of _ (by decide +kernel)) ggL_law_X6_loft
set_option maxRecDepth 20000 in
theorem ggL_law_L_count : GoodIn wsL_law wsL_count := goodIn_ca (goodIn_r _ [481, 96, 482, 483, 484, 2, 485, 103, 104, 16, 110, 111, 112, 486, 487, 488, 15, 489, 22, 23, 24, 25, 26, 45, 33, 321, 322, 323, 324, 490, 491, 492, 493, 46, 494, 495, 496, 32, 497, 51, 498, 499, 500, 501, 28, 734, 735, 746, 747, 748, 749, 750, 751, 752, 753, 754, 755, 756, 757, 769, 770, 771, 772, 773, 758, 759, 760] (by decide +kernel) (by decide +kernel)) (goodIn_sub (fun _ h => List.mem_append_left _ (List.mem_append_left _ (List.mem_append_right _ h))) (by decide +kernel))
set_option maxRecDepth 20000 in
theorem gL_law_L_count : GoodIn wsL_law (va_wsS RL 130 yL_count wsL_count) := goodIn_app (goodIn_of _ (by decide +kernel)) ggL_law_L_count
set_option maxRecDepth 20000 in
theorem ggL_law_X6_count : GoodIn wsL_law wsX6_count := goodIn_r _ [505, 124, 125, 126, 5, 127, 506, 507, 508, 509, 91, 90, 347, 348, 349, 350, 351, 352, 353, 354, 355, 356, 357, 358, 89, 184, 185, 186, 187, 86, 128, 129, 130, 131, 736, 737, 738, 739, 740, 741, 742, 743, 744, 745] (by decide +kernel) (by decide +kernel)
set_option maxRecDepth 20000 in
theorem gL_law_X6_count : GoodIn wsL_law (wsV RL 132 RX6 yX6_count wsX6_count) := goodIn_app (goodIn_of _ (by decide +kernel)) ggL_law_X6_count
set_option maxRecDepth 20000 in
theorem ggL_law_L_pass : GoodIn wsL_law wsL_pass := goodIn_ca (goodIn_r _ [512, 97, 513, 514, 515, 2, 516, 105, 106, 16, 113, 114, 115, 517, 518, 519, 15, 520, 521, 522, 523, 524, 33, 29, 22, 41, 525, 526, 527, 528, 529, 530, 531, 32, 532, 51, 52, 533, 301, 302, 303, 534, 535, 536, 537, 538, 539, 540, 541, 45, 37, 25, 26, 427, 297, 298, 299, 300, 304, 305, 306, 40, 307, 70, 291, 280, 281, 282, 68, 308, 288, 289, 290, 71, 309, 310, 311, 312, 111, 112, 313, 314, 315, 36, 316, 63, 239, 232, 233, 234, 61, 317, 318, 319, 320, 69, 321, 322, 323, 324, 24, 325, 170, 171, 172, 542, 543, 544, 545, 546, 384, 385, 386, 53, 547, 548, 549, 406, 236, 237, 238, 64, 402, 403, 404, 405, 62, 550, 551, 552, 44, 553, 75, 77, 78, 79, 76, 148, 149, 150, 110, 554, 200, 201, 202, 203, 174, 175, 176, 555, 556, 557, 558, 559, 560, 561, 562, 563, 564, 461, 462, 463, 455, 444, 445, 446, 565, 452, 453, 454, 566, 457, 458, 459, 567, 152, 153, 154, 46, 568, 569, 570, 571, 572, 573, 574, 575, 734, 735, 746, 747, 748, 749, 750, 751, 752, 753, 754, 755, 756, 757, 765, 766, 767, 768, 758, 759, 760, 761, 762, 763, 764, 769, 770, 771, 772, 773] (by decide +kernel) (by decide +kernel)) (goodIn_sub (fun _ h => List.mem_append_left _ (List.mem_append_right _ h)) (by decide +kernel))
set_option maxRecDepth 20000 in
theorem gL_law_L_pass : GoodIn wsL_law (va_wsS RL 133 yL_pass wsL_pass) := goodIn_app (goodIn_of _ (by decide +kernel)) ggL_law_L_pass
set_option maxRecDepth 20000 in
theorem ggL_law_X6_pass : GoodIn wsL_law wsX6_pass := goodIn_r _ [579, 124, 125, 126, 5, 127, 580, 581, 582, 583, 584, 585, 586, 587, 271, 91, 588, 589, 590, 591, 85, 346, 301, 302, 303, 184, 185, 186, 187, 86, 188, 189, 190, 191, 592, 593, 594, 595, 27, 89, 596, 597, 598, 599, 87, 342, 343, 344, 345, 338, 339, 340, 341, 88, 347, 348, 349, 350, 351, 352, 353, 354, 355, 356, 357, 358, 252, 253, 254, 255, 600, 601, 602, 603, 159, 160, 161, 604, 605, 606, 607, 90, 128, 129, 130, 131, 736, 737, 738, 739, 740, 741, 742, 743, 744, 745] (by decide +kernel) (by decide +kernel)
set_option maxRecDepth 20000 in
theorem gL_law_X6_pass : GoodIn wsL_law (wsV RL 135 RX6 yX6_pass wsX6_pass) := goodIn_app (goodIn_of _ (by decide +kernel)) ggL_law_X6_pass
set_option maxRecDepth 20000 in
theorem ggL_law_L_ripe : GoodIn wsL_law wsL_ripe := goodIn_ca (goodIn_ca (goodIn_r _ [610, 96, 97, 611, 612, 613, 2, 614, 103, 104, 105, 106, 17, 16, 110, 111, 112, 113, 114, 115, 615, 616, 617, 15, 618, 22, 23, 24, 25, 26, 28, 619, 597, 598, 599, 29, 33, 37, 41, 45, 46, 620, 621, 622, 32, 623, 51, 624, 52, 53, 625, 626, 627, 36, 628, 61, 62, 629, 63, 64, 630, 631, 632, 40, 633, 68, 69, 634, 70, 71, 635, 636, 637, 44, 638, 75, 76, 77, 639, 78, 79, 640, 310, 311, 312, 641, 522, 523, 524, 525, 526, 527, 528, 529, 530, 531, 532, 533, 301, 302, 303, 534, 535, 536, 537, 538, 539, 540, 541, 427, 297, 298, 299, 300, 304, 305, 306, 307, 291, 280, 281, 282, 308, 288, 289, 290, 309, 313, 314, 315, 316, 239, 232, 233, 234, 317, 318, 319, 320, 321, 322, 323, 324, 325, 170, 171, 172, 542, 543, 544, 545, 546, 384, 385, 386, 547, 548, 549, 406, 236, 237, 238, 402, 403, 404, 405, 550, 551, 552, 553, 148, 149, 150, 554, 200, 201, 202, 203, 174, 175, 176, 555, 556, 557, 558, 559, 560, 561, 562, 563, 564, 461, 462, 463, 455, 444, 445, 446, 565, 452, 453, 454, 566, 457, 458, 459, 567, 152, 153, 154, 568, 569, 570, 571, 572, 573, 574, 575, 734, 735, 746, 747, 748, 749, 750, 751, 752, 753, 754, 755, 756, 757, 758, 759, 760, 761, 762, 763, 764, 765, 766, 767, 768, 769, 770, 771, 772, 773] (by decide +kernel) (by decide +kernel)) (goodIn_sub (fun _ h => List.mem_append_left _ (List.mem_append_left _ (List.mem_append_right _ h))) (by decide +kernel))) (goodIn_sub (fun _ h => List.mem_append_left _ (List.mem_append_right _ h)) (by decide +kernel))
set_option maxRecDepth 20000 in
theorem gL_law_L_ripe : GoodIn wsL_law (va_wsS RL 136 yL_ripe wsL_ripe) := goodIn_app (goodIn_of _ (by decide +kernel)) ggL_law_L_ripe
set_option maxRecDepth 20000 in
theorem ggL_law_X6_ripe : GoodIn wsL_law wsX6_ripe := goodIn_r _ [645, 124, 181, 182, 5, 183, 125, 126, 127, 128, 129, 130, 131, 646, 647, 648, 649, 650, 86, 651, 652, 653, 654, 655, 87, 88, 89, 90, 91, 184, 185, 186, 187, 584, 585, 586, 587, 271, 588, 589, 590, 591, 85, 346, 301, 302, 303, 188, 189, 190, 191, 592, 593, 594, 595, 27, 596, 597, 598, 599, 342, 343, 344, 345, 338, 339, 340, 341, 347, 348, 349, 350, 351, 352, 353, 354, 355, 356, 357, 358, 252, 253, 254, 255, 600, 601, 602, 603, 159, 160, 161, 604, 605, 606, 607, 656, 657, 658, 659, 736, 737, 738, 739, 740, 741, 742, 743, 744, 745] (by decide +kernel) (by decide +kernel)
set_option maxRecDepth 20000 in
theorem gL_law_X6_ripe : GoodIn wsL_law (wsV RL 138 RX6 yX6_ripe wsX6_ripe) := goodIn_app (goodIn_of _ (by decide +kernel)) ggL_law_X6_ripe
set_option maxRecDepth 20000 in
theorem ggL_law_L_foresee : GoodIn wsL_law wsL_foresee := goodIn_ca (goodIn_ca (goodIn_r _ [662, 97, 96, 663, 664, 665, 2, 666, 105, 106, 103, 104, 17, 16, 113, 114, 115, 110, 111, 112, 615, 616, 617, 15, 618, 22, 23, 24, 25, 26, 28, 619, 597, 598, 599, 29, 33, 37, 41, 45, 46, 620, 621, 622, 32, 623, 51, 624, 52, 53, 625, 626, 627, 36, 628, 61, 62, 629, 63, 64, 630, 631, 632, 40, 633, 68, 69, 634, 70, 71, 635, 636, 637, 44, 638, 75, 76, 77, 639, 78, 79, 517, 518, 519, 520, 521, 522, 523, 524, 525, 526, 527, 528, 529, 530, 531, 532, 533, 301, 302, 303, 534, 535, 536, 537, 538, 539, 540, 541, 427, 297, 298, 299, 300, 304, 305, 306, 307, 291, 280, 281, 282, 308, 288, 289, 290, 309, 310, 311, 312, 313, 314, 315, 316, 239, 232, 233, 234, 317, 318, 319, 320, 321, 322, 323, 324, 325, 170, 171, 172, 542, 543, 544, 545, 546, 384, 385, 386, 547, 548, 549, 406, 236, 237, 238, 402, 403, 404, 405, 550, 551, 552, 553, 148, 149, 150, 554, 200, 201, 202, 203, 174, 175, 176, 555, 556, 557, 558, 559, 560, 561, 562, 563, 564, 461, 462, 463, 455, 444, 445, 446, 565, 452, 453, 454, 566, 457, 458, 459, 567, 152, 153, 154, 568, 569, 570, 571, 572, 573, 574, 575, 486, 487, 488, 489, 490, 491, 492, 493, 494, 495, 496, 497, 498, 499, 500, 501, 734, 735, 746, 747, 748, 749, 750, 751, 752, 753, 754, 755, 756, 757, 758, 759, 760, 761, 762, 763, 764, 765, 766, 767, 768, 769, 770, 771, 772, 773] (by decide +kernel) (by decide +kernel)) (goodIn_sub (fun _ h => List.mem_append_left _ (List.mem_append_right _ h)) (by decide +kernel))) (goodIn_sub (fun _ h => List.mem_append_left _ (List.mem_append_left _ (List.mem_append_right _ h))) (by decide +kernel))
set_option maxRecDepth 20000 in
theorem gL_law_L_foresee : GoodIn wsL_law (va_wsS RL 139 yL_foresee wsL_foresee) := goodIn_app (goodIn_of _ (by decide +kernel)) ggL_law_L_foresee
set_option maxRecDepth 20000 in
theorem ggL_law_X6_foresee : GoodIn wsL_law wsX6_foresee := goodIn_r _ [670, 124, 125, 126, 5, 127, 128, 129, 130, 131, 646, 647, 648, 649, 650, 86, 651, 652, 653, 654, 655, 87, 88, 89, 90, 91, 580, 581, 582, 583, 584, 585, 586, 587, 271, 588, 589, 590, 591, 85, 346, 301, 302, 303, 184, 185, 186, 187, 188, 189, 190, 191, 592, 593, 594, 595, 27, 596, 597, 598, 599, 342, 343, 344, 345, 338, 339, 340, 341, 347, 348, 349, 350, 351, 352, 353, 354, 355, 356, 357, 358, 252, 253, 254, 255, 600, 601, 602, 603, 159, 160, 161, 604, 605, 606, 607, 506, 507, 508, 509, 656, 657, 658, 659, 736, 737, 738, 739, 740, 741, 742, 743, 744, 745] (by decide +kernel) (by decide +kernel)
set_option maxRecDepth 20000 in
theorem gL_law_X6_foresee : GoodIn wsL_law (wsV RL 141 RX6 yX6_foresee wsX6_foresee) := goodIn_app (goodIn_of _ (by decide +kernel)) ggL_law_X6_foresee
set_option maxRecDepth 20000 in
theorem ggL_law_L_advise : GoodIn wsL_law wsL_advise := goodIn_ca (goodIn_r _ [673, 96, 674, 675, 676, 2, 677, 103, 104, 16, 279, 280, 281, 40, 282, 68, 678, 288, 289, 290, 71, 291, 679, 680, 681, 682, 17, 615, 616, 617, 15, 618, 22, 23, 24, 25, 26, 28, 619, 597, 598, 599, 29, 33, 37, 41, 45, 46, 620, 621, 622, 32, 623, 51, 624, 52, 53, 625, 626, 627, 36, 628, 61, 62, 629, 63, 64, 630, 631, 632, 633, 69, 634, 70, 635, 636, 637, 44, 638, 75, 76, 77, 639, 78, 79, 292, 293, 294, 295, 641, 522, 523, 524, 525, 526, 527, 528, 529, 530, 531, 532, 533, 301, 302, 303, 534, 535, 536, 537, 538, 539, 540, 541, 427, 297, 298, 299, 300, 304, 305, 306, 307, 308, 309, 310, 311, 312, 111, 112, 313, 314, 315, 316, 239, 232, 233, 234, 317, 318, 319, 320, 321, 322, 323, 324, 325, 170, 171, 172, 542, 543, 544, 545, 546, 384, 385, 386, 547, 548, 549, 406, 236, 237, 238, 402, 403, 404, 405, 550, 551, 552, 553, 148, 149, 150, 110, 554, 200, 201, 202, 203, 174, 175, 176, 555, 556, 557, 558, 559, 560, 561, 562, 563, 564, 461, 462, 463, 455, 444, 445, 446, 565, 452, 453, 454, 566, 457, 458, 459, 567, 152, 153, 154, 568, 569, 570, 571, 572, 573, 574, 575, 734, 735, 746, 747, 748, 749, 750, 751, 752, 753, 754, 755, 756, 757, 765, 766, 767, 768, 758, 759, 760, 761, 762, 763, 764, 769, 770, 771, 772, 773] (by decide +kernel) (by decide +kernel)) (goodIn_sub (fun _ h => List.mem_append_left _ (List.mem_append_left _ (List.mem_append_right _ h))) (by decide +kernel))
set_option maxRecDepth 20000 in
theorem gL_law_L_advise : GoodIn wsL_law (va_wsS RL 142 yL_advise wsL_advise) := goodIn_app (goodIn_of _ (by decide +kernel)) ggL_law_L_advise
set_option maxRecDepth 20000 in
theorem ggL_law_X6_advise : GoodIn wsL_law wsX6_advise := goodIn_r _ [686, 124, 88, 91, 330, 331, 332, 5, 333, 271, 125, 126, 127, 128, 129, 130, 131, 338, 339, 340, 341, 646, 647, 648, 649, 650, 86, 651, 652, 653, 654, 655, 87, 89, 90, 584, 585, 586, 587, 588, 589, 590, 591, 85, 346, 301, 302, 303, 184, 185, 186, 187, 188, 189, 190, 191, 592, 593, 594, 595, 27, 596, 597, 598, 599, 342, 343, 344, 345, 347, 348, 349, 350, 351, 352, 353, 354, 355, 356, 357, 358, 252, 253, 254, 255, 600, 601, 602, 603, 159, 160, 161, 604, 605, 606, 607, 656, 657, 658, 659, 736, 737, 738, 739, 740, 741, 742, 743, 744, 745] (by decide +kernel) (by decide +kernel)
set_option maxRecDepth 20000 in
theorem gL_law_X6_advise : GoodIn wsL_law (wsV RL 144 RX6 yX6_advise wsX6_advise) := goodIn_app (goodIn_of _ (by decide +kernel)) ggL_law_X6_advise
set_option maxRecDepth 20000 in
theorem ggL_law_X5_mean : GoodIn wsL_law wsX5_mean := goodIn_r _ [690, 16, 235, 236, 237, 36, 238, 64, 239, 232, 233, 234, 61, 734, 735, 746, 747, 748, 749, 750, 751, 752, 753, 754, 755, 756, 757, 761, 762, 763, 764] (by decide +kernel) (by decide +kernel)
set_option maxRecDepth 20000 in
theorem gL_law_X5_mean : GoodIn wsL_law (wsV RL 145 RX5 yX5_mean wsX5_mean) := goodIn_app (goodIn_of _ (by decide +kernel)) ggL_law_X5_mean
set_option maxRecDepth 20000 in
theorem ggL_law_X6_mean : GoodIn wsL_law wsX6_mean := goodIn_r _ [694, 124, 223, 252, 253, 254, 5, 255, 87, 736, 737, 738, 739, 740, 741, 742, 743, 744, 745] (by decide +kernel) (by decide +kernel)
set_option maxRecDepth 20000 in
theorem gL_law_X6_mean : GoodIn wsL_law (wsV RL 149 RX6 yX6_mean wsX6_mean) := goodIn_app (goodIn_of _ (by decide +kernel)) ggL_law_X6_mean
set_option maxRecDepth 20000 in
theorem ggL_law_X5_digest : GoodIn wsL_law wsX5_digest := goodIn_r _ [698, 699, 700, 701, 702, 2, 703, 16, 486, 487, 488, 15, 489, 22, 23, 24, 25, 26, 45, 33, 321, 322, 323, 324, 490, 491, 492, 493, 46, 494, 495, 496, 32, 497, 51, 498, 499, 500, 501, 28, 111, 112, 704, 705, 706, 707, 708, 709, 710, 711, 377, 378, 379, 380, 381, 170, 171, 172, 382, 310, 311, 312, 52, 383, 384, 385, 386, 53, 712, 713, 714, 715, 398, 399, 400, 401, 37, 41, 402, 403, 404, 36, 405, 62, 239, 232, 233, 234, 61, 313, 314, 315, 316, 63, 406, 236, 237, 238, 64, 407, 284, 285, 40, 286, 68, 287, 288, 289, 290, 71, 291, 280, 281, 282, 716, 717, 718, 719, 423, 424, 425, 426, 317, 318, 319, 320, 69, 304, 305, 306, 307, 70, 308, 427, 297, 298, 299, 300, 301, 302, 303, 309, 325, 720, 721, 722, 723, 447, 448, 449, 44, 450, 451, 452, 453, 454, 77, 455, 444, 445, 446, 75, 456, 457, 458, 459, 78, 460, 461, 462, 463, 79, 724, 725, 726, 727, 143, 144, 145, 146, 734, 735, 746, 747, 748, 749, 750, 751, 752, 753, 754, 755, 756, 757, 769, 770, 771, 772, 773, 758, 759, 760, 761, 762, 763, 764, 765, 766, 767, 768] (by decide +kernel) (by decide +kernel)
set_option maxRecDepth 20000 in
theorem gL_law_X5_digest : GoodIn wsL_law (wsV RL 150 RX5 yX5_digest wsX5_digest) := goodIn_app (goodIn_of _ (by decide +kernel)) ggL_law_X5_digest
set_option maxRecDepth 20000 in
theorem ggL_law_X6_digest : GoodIn wsL_law wsX6_digest := goodIn_r _ [731, 124, 732, 733, 85, 86, 223, 271, 91, 89, 90, 506, 507, 508, 5, 509, 347, 348, 349, 350, 351, 352, 353, 354, 355, 356, 357, 358, 184, 185, 186, 187, 412, 413, 414, 415, 252, 253, 254, 255, 87, 334, 335, 336, 337, 338, 339, 340, 341, 88, 432, 433, 434, 435, 342, 343, 344, 345, 346, 301, 302, 303, 736, 737, 738, 739, 740, 741, 742, 743, 744, 745] (by decide +kernel) (by decide +kernel)
set_option maxRecDepth 20000 in
theorem gL_law_X6_digest : GoodIn wsL_law (wsV RL 154 RX6 yX6_digest wsX6_digest) := goodIn_app (goodIn_of _ (by decide +kernel)) ggL_law_X6_digest
theorem dL_law_0 : decode cL_law 0 = .ok (.new 8, 3) := by decide +kernel
theorem dL_law_3 : decode cL_law 3 = .ok (.dup, 1) := by decide +kernel
theorem dL_law_4 : decode cL_law 4 = .ok (.invokespecial 75, 3) := by decide +kernel
theorem dL_law_7 : decode cL_law 7 = .ok (.astore_n 1, 1) := by decide +kernel
theorem dL_law_8 : decode cL_law 8 = .ok (.new 76, 3) := by decide +kernel
theorem dL_law_11 : decode cL_law 11 = .ok (.dup, 1) := by decide +kernel
theorem dL_law_12 : decode cL_law 12 = .ok (.invokespecial 78, 3) := by decide +kernel
theorem dL_law_15 : decode cL_law 15 = .ok (.astore_n 2, 1) := by decide +kernel
theorem dL_law_16 : decode cL_law 16 = .ok (.iconst 1, 1) := by decide +kernel
theorem dL_law_17 : decode cL_law 17 = .ok (.newarray .long, 2) := by decide +kernel
theorem dL_law_19 : decode cL_law 19 = .ok (.astore_n 3, 1) := by decide +kernel
theorem dL_law_20 : decode cL_law 20 = .ok (.iconst 0, 1) := by decide +kernel
theorem dL_law_21 : decode cL_law 21 = .ok (.istore 4, 2) := by decide +kernel
theorem dL_law_23 : decode cL_law 23 = .ok (.iload 4, 2) := by decide +kernel
theorem dL_law_25 : decode cL_law 25 = .ok (.aload_n 0, 1) := by decide +kernel
theorem dL_law_26 : decode cL_law 26 = .ok (.arraylength, 1) := by decide +kernel
theorem dL_law_27 : decode cL_law 27 = .ok (.iconst 4, 1) := by decide +kernel
theorem dL_law_28 : decode cL_law 28 = .ok (.isub, 1) := by decide +kernel
theorem dL_law_29 : decode cL_law 29 = .ok (.if_icmp .gt 1424, 3) := by decide +kernel
theorem dL_law_32 : decode cL_law 32 = .ok (.aload_n 0, 1) := by decide +kernel
theorem dL_law_33 : decode cL_law 33 = .ok (.iload 4, 2) := by decide +kernel
theorem dL_law_35 : decode cL_law 35 = .ok (.iaload, 1) := by decide +kernel
theorem dL_law_36 : decode cL_law 36 = .ok (.bipush 31, 2) := by decide +kernel
theorem dL_law_38 : decode cL_law 38 = .ok (.iand, 1) := by decide +kernel
theorem dL_law_39 : decode cL_law 39 = .ok (.tableswitch 1408 0 20 #[97, 165, 245, 325, 381, 449, 505, 561, 641, 709, 777, 845, 913, 981, 1049, 1105, 1161, 1229, 1297, 1353, 1394], 97) := by decide +kernel
theorem dL_law_136 : decode cL_law 136 = .ok (.aload_n 1, 1) := by decide +kernel
theorem dL_law_137 : decode cL_law 137 = .ok (.aload_n 0, 1) := by decide +kernel
theorem dL_law_138 : decode cL_law 138 = .ok (.iload 4, 2) := by decide +kernel
theorem dL_law_140 : decode cL_law 140 = .ok (.iconst 1, 1) := by decide +kernel
theorem dL_law_141 : decode cL_law 141 = .ok (.iadd, 1) := by decide +kernel
theorem dL_law_142 : decode cL_law 142 = .ok (.iaload, 1) := by decide +kernel
theorem dL_law_143 : decode cL_law 143 = .ok (.aload_n 0, 1) := by decide +kernel
theorem dL_law_144 : decode cL_law 144 = .ok (.iload 4, 2) := by decide +kernel
theorem dL_law_146 : decode cL_law 146 = .ok (.iconst 2, 1) := by decide +kernel
theorem dL_law_147 : decode cL_law 147 = .ok (.iadd, 1) := by decide +kernel
theorem dL_law_148 : decode cL_law 148 = .ok (.iaload, 1) := by decide +kernel
theorem dL_law_149 : decode cL_law 149 = .ok (.aload_n 3, 1) := by decide +kernel
theorem dL_law_150 : decode cL_law 150 = .ok (.invokestatic 79, 3) := by decide +kernel
theorem dL_law_153 : decode cL_law 153 = .ok (.istore 5, 2) := by decide +kernel
theorem dL_law_155 : decode cL_law 155 = .ok (.aload_n 2, 1) := by decide +kernel
theorem dL_law_156 : decode cL_law 156 = .ok (.aload_n 0, 1) := by decide +kernel
theorem dL_law_157 : decode cL_law 157 = .ok (.iload 4, 2) := by decide +kernel
theorem dL_law_159 : decode cL_law 159 = .ok (.iconst 1, 1) := by decide +kernel
theorem dL_law_160 : decode cL_law 160 = .ok (.iadd, 1) := by decide +kernel
theorem dL_law_161 : decode cL_law 161 = .ok (.iaload, 1) := by decide +kernel
theorem dL_law_162 : decode cL_law 162 = .ok (.aload_n 0, 1) := by decide +kernel
theorem dL_law_163 : decode cL_law 163 = .ok (.iload 4, 2) := by decide +kernel
theorem dL_law_165 : decode cL_law 165 = .ok (.iconst 2, 1) := by decide +kernel
theorem dL_law_166 : decode cL_law 166 = .ok (.iadd, 1) := by decide +kernel
theorem dL_law_167 : decode cL_law 167 = .ok (.iaload, 1) := by decide +kernel
theorem dL_law_168 : decode cL_law 168 = .ok (.invokevirtual 84, 3) := by decide +kernel
theorem dL_law_171 : decode cL_law 171 = .ok (.istore 6, 2) := by decide +kernel
theorem dL_law_173 : decode cL_law 173 = .ok (.aload_n 2, 1) := by decide +kernel
theorem dL_law_174 : decode cL_law 174 = .ok (.invokevirtual 85, 3) := by decide +kernel
theorem dL_law_177 : decode cL_law 177 = .ok (.iload 5, 2) := by decide +kernel
theorem dL_law_179 : decode cL_law 179 = .ok (.if_icmp .eq 5, 3) := by decide +kernel
theorem dL_law_182 : decode cL_law 182 = .ok (.iconst 0, 1) := by decide +kernel
theorem dL_law_183 : decode cL_law 183 = .ok (.ireturn, 1) := by decide +kernel
theorem dL_law_184 : decode cL_law 184 = .ok (.iload 5, 2) := by decide +kernel
theorem dL_law_186 : decode cL_law 186 = .ok (.ifCond .ne 15, 3) := by decide +kernel
theorem dL_law_189 : decode cL_law 189 = .ok (.aload_n 3, 1) := by decide +kernel
theorem dL_law_190 : decode cL_law 190 = .ok (.iconst 0, 1) := by decide +kernel
theorem dL_law_191 : decode cL_law 191 = .ok (.laload, 1) := by decide +kernel
theorem dL_law_192 : decode cL_law 192 = .ok (.iload 6, 2) := by decide +kernel
theorem dL_law_194 : decode cL_law 194 = .ok (.i2l, 1) := by decide +kernel
theorem dL_law_195 : decode cL_law 195 = .ok (.lcmp, 1) := by decide +kernel
theorem dL_law_196 : decode cL_law 196 = .ok (.ifCond .eq 5, 3) := by decide +kernel
theorem dL_law_199 : decode cL_law 199 = .ok (.iconst 0, 1) := by decide +kernel
theorem dL_law_200 : decode cL_law 200 = .ok (.ireturn, 1) := by decide +kernel
theorem dL_law_201 : decode cL_law 201 = .ok (.goto 1246, 3) := by decide +kernel
theorem dL_law_204 : decode cL_law 204 = .ok (.aload_n 1, 1) := by decide +kernel
theorem dL_law_205 : decode cL_law 205 = .ok (.aload_n 0, 1) := by decide +kernel
theorem dL_law_206 : decode cL_law 206 = .ok (.iload 4, 2) := by decide +kernel
theorem dL_law_208 : decode cL_law 208 = .ok (.iconst 1, 1) := by decide +kernel
theorem dL_law_209 : decode cL_law 209 = .ok (.iadd, 1) := by decide +kernel
theorem dL_law_210 : decode cL_law 210 = .ok (.iaload, 1) := by decide +kernel
theorem dL_law_211 : decode cL_law 211 = .ok (.aload_n 0, 1) := by decide +kernel
theorem dL_law_212 : decode cL_law 212 = .ok (.iload 4, 2) := by decide +kernel
theorem dL_law_214 : decode cL_law 214 = .ok (.iconst 2, 1) := by decide +kernel
theorem dL_law_215 : decode cL_law 215 = .ok (.iadd, 1) := by decide +kernel
theorem dL_law_216 : decode cL_law 216 = .ok (.iaload, 1) := by decide +kernel
theorem dL_law_217 : decode cL_law 217 = .ok (.aload_n 0, 1) := by decide +kernel
theorem dL_law_218 : decode cL_law 218 = .ok (.iload 4, 2) := by decide +kernel
theorem dL_law_220 : decode cL_law 220 = .ok (.iconst 3, 1) := by decide +kernel
theorem dL_law_221 : decode cL_law 221 = .ok (.iadd, 1) := by decide +kernel
theorem dL_law_222 : decode cL_law 222 = .ok (.iaload, 1) := by decide +kernel
theorem dL_law_223 : decode cL_law 223 = .ok (.aload_n 3, 1) := by decide +kernel
theorem dL_law_224 : decode cL_law 224 = .ok (.invokestatic 89, 3) := by decide +kernel
theorem dL_law_227 : decode cL_law 227 = .ok (.istore 5, 2) := by decide +kernel
theorem dL_law_229 : decode cL_law 229 = .ok (.aload_n 2, 1) := by decide +kernel
theorem dL_law_230 : decode cL_law 230 = .ok (.aload_n 0, 1) := by decide +kernel
theorem dL_law_231 : decode cL_law 231 = .ok (.iload 4, 2) := by decide +kernel
theorem dL_law_233 : decode cL_law 233 = .ok (.iconst 1, 1) := by decide +kernel
theorem dL_law_234 : decode cL_law 234 = .ok (.iadd, 1) := by decide +kernel
theorem dL_law_235 : decode cL_law 235 = .ok (.iaload, 1) := by decide +kernel
theorem dL_law_236 : decode cL_law 236 = .ok (.aload_n 0, 1) := by decide +kernel
theorem dL_law_237 : decode cL_law 237 = .ok (.iload 4, 2) := by decide +kernel
theorem dL_law_239 : decode cL_law 239 = .ok (.iconst 2, 1) := by decide +kernel
theorem dL_law_240 : decode cL_law 240 = .ok (.iadd, 1) := by decide +kernel
theorem dL_law_241 : decode cL_law 241 = .ok (.iaload, 1) := by decide +kernel
theorem dL_law_242 : decode cL_law 242 = .ok (.aload_n 0, 1) := by decide +kernel
theorem dL_law_243 : decode cL_law 243 = .ok (.iload 4, 2) := by decide +kernel
theorem dL_law_245 : decode cL_law 245 = .ok (.iconst 3, 1) := by decide +kernel
theorem dL_law_246 : decode cL_law 246 = .ok (.iadd, 1) := by decide +kernel
theorem dL_law_247 : decode cL_law 247 = .ok (.iaload, 1) := by decide +kernel
theorem dL_law_248 : decode cL_law 248 = .ok (.invokevirtual 92, 3) := by decide +kernel
theorem dL_law_251 : decode cL_law 251 = .ok (.istore 6, 2) := by decide +kernel
theorem dL_law_253 : decode cL_law 253 = .ok (.aload_n 2, 1) := by decide +kernel
theorem dL_law_254 : decode cL_law 254 = .ok (.invokevirtual 85, 3) := by decide +kernel
theorem dL_law_257 : decode cL_law 257 = .ok (.iload 5, 2) := by decide +kernel
theorem dL_law_259 : decode cL_law 259 = .ok (.if_icmp .eq 5, 3) := by decide +kernel
theorem dL_law_262 : decode cL_law 262 = .ok (.iconst 0, 1) := by decide +kernel
theorem dL_law_263 : decode cL_law 263 = .ok (.ireturn, 1) := by decide +kernel
theorem dL_law_264 : decode cL_law 264 = .ok (.iload 5, 2) := by decide +kernel
theorem dL_law_266 : decode cL_law 266 = .ok (.ifCond .ne 15, 3) := by decide +kernel
theorem dL_law_269 : decode cL_law 269 = .ok (.aload_n 3, 1) := by decide +kernel
theorem dL_law_270 : decode cL_law 270 = .ok (.iconst 0, 1) := by decide +kernel
theorem dL_law_271 : decode cL_law 271 = .ok (.laload, 1) := by decide +kernel
theorem dL_law_272 : decode cL_law 272 = .ok (.iload 6, 2) := by decide +kernel
theorem dL_law_274 : decode cL_law 274 = .ok (.i2l, 1) := by decide +kernel
theorem dL_law_275 : decode cL_law 275 = .ok (.lcmp, 1) := by decide +kernel
theorem dL_law_276 : decode cL_law 276 = .ok (.ifCond .eq 5, 3) := by decide +kernel
theorem dL_law_279 : decode cL_law 279 = .ok (.iconst 0, 1) := by decide +kernel
theorem dL_law_280 : decode cL_law 280 = .ok (.ireturn, 1) := by decide +kernel
theorem dL_law_281 : decode cL_law 281 = .ok (.goto 1166, 3) := by decide +kernel
theorem dL_law_284 : decode cL_law 284 = .ok (.aload_n 1, 1) := by decide +kernel
theorem dL_law_285 : decode cL_law 285 = .ok (.aload_n 0, 1) := by decide +kernel
theorem dL_law_286 : decode cL_law 286 = .ok (.iload 4, 2) := by decide +kernel
theorem dL_law_288 : decode cL_law 288 = .ok (.iconst 1, 1) := by decide +kernel
theorem dL_law_289 : decode cL_law 289 = .ok (.iadd, 1) := by decide +kernel
theorem dL_law_290 : decode cL_law 290 = .ok (.iaload, 1) := by decide +kernel
theorem dL_law_291 : decode cL_law 291 = .ok (.aload_n 0, 1) := by decide +kernel
theorem dL_law_292 : decode cL_law 292 = .ok (.iload 4, 2) := by decide +kernel
theorem dL_law_294 : decode cL_law 294 = .ok (.iconst 2, 1) := by decide +kernel
theorem dL_law_295 : decode cL_law 295 = .ok (.iadd, 1) := by decide +kernel
theorem dL_law_296 : decode cL_law 296 = .ok (.iaload, 1) := by decide +kernel
theorem dL_law_297 : decode cL_law 297 = .ok (.aload_n 0, 1) := by decide +kernel
theorem dL_law_298 : decode cL_law 298 = .ok (.iload 4, 2) := by decide +kernel
theorem dL_law_300 : decode cL_law 300 = .ok (.iconst 3, 1) := by decide +kernel
theorem dL_law_301 : decode cL_law 301 = .ok (.iadd, 1) := by decide +kernel
theorem dL_law_302 : decode cL_law 302 = .ok (.iaload, 1) := by decide +kernel
theorem dL_law_303 : decode cL_law 303 = .ok (.aload_n 3, 1) := by decide +kernel
theorem dL_law_304 : decode cL_law 304 = .ok (.invokestatic 93, 3) := by decide +kernel
theorem dL_law_307 : decode cL_law 307 = .ok (.istore 5, 2) := by decide +kernel
theorem dL_law_309 : decode cL_law 309 = .ok (.aload_n 2, 1) := by decide +kernel
theorem dL_law_310 : decode cL_law 310 = .ok (.aload_n 0, 1) := by decide +kernel
theorem dL_law_311 : decode cL_law 311 = .ok (.iload 4, 2) := by decide +kernel
theorem dL_law_313 : decode cL_law 313 = .ok (.iconst 1, 1) := by decide +kernel
theorem dL_law_314 : decode cL_law 314 = .ok (.iadd, 1) := by decide +kernel
theorem dL_law_315 : decode cL_law 315 = .ok (.iaload, 1) := by decide +kernel
theorem dL_law_316 : decode cL_law 316 = .ok (.aload_n 0, 1) := by decide +kernel
theorem dL_law_317 : decode cL_law 317 = .ok (.iload 4, 2) := by decide +kernel
theorem dL_law_319 : decode cL_law 319 = .ok (.iconst 2, 1) := by decide +kernel
theorem dL_law_320 : decode cL_law 320 = .ok (.iadd, 1) := by decide +kernel
theorem dL_law_321 : decode cL_law 321 = .ok (.iaload, 1) := by decide +kernel
theorem dL_law_322 : decode cL_law 322 = .ok (.aload_n 0, 1) := by decide +kernel
theorem dL_law_323 : decode cL_law 323 = .ok (.iload 4, 2) := by decide +kernel
theorem dL_law_325 : decode cL_law 325 = .ok (.iconst 3, 1) := by decide +kernel
theorem dL_law_326 : decode cL_law 326 = .ok (.iadd, 1) := by decide +kernel
theorem dL_law_327 : decode cL_law 327 = .ok (.iaload, 1) := by decide +kernel
theorem dL_law_328 : decode cL_law 328 = .ok (.invokevirtual 95, 3) := by decide +kernel
theorem dL_law_331 : decode cL_law 331 = .ok (.istore 6, 2) := by decide +kernel
theorem dL_law_333 : decode cL_law 333 = .ok (.aload_n 2, 1) := by decide +kernel
theorem dL_law_334 : decode cL_law 334 = .ok (.invokevirtual 85, 3) := by decide +kernel
theorem dL_law_337 : decode cL_law 337 = .ok (.iload 5, 2) := by decide +kernel
theorem dL_law_339 : decode cL_law 339 = .ok (.if_icmp .eq 5, 3) := by decide +kernel
theorem dL_law_342 : decode cL_law 342 = .ok (.iconst 0, 1) := by decide +kernel
theorem dL_law_343 : decode cL_law 343 = .ok (.ireturn, 1) := by decide +kernel
theorem dL_law_344 : decode cL_law 344 = .ok (.iload 5, 2) := by decide +kernel
theorem dL_law_346 : decode cL_law 346 = .ok (.ifCond .ne 15, 3) := by decide +kernel
theorem dL_law_349 : decode cL_law 349 = .ok (.aload_n 3, 1) := by decide +kernel
theorem dL_law_350 : decode cL_law 350 = .ok (.iconst 0, 1) := by decide +kernel
theorem dL_law_351 : decode cL_law 351 = .ok (.laload, 1) := by decide +kernel
theorem dL_law_352 : decode cL_law 352 = .ok (.iload 6, 2) := by decide +kernel
theorem dL_law_354 : decode cL_law 354 = .ok (.i2l, 1) := by decide +kernel
theorem dL_law_355 : decode cL_law 355 = .ok (.lcmp, 1) := by decide +kernel
theorem dL_law_356 : decode cL_law 356 = .ok (.ifCond .eq 5, 3) := by decide +kernel
theorem dL_law_359 : decode cL_law 359 = .ok (.iconst 0, 1) := by decide +kernel
theorem dL_law_360 : decode cL_law 360 = .ok (.ireturn, 1) := by decide +kernel
theorem dL_law_361 : decode cL_law 361 = .ok (.goto 1086, 3) := by decide +kernel
theorem dL_law_364 : decode cL_law 364 = .ok (.aload_n 1, 1) := by decide +kernel
theorem dL_law_365 : decode cL_law 365 = .ok (.aload_n 0, 1) := by decide +kernel
theorem dL_law_366 : decode cL_law 366 = .ok (.iload 4, 2) := by decide +kernel
