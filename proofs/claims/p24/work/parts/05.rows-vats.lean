theorem nmX4 : ∀ a, a < 3 → ∀ b, b < 3 → a ≠ b → (TX4 a).2.1 ≠ (TX4 b).2.1 := by decide +kernel
theorem tyX4_ok : ∀ k, k < 3 → parseFieldDescriptor (TX4 k).2.2.1 = some (tyX4 k) := by decide +kernel
theorem inlX4 : ∀ w ∈ wsX40, w ∈ wsL_law := fun _ h => List.mem_append_left _ (List.mem_append_left _ (List.mem_append_left _ (List.mem_append_left _ (List.mem_append_left _ (List.mem_append_left _ (List.mem_append_left _ (List.mem_append_right _ h)))))))
set_option maxRecDepth 20000 in
theorem ggX4_init_J7_fill_53178 : GoodIn wsX4_init wsJ7_fill_53178 := goodIn_r _ [11] (by decide +kernel) (by decide +kernel)
set_option maxRecDepth 20000 in
theorem gX4_init_J7_fill_53178 : GoodIn wsX4_init (va_wsS RX4 21 yJ7_fill_53178 wsJ7_fill_53178) := goodIn_app (goodIn_of _ (by decide +kernel)) ggX4_init_J7_fill_53178
theorem dX4_init_0 : decode cX4_init 0 = .ok (.aload_n 0, 1) := by decide +kernel
theorem dX4_init_1 : decode cX4_init 1 = .ok (.invokespecial 3, 3) := by decide +kernel
theorem dX4_init_4 : decode cX4_init 4 = .ok (.aload_n 0, 1) := by decide +kernel
theorem dX4_init_5 : decode cX4_init 5 = .ok (.iconst 4, 1) := by decide +kernel
theorem dX4_init_6 : decode cX4_init 6 = .ok (.newarray .int, 2) := by decide +kernel
theorem dX4_init_8 : decode cX4_init 8 = .ok (.putfield 9, 3) := by decide +kernel
theorem dX4_init_11 : decode cX4_init 11 = .ok (.aload_n 0, 1) := by decide +kernel
theorem dX4_init_12 : decode cX4_init 12 = .ok (.iconst 4, 1) := by decide +kernel
theorem dX4_init_13 : decode cX4_init 13 = .ok (.newarray .int, 2) := by decide +kernel
theorem dX4_init_15 : decode cX4_init 15 = .ok (.putfield 15, 3) := by decide +kernel
theorem dX4_init_18 : decode cX4_init 18 = .ok (.aload_n 0, 1) := by decide +kernel
theorem dX4_init_19 : decode cX4_init 19 = .ok (.iconst 4, 1) := by decide +kernel
theorem dX4_init_20 : decode cX4_init 20 = .ok (.newarray .int, 2) := by decide +kernel
theorem dX4_init_22 : decode cX4_init 22 = .ok (.putfield 18, 3) := by decide +kernel
theorem dX4_init_25 : decode cX4_init 25 = .ok (.aload_n 0, 1) := by decide +kernel
theorem dX4_init_26 : decode cX4_init 26 = .ok (.getfield 18, 3) := by decide +kernel
theorem dX4_init_29 : decode cX4_init 29 = .ok (.iconst (-1), 1) := by decide +kernel
theorem dX4_init_30 : decode cX4_init 30 = .ok (.invokestatic 21, 3) := by decide +kernel
theorem dX4_init_33 : decode cX4_init 33 = .ok (.return_, 1) := by decide +kernel
theorem dX4_becomeLike_0 : decode cX4_becomeLike 0 = .ok (.aload_n 1, 1) := by decide +kernel
theorem dX4_becomeLike_1 : decode cX4_becomeLike 1 = .ok (.getfield 9, 3) := by decide +kernel
theorem dX4_becomeLike_4 : decode cX4_becomeLike 4 = .ok (.iconst 0, 1) := by decide +kernel
theorem dX4_becomeLike_5 : decode cX4_becomeLike 5 = .ok (.aload_n 0, 1) := by decide +kernel
theorem dX4_becomeLike_6 : decode cX4_becomeLike 6 = .ok (.getfield 9, 3) := by decide +kernel
theorem dX4_becomeLike_9 : decode cX4_becomeLike 9 = .ok (.iconst 0, 1) := by decide +kernel
theorem dX4_becomeLike_10 : decode cX4_becomeLike 10 = .ok (.iconst 4, 1) := by decide +kernel
theorem dX4_becomeLike_11 : decode cX4_becomeLike 11 = .ok (.invokestatic 27, 3) := by decide +kernel
theorem dX4_becomeLike_14 : decode cX4_becomeLike 14 = .ok (.aload_n 1, 1) := by decide +kernel
theorem dX4_becomeLike_15 : decode cX4_becomeLike 15 = .ok (.getfield 15, 3) := by decide +kernel
theorem dX4_becomeLike_18 : decode cX4_becomeLike 18 = .ok (.iconst 0, 1) := by decide +kernel
theorem dX4_becomeLike_19 : decode cX4_becomeLike 19 = .ok (.aload_n 0, 1) := by decide +kernel
theorem dX4_becomeLike_20 : decode cX4_becomeLike 20 = .ok (.getfield 15, 3) := by decide +kernel
theorem dX4_becomeLike_23 : decode cX4_becomeLike 23 = .ok (.iconst 0, 1) := by decide +kernel
theorem dX4_becomeLike_24 : decode cX4_becomeLike 24 = .ok (.iconst 4, 1) := by decide +kernel
theorem dX4_becomeLike_25 : decode cX4_becomeLike 25 = .ok (.invokestatic 27, 3) := by decide +kernel
theorem dX4_becomeLike_28 : decode cX4_becomeLike 28 = .ok (.aload_n 1, 1) := by decide +kernel
theorem dX4_becomeLike_29 : decode cX4_becomeLike 29 = .ok (.getfield 18, 3) := by decide +kernel
theorem dX4_becomeLike_32 : decode cX4_becomeLike 32 = .ok (.iconst 0, 1) := by decide +kernel
theorem dX4_becomeLike_33 : decode cX4_becomeLike 33 = .ok (.aload_n 0, 1) := by decide +kernel
theorem dX4_becomeLike_34 : decode cX4_becomeLike 34 = .ok (.getfield 18, 3) := by decide +kernel
theorem dX4_becomeLike_37 : decode cX4_becomeLike 37 = .ok (.iconst 0, 1) := by decide +kernel
theorem dX4_becomeLike_38 : decode cX4_becomeLike 38 = .ok (.iconst 4, 1) := by decide +kernel
theorem dX4_becomeLike_39 : decode cX4_becomeLike 39 = .ok (.invokestatic 27, 3) := by decide +kernel
theorem dX4_becomeLike_42 : decode cX4_becomeLike 42 = .ok (.return_, 1) := by decide +kernel
set_option maxRecDepth 20000 in
theorem ggX4_pulpOf_X5_isBelow : GoodIn wsX4_pulpOf wsX5_isBelow := goodIn_r _ [4] (by decide +kernel) (by decide +kernel)
set_option maxRecDepth 20000 in
theorem gX4_pulpOf_X5_isBelow_n33 : GoodIn wsX4_pulpOf (wsX5_isBelow) := ggX4_pulpOf_X5_isBelow
theorem dX4_pulpOf_0 : decode cX4_pulpOf 0 = .ok (.iload_n 1, 1) := by decide +kernel
theorem dX4_pulpOf_1 : decode cX4_pulpOf 1 = .ok (.iconst 4, 1) := by decide +kernel
theorem dX4_pulpOf_2 : decode cX4_pulpOf 2 = .ok (.invokestatic 33, 3) := by decide +kernel
theorem dX4_pulpOf_5 : decode cX4_pulpOf 5 = .ok (.ifCond .eq 12, 3) := by decide +kernel
theorem dX4_pulpOf_8 : decode cX4_pulpOf 8 = .ok (.aload_n 0, 1) := by decide +kernel
theorem dX4_pulpOf_9 : decode cX4_pulpOf 9 = .ok (.getfield 9, 3) := by decide +kernel
theorem dX4_pulpOf_12 : decode cX4_pulpOf 12 = .ok (.iload_n 1, 1) := by decide +kernel
theorem dX4_pulpOf_13 : decode cX4_pulpOf 13 = .ok (.iaload, 1) := by decide +kernel
theorem dX4_pulpOf_14 : decode cX4_pulpOf 14 = .ok (.goto 4, 3) := by decide +kernel
theorem dX4_pulpOf_17 : decode cX4_pulpOf 17 = .ok (.iconst 0, 1) := by decide +kernel
theorem dX4_pulpOf_18 : decode cX4_pulpOf 18 = .ok (.ireturn, 1) := by decide +kernel
set_option maxRecDepth 20000 in
theorem ggX4_beatOf_X5_isBelow : GoodIn wsX4_beatOf wsX5_isBelow := goodIn_r _ [4] (by decide +kernel) (by decide +kernel)
set_option maxRecDepth 20000 in
theorem gX4_beatOf_X5_isBelow_n33 : GoodIn wsX4_beatOf (wsX5_isBelow) := ggX4_beatOf_X5_isBelow
theorem dX4_beatOf_0 : decode cX4_beatOf 0 = .ok (.iload_n 1, 1) := by decide +kernel
theorem dX4_beatOf_1 : decode cX4_beatOf 1 = .ok (.iconst 4, 1) := by decide +kernel
theorem dX4_beatOf_2 : decode cX4_beatOf 2 = .ok (.invokestatic 33, 3) := by decide +kernel
theorem dX4_beatOf_5 : decode cX4_beatOf 5 = .ok (.ifCond .eq 12, 3) := by decide +kernel
theorem dX4_beatOf_8 : decode cX4_beatOf 8 = .ok (.aload_n 0, 1) := by decide +kernel
theorem dX4_beatOf_9 : decode cX4_beatOf 9 = .ok (.getfield 15, 3) := by decide +kernel
theorem dX4_beatOf_12 : decode cX4_beatOf 12 = .ok (.iload_n 1, 1) := by decide +kernel
theorem dX4_beatOf_13 : decode cX4_beatOf 13 = .ok (.iaload, 1) := by decide +kernel
theorem dX4_beatOf_14 : decode cX4_beatOf 14 = .ok (.goto 4, 3) := by decide +kernel
theorem dX4_beatOf_17 : decode cX4_beatOf 17 = .ok (.iconst 0, 1) := by decide +kernel
theorem dX4_beatOf_18 : decode cX4_beatOf 18 = .ok (.ireturn, 1) := by decide +kernel
set_option maxRecDepth 20000 in
theorem ggX4_sortOf_X5_isBelow : GoodIn wsX4_sortOf wsX5_isBelow := goodIn_r _ [4] (by decide +kernel) (by decide +kernel)
set_option maxRecDepth 20000 in
theorem gX4_sortOf_X5_isBelow_n33 : GoodIn wsX4_sortOf (wsX5_isBelow) := ggX4_sortOf_X5_isBelow
theorem dX4_sortOf_0 : decode cX4_sortOf 0 = .ok (.iload_n 1, 1) := by decide +kernel
theorem dX4_sortOf_1 : decode cX4_sortOf 1 = .ok (.iconst 4, 1) := by decide +kernel
theorem dX4_sortOf_2 : decode cX4_sortOf 2 = .ok (.invokestatic 33, 3) := by decide +kernel
theorem dX4_sortOf_5 : decode cX4_sortOf 5 = .ok (.ifCond .eq 12, 3) := by decide +kernel
theorem dX4_sortOf_8 : decode cX4_sortOf 8 = .ok (.aload_n 0, 1) := by decide +kernel
theorem dX4_sortOf_9 : decode cX4_sortOf 9 = .ok (.getfield 18, 3) := by decide +kernel
theorem dX4_sortOf_12 : decode cX4_sortOf 12 = .ok (.iload_n 1, 1) := by decide +kernel
theorem dX4_sortOf_13 : decode cX4_sortOf 13 = .ok (.iaload, 1) := by decide +kernel
theorem dX4_sortOf_14 : decode cX4_sortOf 14 = .ok (.goto 4, 3) := by decide +kernel
theorem dX4_sortOf_17 : decode cX4_sortOf 17 = .ok (.iconst (-1), 1) := by decide +kernel
theorem dX4_sortOf_18 : decode cX4_sortOf 18 = .ok (.ireturn, 1) := by decide +kernel
set_option maxRecDepth 20000 in
theorem ggX4_tell_X4_pulpOf : GoodIn wsX4_tell wsX4_pulpOf := goodIn_r _ [5, 6, 7, 8, 9, 20, 21, 22] (by decide +kernel) (by decide +kernel)
set_option maxRecDepth 20000 in
theorem gX4_tell_X4_pulpOf : GoodIn wsX4_tell (wsV RX4 37 RX4 yX4_pulpOf wsX4_pulpOf) := goodIn_app (goodIn_of _ (by decide +kernel)) ggX4_tell_X4_pulpOf
set_option maxRecDepth 20000 in
theorem ggX4_tell_X4_beatOf : GoodIn wsX4_tell wsX4_beatOf := goodIn_r _ [13, 14, 7, 8, 9, 20, 21, 22] (by decide +kernel) (by decide +kernel)
set_option maxRecDepth 20000 in
theorem gX4_tell_X4_beatOf : GoodIn wsX4_tell (wsV RX4 41 RX4 yX4_beatOf wsX4_beatOf) := goodIn_app (goodIn_of _ (by decide +kernel)) ggX4_tell_X4_beatOf
set_option maxRecDepth 20000 in
theorem ggX4_tell_X4_sortOf : GoodIn wsX4_tell wsX4_sortOf := goodIn_r _ [18, 19, 7, 8, 9, 20, 21, 22] (by decide +kernel) (by decide +kernel)
set_option maxRecDepth 20000 in
theorem gX4_tell_X4_sortOf : GoodIn wsX4_tell (wsV RX4 44 RX4 yX4_sortOf wsX4_sortOf) := goodIn_app (goodIn_of _ (by decide +kernel)) ggX4_tell_X4_sortOf
theorem dX4_tell_0 : decode cX4_tell 0 = .ok (.iload_n 2, 1) := by decide +kernel
theorem dX4_tell_1 : decode cX4_tell 1 = .ok (.lookupswitch 39 #[(0, 27), (1, 33)], 27) := by decide +kernel
theorem dX4_tell_28 : decode cX4_tell 28 = .ok (.aload_n 0, 1) := by decide +kernel
theorem dX4_tell_29 : decode cX4_tell 29 = .ok (.iload_n 1, 1) := by decide +kernel
theorem dX4_tell_30 : decode cX4_tell 30 = .ok (.invokevirtual 37, 3) := by decide +kernel
theorem dX4_tell_33 : decode cX4_tell 33 = .ok (.ireturn, 1) := by decide +kernel
theorem dX4_tell_34 : decode cX4_tell 34 = .ok (.aload_n 0, 1) := by decide +kernel
theorem dX4_tell_35 : decode cX4_tell 35 = .ok (.iload_n 1, 1) := by decide +kernel
theorem dX4_tell_36 : decode cX4_tell 36 = .ok (.invokevirtual 41, 3) := by decide +kernel
theorem dX4_tell_39 : decode cX4_tell 39 = .ok (.ireturn, 1) := by decide +kernel
theorem dX4_tell_40 : decode cX4_tell 40 = .ok (.aload_n 0, 1) := by decide +kernel
theorem dX4_tell_41 : decode cX4_tell 41 = .ok (.iload_n 1, 1) := by decide +kernel
theorem dX4_tell_42 : decode cX4_tell 42 = .ok (.invokevirtual 44, 3) := by decide +kernel
theorem dX4_tell_45 : decode cX4_tell 45 = .ok (.ireturn, 1) := by decide +kernel
set_option maxRecDepth 20000 in
theorem ggX4_charge_X5_isBelow : GoodIn wsX4_charge wsX5_isBelow := goodIn_r _ [6] (by decide +kernel) (by decide +kernel)
set_option maxRecDepth 20000 in
theorem gX4_charge_X5_isBelow_n33 : GoodIn wsX4_charge (wsX5_isBelow) := ggX4_charge_X5_isBelow
theorem dX4_charge_0 : decode cX4_charge 0 = .ok (.iload_n 1, 1) := by decide +kernel
theorem dX4_charge_1 : decode cX4_charge 1 = .ok (.iconst 4, 1) := by decide +kernel
theorem dX4_charge_2 : decode cX4_charge 2 = .ok (.invokestatic 33, 3) := by decide +kernel
theorem dX4_charge_5 : decode cX4_charge 5 = .ok (.ifCond .eq 24, 3) := by decide +kernel
theorem dX4_charge_8 : decode cX4_charge 8 = .ok (.aload_n 0, 1) := by decide +kernel
theorem dX4_charge_9 : decode cX4_charge 9 = .ok (.getfield 9, 3) := by decide +kernel
theorem dX4_charge_12 : decode cX4_charge 12 = .ok (.iload_n 1, 1) := by decide +kernel
theorem dX4_charge_13 : decode cX4_charge 13 = .ok (.iload_n 3, 1) := by decide +kernel
theorem dX4_charge_14 : decode cX4_charge 14 = .ok (.iastore, 1) := by decide +kernel
theorem dX4_charge_15 : decode cX4_charge 15 = .ok (.aload_n 0, 1) := by decide +kernel
theorem dX4_charge_16 : decode cX4_charge 16 = .ok (.getfield 15, 3) := by decide +kernel
theorem dX4_charge_19 : decode cX4_charge 19 = .ok (.iload_n 1, 1) := by decide +kernel
theorem dX4_charge_20 : decode cX4_charge 20 = .ok (.iconst 0, 1) := by decide +kernel
theorem dX4_charge_21 : decode cX4_charge 21 = .ok (.iastore, 1) := by decide +kernel
theorem dX4_charge_22 : decode cX4_charge 22 = .ok (.aload_n 0, 1) := by decide +kernel
theorem dX4_charge_23 : decode cX4_charge 23 = .ok (.getfield 18, 3) := by decide +kernel
theorem dX4_charge_26 : decode cX4_charge 26 = .ok (.iload_n 1, 1) := by decide +kernel
theorem dX4_charge_27 : decode cX4_charge 27 = .ok (.iload_n 2, 1) := by decide +kernel
theorem dX4_charge_28 : decode cX4_charge 28 = .ok (.iastore, 1) := by decide +kernel
theorem dX4_charge_29 : decode cX4_charge 29 = .ok (.return_, 1) := by decide +kernel
set_option maxRecDepth 20000 in
theorem ggX4_takeOut_X5_isBelow : GoodIn wsX4_takeOut wsX5_isBelow := goodIn_r _ [4] (by decide +kernel) (by decide +kernel)
set_option maxRecDepth 20000 in
theorem gX4_takeOut_X5_isBelow_n33 : GoodIn wsX4_takeOut (wsX5_isBelow) := ggX4_takeOut_X5_isBelow
set_option maxRecDepth 20000 in
theorem ggX4_takeOut_X4_charge : GoodIn wsX4_takeOut wsX4_charge := goodIn_r _ [9, 1, 10, 11, 2, 3, 4, 12, 13, 14] (by decide +kernel) (by decide +kernel)
set_option maxRecDepth 20000 in
theorem gX4_takeOut_X4_charge : GoodIn wsX4_takeOut (wsV RX4 47 RX4 yX4_charge wsX4_charge) := goodIn_app (goodIn_of _ (by decide +kernel)) ggX4_takeOut_X4_charge
theorem dX4_takeOut_0 : decode cX4_takeOut 0 = .ok (.iload_n 1, 1) := by decide +kernel
theorem dX4_takeOut_1 : decode cX4_takeOut 1 = .ok (.iconst 4, 1) := by decide +kernel
theorem dX4_takeOut_2 : decode cX4_takeOut 2 = .ok (.invokestatic 33, 3) := by decide +kernel
theorem dX4_takeOut_5 : decode cX4_takeOut 5 = .ok (.ifCond .ne 4, 3) := by decide +kernel
theorem dX4_takeOut_8 : decode cX4_takeOut 8 = .ok (.return_, 1) := by decide +kernel
theorem dX4_takeOut_9 : decode cX4_takeOut 9 = .ok (.aload_n 0, 1) := by decide +kernel
theorem dX4_takeOut_10 : decode cX4_takeOut 10 = .ok (.getfield 9, 3) := by decide +kernel
theorem dX4_takeOut_13 : decode cX4_takeOut 13 = .ok (.iload_n 1, 1) := by decide +kernel
theorem dX4_takeOut_14 : decode cX4_takeOut 14 = .ok (.dup2, 1) := by decide +kernel
theorem dX4_takeOut_15 : decode cX4_takeOut 15 = .ok (.iaload, 1) := by decide +kernel
theorem dX4_takeOut_16 : decode cX4_takeOut 16 = .ok (.iload_n 2, 1) := by decide +kernel
theorem dX4_takeOut_17 : decode cX4_takeOut 17 = .ok (.isub, 1) := by decide +kernel
theorem dX4_takeOut_18 : decode cX4_takeOut 18 = .ok (.iastore, 1) := by decide +kernel
theorem dX4_takeOut_19 : decode cX4_takeOut 19 = .ok (.aload_n 0, 1) := by decide +kernel
theorem dX4_takeOut_20 : decode cX4_takeOut 20 = .ok (.getfield 9, 3) := by decide +kernel
theorem dX4_takeOut_23 : decode cX4_takeOut 23 = .ok (.iload_n 1, 1) := by decide +kernel
theorem dX4_takeOut_24 : decode cX4_takeOut 24 = .ok (.iaload, 1) := by decide +kernel
theorem dX4_takeOut_25 : decode cX4_takeOut 25 = .ok (.ifCond .gt 10, 3) := by decide +kernel
theorem dX4_takeOut_28 : decode cX4_takeOut 28 = .ok (.aload_n 0, 1) := by decide +kernel
theorem dX4_takeOut_29 : decode cX4_takeOut 29 = .ok (.iload_n 1, 1) := by decide +kernel
theorem dX4_takeOut_30 : decode cX4_takeOut 30 = .ok (.iconst (-1), 1) := by decide +kernel
theorem dX4_takeOut_31 : decode cX4_takeOut 31 = .ok (.iconst 0, 1) := by decide +kernel
theorem dX4_takeOut_32 : decode cX4_takeOut 32 = .ok (.invokevirtual 47, 3) := by decide +kernel
theorem dX4_takeOut_35 : decode cX4_takeOut 35 = .ok (.return_, 1) := by decide +kernel
theorem dX4_allPulp_0 : decode cX4_allPulp 0 = .ok (.iconst 0, 1) := by decide +kernel
theorem dX4_allPulp_1 : decode cX4_allPulp 1 = .ok (.istore_n 1, 1) := by decide +kernel
theorem dX4_allPulp_2 : decode cX4_allPulp 2 = .ok (.iconst 0, 1) := by decide +kernel
theorem dX4_allPulp_3 : decode cX4_allPulp 3 = .ok (.istore_n 2, 1) := by decide +kernel
theorem dX4_allPulp_4 : decode cX4_allPulp 4 = .ok (.iload_n 2, 1) := by decide +kernel
theorem dX4_allPulp_5 : decode cX4_allPulp 5 = .ok (.iconst 4, 1) := by decide +kernel
theorem dX4_allPulp_6 : decode cX4_allPulp 6 = .ok (.if_icmp .ge 18, 3) := by decide +kernel
theorem dX4_allPulp_9 : decode cX4_allPulp 9 = .ok (.iload_n 1, 1) := by decide +kernel
theorem dX4_allPulp_10 : decode cX4_allPulp 10 = .ok (.aload_n 0, 1) := by decide +kernel
theorem dX4_allPulp_11 : decode cX4_allPulp 11 = .ok (.getfield 9, 3) := by decide +kernel
theorem dX4_allPulp_14 : decode cX4_allPulp 14 = .ok (.iload_n 2, 1) := by decide +kernel
theorem dX4_allPulp_15 : decode cX4_allPulp 15 = .ok (.iaload, 1) := by decide +kernel
theorem dX4_allPulp_16 : decode cX4_allPulp 16 = .ok (.iadd, 1) := by decide +kernel
theorem dX4_allPulp_17 : decode cX4_allPulp 17 = .ok (.istore_n 1, 1) := by decide +kernel
theorem dX4_allPulp_18 : decode cX4_allPulp 18 = .ok (.iinc 2 1, 3) := by decide +kernel
theorem dX4_allPulp_21 : decode cX4_allPulp 21 = .ok (.goto (-17), 3) := by decide +kernel
theorem dX4_allPulp_24 : decode cX4_allPulp 24 = .ok (.iload_n 1, 1) := by decide +kernel
theorem dX4_allPulp_25 : decode cX4_allPulp 25 = .ok (.ireturn, 1) := by decide +kernel
set_option maxRecDepth 20000 in
theorem ggX4_beatAll_X4_numberWithPulp : GoodIn wsX4_beatAll wsX4_numberWithPulp := goodIn_r _ [11, 1, 12, 13, 14] (by decide +kernel) (by decide +kernel)
set_option maxRecDepth 20000 in
theorem gX4_beatAll_X4_numberWithPulp : GoodIn wsX4_beatAll (wsV RX4 51 RX4 yX4_numberWithPulp wsX4_numberWithPulp) := goodIn_app (goodIn_of _ (by decide +kernel)) ggX4_beatAll_X4_numberWithPulp
theorem dX4_beatAll_0 : decode cX4_beatAll 0 = .ok (.aload_n 0, 1) := by decide +kernel
theorem dX4_beatAll_1 : decode cX4_beatAll 1 = .ok (.invokevirtual 51, 3) := by decide +kernel
theorem dX4_beatAll_4 : decode cX4_beatAll 4 = .ok (.istore_n 2, 1) := by decide +kernel
theorem dX4_beatAll_5 : decode cX4_beatAll 5 = .ok (.iload_n 2, 1) := by decide +kernel
theorem dX4_beatAll_6 : decode cX4_beatAll 6 = .ok (.ifCond .ne 4, 3) := by decide +kernel
theorem dX4_beatAll_9 : decode cX4_beatAll 9 = .ok (.return_, 1) := by decide +kernel
theorem dX4_beatAll_10 : decode cX4_beatAll 10 = .ok (.iconst 3, 1) := by decide +kernel
theorem dX4_beatAll_11 : decode cX4_beatAll 11 = .ok (.iload_n 1, 1) := by decide +kernel
theorem dX4_beatAll_12 : decode cX4_beatAll 12 = .ok (.imul, 1) := by decide +kernel
theorem dX4_beatAll_13 : decode cX4_beatAll 13 = .ok (.iload_n 2, 1) := by decide +kernel
theorem dX4_beatAll_14 : decode cX4_beatAll 14 = .ok (.idiv, 1) := by decide +kernel
theorem dX4_beatAll_15 : decode cX4_beatAll 15 = .ok (.istore_n 3, 1) := by decide +kernel
theorem dX4_beatAll_16 : decode cX4_beatAll 16 = .ok (.iconst 0, 1) := by decide +kernel
theorem dX4_beatAll_17 : decode cX4_beatAll 17 = .ok (.istore 4, 2) := by decide +kernel
theorem dX4_beatAll_19 : decode cX4_beatAll 19 = .ok (.iload 4, 2) := by decide +kernel
theorem dX4_beatAll_21 : decode cX4_beatAll 21 = .ok (.iconst 4, 1) := by decide +kernel
theorem dX4_beatAll_22 : decode cX4_beatAll 22 = .ok (.if_icmp .ge 40, 3) := by decide +kernel
theorem dX4_beatAll_25 : decode cX4_beatAll 25 = .ok (.aload_n 0, 1) := by decide +kernel
theorem dX4_beatAll_26 : decode cX4_beatAll 26 = .ok (.getfield 9, 3) := by decide +kernel
theorem dX4_beatAll_29 : decode cX4_beatAll 29 = .ok (.iload 4, 2) := by decide +kernel
theorem dX4_beatAll_31 : decode cX4_beatAll 31 = .ok (.iaload, 1) := by decide +kernel
theorem dX4_beatAll_32 : decode cX4_beatAll 32 = .ok (.ifCond .le 24, 3) := by decide +kernel
theorem dX4_beatAll_35 : decode cX4_beatAll 35 = .ok (.aload_n 0, 1) := by decide +kernel
theorem dX4_beatAll_36 : decode cX4_beatAll 36 = .ok (.getfield 15, 3) := by decide +kernel
theorem dX4_beatAll_39 : decode cX4_beatAll 39 = .ok (.iload 4, 2) := by decide +kernel
theorem dX4_beatAll_41 : decode cX4_beatAll 41 = .ok (.bipush 99, 2) := by decide +kernel
theorem dX4_beatAll_43 : decode cX4_beatAll 43 = .ok (.aload_n 0, 1) := by decide +kernel
theorem dX4_beatAll_44 : decode cX4_beatAll 44 = .ok (.getfield 15, 3) := by decide +kernel
theorem dX4_beatAll_47 : decode cX4_beatAll 47 = .ok (.iload 4, 2) := by decide +kernel
theorem dX4_beatAll_49 : decode cX4_beatAll 49 = .ok (.iaload, 1) := by decide +kernel
theorem dX4_beatAll_50 : decode cX4_beatAll 50 = .ok (.iload_n 3, 1) := by decide +kernel
theorem dX4_beatAll_51 : decode cX4_beatAll 51 = .ok (.iadd, 1) := by decide +kernel
theorem dX4_beatAll_52 : decode cX4_beatAll 52 = .ok (.invokestatic 55, 3) := by decide +kernel
theorem dX4_beatAll_55 : decode cX4_beatAll 55 = .ok (.iastore, 1) := by decide +kernel
theorem dX4_beatAll_56 : decode cX4_beatAll 56 = .ok (.iinc 4 1, 3) := by decide +kernel
theorem dX4_beatAll_59 : decode cX4_beatAll 59 = .ok (.goto (-40), 3) := by decide +kernel
theorem dX4_beatAll_62 : decode cX4_beatAll 62 = .ok (.return_, 1) := by decide +kernel
theorem dX4_numberWithPulp_0 : decode cX4_numberWithPulp 0 = .ok (.iconst 0, 1) := by decide +kernel
theorem dX4_numberWithPulp_1 : decode cX4_numberWithPulp 1 = .ok (.istore_n 1, 1) := by decide +kernel
theorem dX4_numberWithPulp_2 : decode cX4_numberWithPulp 2 = .ok (.iconst 0, 1) := by decide +kernel
theorem dX4_numberWithPulp_3 : decode cX4_numberWithPulp 3 = .ok (.istore_n 2, 1) := by decide +kernel
theorem dX4_numberWithPulp_4 : decode cX4_numberWithPulp 4 = .ok (.iload_n 2, 1) := by decide +kernel
theorem dX4_numberWithPulp_5 : decode cX4_numberWithPulp 5 = .ok (.iconst 4, 1) := by decide +kernel
theorem dX4_numberWithPulp_6 : decode cX4_numberWithPulp 6 = .ok (.if_icmp .ge 21, 3) := by decide +kernel
theorem dX4_numberWithPulp_9 : decode cX4_numberWithPulp 9 = .ok (.aload_n 0, 1) := by decide +kernel
theorem dX4_numberWithPulp_10 : decode cX4_numberWithPulp 10 = .ok (.getfield 9, 3) := by decide +kernel
theorem dX4_numberWithPulp_13 : decode cX4_numberWithPulp 13 = .ok (.iload_n 2, 1) := by decide +kernel
theorem dX4_numberWithPulp_14 : decode cX4_numberWithPulp 14 = .ok (.iaload, 1) := by decide +kernel
theorem dX4_numberWithPulp_15 : decode cX4_numberWithPulp 15 = .ok (.ifCond .le 6, 3) := by decide +kernel
theorem dX4_numberWithPulp_18 : decode cX4_numberWithPulp 18 = .ok (.iinc 1 1, 3) := by decide +kernel
theorem dX4_numberWithPulp_21 : decode cX4_numberWithPulp 21 = .ok (.iinc 2 1, 3) := by decide +kernel
theorem dX4_numberWithPulp_24 : decode cX4_numberWithPulp 24 = .ok (.goto (-20), 3) := by decide +kernel
theorem dX4_numberWithPulp_27 : decode cX4_numberWithPulp 27 = .ok (.iload_n 1, 1) := by decide +kernel
theorem dX4_numberWithPulp_28 : decode cX4_numberWithPulp 28 = .ok (.ireturn, 1) := by decide +kernel
theorem nmX5 : ∀ a, a < 2 → ∀ b, b < 2 → a ≠ b → (TX5 a).2.1 ≠ (TX5 b).2.1 := by decide +kernel
theorem tyX5_ok : ∀ k, k < 2 → parseFieldDescriptor (TX5 k).2.2.1 = some (tyX5 k) := by decide +kernel
theorem inlX5 : ∀ w ∈ wsX50, w ∈ wsL_law := fun _ h => List.mem_append_left _ (List.mem_append_left _ (List.mem_append_left _ (List.mem_append_left _ (List.mem_append_left _ (List.mem_append_left _ (List.mem_append_left _ (List.mem_append_left _ (List.mem_append_left _ (List.mem_append_left _ (List.mem_append_right _ h))))))))))
set_option maxRecDepth 20000 in
theorem ggX5_init_X0_init : GoodIn wsX5_init wsX0_init := goodIn_r _ [11, 12, 2, 3, 13, 14, 15, 16, 17, 18, 19, 20, 21, 22, 23, 24, 25, 26, 27, 28, 29, 30, 31, 32, 33, 34, 35, 36, 37, 38, 39, 40, 41, 42, 43, 44, 45, 46, 47, 48, 49, 50, 51, 52, 53, 54, 55, 56, 57, 58, 59, 60, 61, 62, 63, 64, 65, 66, 67, 68, 69, 70, 71, 72, 73, 74, 75, 76, 77, 78, 79, 80, 81, 82, 83, 86, 87, 88, 89, 90, 91, 92, 93, 94, 95, 96, 97, 98, 99, 100, 101] (by decide +kernel) (by decide +kernel)
set_option maxRecDepth 20000 in
theorem gX5_init_X0_init : GoodIn wsX5_init (wsX0_init) := ggX5_init_X0_init
theorem dX5_init_0 : decode cX5_init 0 = .ok (.aload_n 0, 1) := by decide +kernel
theorem dX5_init_1 : decode cX5_init 1 = .ok (.invokespecial 1, 3) := by decide +kernel
theorem dX5_init_4 : decode cX5_init 4 = .ok (.aload_n 0, 1) := by decide +kernel
theorem dX5_init_5 : decode cX5_init 5 = .ok (.new 7, 3) := by decide +kernel
theorem dX5_init_8 : decode cX5_init 8 = .ok (.dup, 1) := by decide +kernel
theorem dX5_init_9 : decode cX5_init 9 = .ok (.invokespecial 9, 3) := by decide +kernel
theorem dX5_init_12 : decode cX5_init 12 = .ok (.putfield 10, 3) := by decide +kernel
theorem dX5_init_15 : decode cX5_init 15 = .ok (.aload_n 0, 1) := by decide +kernel
theorem dX5_init_16 : decode cX5_init 16 = .ok (.new 7, 3) := by decide +kernel
theorem dX5_init_19 : decode cX5_init 19 = .ok (.dup, 1) := by decide +kernel
theorem dX5_init_20 : decode cX5_init 20 = .ok (.invokespecial 9, 3) := by decide +kernel
theorem dX5_init_23 : decode cX5_init 23 = .ok (.putfield 16, 3) := by decide +kernel
theorem dX5_init_26 : decode cX5_init 26 = .ok (.return_, 1) := by decide +kernel
set_option maxRecDepth 20000 in
theorem ggX5_buy_X5_isBelow : GoodIn wsX5_buy wsX5_isBelow := goodIn_r _ [12] (by decide +kernel) (by decide +kernel)
set_option maxRecDepth 20000 in
theorem gX5_buy_X5_isBelow : GoodIn wsX5_buy (va_wsS RX5 19 yX5_isBelow wsX5_isBelow) := goodIn_app (goodIn_of _ (by decide +kernel)) ggX5_buy_X5_isBelow
set_option maxRecDepth 20000 in
theorem ggX5_buy_X5_isFrom1To : GoodIn wsX5_buy wsX5_isFrom1To := goodIn_r _ [15] (by decide +kernel) (by decide +kernel)
set_option maxRecDepth 20000 in
theorem gX5_buy_X5_isFrom1To : GoodIn wsX5_buy (va_wsS RX5 30 yX5_isFrom1To wsX5_isFrom1To) := goodIn_app (goodIn_of _ (by decide +kernel)) ggX5_buy_X5_isFrom1To
set_option maxRecDepth 20000 in
theorem ggX5_buy_X0_takeIn : GoodIn wsX5_buy wsX0_takeIn := goodIn_r _ [20, 21, 22, 10, 11, 12, 25, 26, 27, 28, 29, 30, 31, 32, 33, 34, 35, 36] (by decide +kernel) (by decide +kernel)
set_option maxRecDepth 20000 in
theorem gX5_buy_X0_takeIn : GoodIn wsX5_buy (wsV RX5 56 RX0 yX0_takeIn wsX0_takeIn) := goodIn_app (goodIn_of _ (by decide +kernel)) ggX5_buy_X0_takeIn
theorem dX5_buy_0 : decode cX5_buy 0 = .ok (.iload_n 1, 1) := by decide +kernel
theorem dX5_buy_1 : decode cX5_buy 1 = .ok (.iconst 4, 1) := by decide +kernel
theorem dX5_buy_2 : decode cX5_buy 2 = .ok (.invokestatic 19, 3) := by decide +kernel
theorem dX5_buy_5 : decode cX5_buy 5 = .ok (.ifCond .ne 13, 3) := by decide +kernel
theorem dX5_buy_8 : decode cX5_buy 8 = .ok (.new 23, 3) := by decide +kernel
theorem dX5_buy_11 : decode cX5_buy 11 = .ok (.dup, 1) := by decide +kernel
theorem dX5_buy_12 : decode cX5_buy 12 = .ok (.ldc 25, 2) := by decide +kernel
theorem dX5_buy_14 : decode cX5_buy 14 = .ok (.invokespecial 27, 3) := by decide +kernel
theorem dX5_buy_17 : decode cX5_buy 17 = .ok (.athrow, 1) := by decide +kernel
theorem dX5_buy_18 : decode cX5_buy 18 = .ok (.iload_n 2, 1) := by decide +kernel
theorem dX5_buy_19 : decode cX5_buy 19 = .ok (.bipush 99, 2) := by decide +kernel
theorem dX5_buy_21 : decode cX5_buy 21 = .ok (.invokestatic 30, 3) := by decide +kernel
theorem dX5_buy_24 : decode cX5_buy 24 = .ok (.ifCond .ne 13, 3) := by decide +kernel
theorem dX5_buy_27 : decode cX5_buy 27 = .ok (.new 33, 3) := by decide +kernel
theorem dX5_buy_30 : decode cX5_buy 30 = .ok (.dup, 1) := by decide +kernel
theorem dX5_buy_31 : decode cX5_buy 31 = .ok (.ldc 35, 2) := by decide +kernel
theorem dX5_buy_33 : decode cX5_buy 33 = .ok (.invokespecial 37, 3) := by decide +kernel
theorem dX5_buy_36 : decode cX5_buy 36 = .ok (.athrow, 1) := by decide +kernel
theorem dX5_buy_37 : decode cX5_buy 37 = .ok (.getstatic 38, 3) := by decide +kernel
theorem dX5_buy_40 : decode cX5_buy 40 = .ok (.iload_n 1, 1) := by decide +kernel
theorem dX5_buy_41 : decode cX5_buy 41 = .ok (.iaload, 1) := by decide +kernel
theorem dX5_buy_42 : decode cX5_buy 42 = .ok (.iload_n 2, 1) := by decide +kernel
theorem dX5_buy_43 : decode cX5_buy 43 = .ok (.imul, 1) := by decide +kernel
theorem dX5_buy_44 : decode cX5_buy 44 = .ok (.istore_n 3, 1) := by decide +kernel
theorem dX5_buy_45 : decode cX5_buy 45 = .ok (.aload_n 0, 1) := by decide +kernel
theorem dX5_buy_46 : decode cX5_buy 46 = .ok (.getfield 10, 3) := by decide +kernel
theorem dX5_buy_49 : decode cX5_buy 49 = .ok (.getfield 42, 3) := by decide +kernel
theorem dX5_buy_52 : decode cX5_buy 52 = .ok (.iload_n 3, 1) := by decide +kernel
theorem dX5_buy_53 : decode cX5_buy 53 = .ok (.if_icmp .ge 13, 3) := by decide +kernel
theorem dX5_buy_56 : decode cX5_buy 56 = .ok (.new 46, 3) := by decide +kernel
theorem dX5_buy_59 : decode cX5_buy 59 = .ok (.dup, 1) := by decide +kernel
theorem dX5_buy_60 : decode cX5_buy 60 = .ok (.ldc 48, 2) := by decide +kernel
theorem dX5_buy_62 : decode cX5_buy 62 = .ok (.invokespecial 50, 3) := by decide +kernel
theorem dX5_buy_65 : decode cX5_buy 65 = .ok (.athrow, 1) := by decide +kernel
theorem dX5_buy_66 : decode cX5_buy 66 = .ok (.iload_n 1, 1) := by decide +kernel
theorem dX5_buy_67 : decode cX5_buy 67 = .ok (.iconst 3, 1) := by decide +kernel
theorem dX5_buy_68 : decode cX5_buy 68 = .ok (.if_icmp .ne 27, 3) := by decide +kernel
theorem dX5_buy_71 : decode cX5_buy 71 = .ok (.aload_n 0, 1) := by decide +kernel
theorem dX5_buy_72 : decode cX5_buy 72 = .ok (.getfield 10, 3) := by decide +kernel
theorem dX5_buy_75 : decode cX5_buy 75 = .ok (.getfield 51, 3) := by decide +kernel
theorem dX5_buy_78 : decode cX5_buy 78 = .ok (.iload_n 2, 1) := by decide +kernel
theorem dX5_buy_79 : decode cX5_buy 79 = .ok (.iadd, 1) := by decide +kernel
theorem dX5_buy_80 : decode cX5_buy 80 = .ok (.bipush 90, 2) := by decide +kernel
theorem dX5_buy_82 : decode cX5_buy 82 = .ok (.if_icmp .le 13, 3) := by decide +kernel
theorem dX5_buy_85 : decode cX5_buy 85 = .ok (.new 46, 3) := by decide +kernel
theorem dX5_buy_88 : decode cX5_buy 88 = .ok (.dup, 1) := by decide +kernel
theorem dX5_buy_89 : decode cX5_buy 89 = .ok (.ldc 54, 2) := by decide +kernel
theorem dX5_buy_91 : decode cX5_buy 91 = .ok (.invokespecial 50, 3) := by decide +kernel
theorem dX5_buy_94 : decode cX5_buy 94 = .ok (.athrow, 1) := by decide +kernel
theorem dX5_buy_95 : decode cX5_buy 95 = .ok (.aload_n 0, 1) := by decide +kernel
theorem dX5_buy_96 : decode cX5_buy 96 = .ok (.getfield 10, 3) := by decide +kernel
theorem dX5_buy_99 : decode cX5_buy 99 = .ok (.dup, 1) := by decide +kernel
theorem dX5_buy_100 : decode cX5_buy 100 = .ok (.getfield 42, 3) := by decide +kernel
theorem dX5_buy_103 : decode cX5_buy 103 = .ok (.iload_n 3, 1) := by decide +kernel
theorem dX5_buy_104 : decode cX5_buy 104 = .ok (.isub, 1) := by decide +kernel
theorem dX5_buy_105 : decode cX5_buy 105 = .ok (.putfield 42, 3) := by decide +kernel
theorem dX5_buy_108 : decode cX5_buy 108 = .ok (.aload_n 0, 1) := by decide +kernel
theorem dX5_buy_109 : decode cX5_buy 109 = .ok (.getfield 10, 3) := by decide +kernel
theorem dX5_buy_112 : decode cX5_buy 112 = .ok (.iload_n 1, 1) := by decide +kernel
theorem dX5_buy_113 : decode cX5_buy 113 = .ok (.iload_n 2, 1) := by decide +kernel
theorem dX5_buy_114 : decode cX5_buy 114 = .ok (.invokevirtual 56, 3) := by decide +kernel
theorem dX5_buy_117 : decode cX5_buy 117 = .ok (.ireturn, 1) := by decide +kernel
set_option maxRecDepth 20000 in
theorem ggX5_sell_X5_isBelow : GoodIn wsX5_sell wsX5_isBelow := goodIn_r _ [11] (by decide +kernel) (by decide +kernel)
set_option maxRecDepth 20000 in
theorem gX5_sell_X5_isBelow : GoodIn wsX5_sell (va_wsS RX5 19 yX5_isBelow wsX5_isBelow) := goodIn_app (goodIn_of _ (by decide +kernel)) ggX5_sell_X5_isBelow
set_option maxRecDepth 20000 in
theorem ggX5_sell_X5_isFrom1To : GoodIn wsX5_sell wsX5_isFrom1To := goodIn_r _ [14] (by decide +kernel) (by decide +kernel)
set_option maxRecDepth 20000 in
theorem gX5_sell_X5_isFrom1To : GoodIn wsX5_sell (va_wsS RX5 30 yX5_isFrom1To wsX5_isFrom1To) := goodIn_app (goodIn_of _ (by decide +kernel)) ggX5_sell_X5_isFrom1To
set_option maxRecDepth 20000 in
theorem ggX5_sell_X0_hanging : GoodIn wsX5_sell wsX0_hanging := goodIn_r _ [19, 20, 9, 10, 11, 31, 32, 33, 34, 35, 36, 37, 38, 39, 40, 41, 42] (by decide +kernel) (by decide +kernel)
set_option maxRecDepth 20000 in
theorem gX5_sell_X0_hanging : GoodIn wsX5_sell (wsV RX5 64 RX0 yX0_hanging wsX0_hanging) := goodIn_app (goodIn_of _ (by decide +kernel)) ggX5_sell_X0_hanging
set_option maxRecDepth 20000 in
theorem ggX5_sell_X5_worthOf : GoodIn wsX5_sell wsX5_worthOf := goodIn_r _ [23, 24, 8, 9, 10, 11] (by decide +kernel) (by decide +kernel)
set_option maxRecDepth 20000 in
theorem gX5_sell_X5_worthOf : GoodIn wsX5_sell (va_wsS RX5 69 yX5_worthOf wsX5_worthOf) := goodIn_app (goodIn_of _ (by decide +kernel)) ggX5_sell_X5_worthOf
set_option maxRecDepth 20000 in
theorem ggX5_sell_X0_hang : GoodIn wsX5_sell wsX0_hang := goodIn_r _ [28, 20, 9, 10, 11, 31, 32, 33, 34, 35, 36, 37, 38, 39, 40, 41, 42] (by decide +kernel) (by decide +kernel)
set_option maxRecDepth 20000 in
theorem gX5_sell_X0_hang : GoodIn wsX5_sell (wsV RX5 73 RX0 yX0_hang wsX0_hang) := goodIn_app (goodIn_of _ (by decide +kernel)) ggX5_sell_X0_hang
theorem dX5_sell_0 : decode cX5_sell 0 = .ok (.iload_n 1, 1) := by decide +kernel
theorem dX5_sell_1 : decode cX5_sell 1 = .ok (.bipush 10, 2) := by decide +kernel
theorem dX5_sell_3 : decode cX5_sell 3 = .ok (.invokestatic 19, 3) := by decide +kernel
theorem dX5_sell_6 : decode cX5_sell 6 = .ok (.ifCond .eq 11, 3) := by decide +kernel
theorem dX5_sell_9 : decode cX5_sell 9 = .ok (.iload_n 2, 1) := by decide +kernel
theorem dX5_sell_10 : decode cX5_sell 10 = .ok (.iconst 3, 1) := by decide +kernel
theorem dX5_sell_11 : decode cX5_sell 11 = .ok (.invokestatic 19, 3) := by decide +kernel
theorem dX5_sell_14 : decode cX5_sell 14 = .ok (.ifCond .ne 13, 3) := by decide +kernel
theorem dX5_sell_17 : decode cX5_sell 17 = .ok (.new 23, 3) := by decide +kernel
theorem dX5_sell_20 : decode cX5_sell 20 = .ok (.dup, 1) := by decide +kernel
theorem dX5_sell_21 : decode cX5_sell 21 = .ok (.ldc 60, 2) := by decide +kernel
theorem dX5_sell_23 : decode cX5_sell 23 = .ok (.invokespecial 27, 3) := by decide +kernel
theorem dX5_sell_26 : decode cX5_sell 26 = .ok (.athrow, 1) := by decide +kernel
theorem dX5_sell_27 : decode cX5_sell 27 = .ok (.iload_n 3, 1) := by decide +kernel
theorem dX5_sell_28 : decode cX5_sell 28 = .ok (.bipush 9, 2) := by decide +kernel
theorem dX5_sell_30 : decode cX5_sell 30 = .ok (.invokestatic 30, 3) := by decide +kernel
theorem dX5_sell_33 : decode cX5_sell 33 = .ok (.ifCond .ne 13, 3) := by decide +kernel
theorem dX5_sell_36 : decode cX5_sell 36 = .ok (.new 33, 3) := by decide +kernel
theorem dX5_sell_39 : decode cX5_sell 39 = .ok (.dup, 1) := by decide +kernel
theorem dX5_sell_40 : decode cX5_sell 40 = .ok (.ldc 62, 2) := by decide +kernel
theorem dX5_sell_42 : decode cX5_sell 42 = .ok (.invokespecial 37, 3) := by decide +kernel
theorem dX5_sell_45 : decode cX5_sell 45 = .ok (.athrow, 1) := by decide +kernel
theorem dX5_sell_46 : decode cX5_sell 46 = .ok (.iload_n 3, 1) := by decide +kernel
theorem dX5_sell_47 : decode cX5_sell 47 = .ok (.bipush 24, 2) := by decide +kernel
theorem dX5_sell_49 : decode cX5_sell 49 = .ok (.imul, 1) := by decide +kernel
theorem dX5_sell_50 : decode cX5_sell 50 = .ok (.istore 4, 2) := by decide +kernel
theorem dX5_sell_52 : decode cX5_sell 52 = .ok (.aload_n 0, 1) := by decide +kernel
theorem dX5_sell_53 : decode cX5_sell 53 = .ok (.getfield 10, 3) := by decide +kernel
theorem dX5_sell_56 : decode cX5_sell 56 = .ok (.iload_n 1, 1) := by decide +kernel
theorem dX5_sell_57 : decode cX5_sell 57 = .ok (.iload_n 2, 1) := by decide +kernel
theorem dX5_sell_58 : decode cX5_sell 58 = .ok (.invokevirtual 64, 3) := by decide +kernel
theorem dX5_sell_61 : decode cX5_sell 61 = .ok (.iload 4, 2) := by decide +kernel
theorem dX5_sell_63 : decode cX5_sell 63 = .ok (.if_icmp .ge 13, 3) := by decide +kernel
theorem dX5_sell_66 : decode cX5_sell 66 = .ok (.new 46, 3) := by decide +kernel
theorem dX5_sell_69 : decode cX5_sell 69 = .ok (.dup, 1) := by decide +kernel
theorem dX5_sell_70 : decode cX5_sell 70 = .ok (.ldc 67, 2) := by decide +kernel
theorem dX5_sell_72 : decode cX5_sell 72 = .ok (.invokespecial 50, 3) := by decide +kernel
theorem dX5_sell_75 : decode cX5_sell 75 = .ok (.athrow, 1) := by decide +kernel
theorem dX5_sell_76 : decode cX5_sell 76 = .ok (.iload_n 3, 1) := by decide +kernel
theorem dX5_sell_77 : decode cX5_sell 77 = .ok (.iload_n 2, 1) := by decide +kernel
theorem dX5_sell_78 : decode cX5_sell 78 = .ok (.invokestatic 69, 3) := by decide +kernel
theorem dX5_sell_81 : decode cX5_sell 81 = .ok (.imul, 1) := by decide +kernel
theorem dX5_sell_82 : decode cX5_sell 82 = .ok (.istore 5, 2) := by decide +kernel
theorem dX5_sell_84 : decode cX5_sell 84 = .ok (.aload_n 0, 1) := by decide +kernel
theorem dX5_sell_85 : decode cX5_sell 85 = .ok (.getfield 10, 3) := by decide +kernel
theorem dX5_sell_88 : decode cX5_sell 88 = .ok (.iload_n 1, 1) := by decide +kernel
theorem dX5_sell_89 : decode cX5_sell 89 = .ok (.iload_n 2, 1) := by decide +kernel
theorem dX5_sell_90 : decode cX5_sell 90 = .ok (.iload 4, 2) := by decide +kernel
theorem dX5_sell_92 : decode cX5_sell 92 = .ok (.ineg, 1) := by decide +kernel
theorem dX5_sell_93 : decode cX5_sell 93 = .ok (.invokevirtual 73, 3) := by decide +kernel
theorem dX5_sell_96 : decode cX5_sell 96 = .ok (.aload_n 0, 1) := by decide +kernel
theorem dX5_sell_97 : decode cX5_sell 97 = .ok (.getfield 10, 3) := by decide +kernel
theorem dX5_sell_100 : decode cX5_sell 100 = .ok (.dup, 1) := by decide +kernel
theorem dX5_sell_101 : decode cX5_sell 101 = .ok (.getfield 42, 3) := by decide +kernel
theorem dX5_sell_104 : decode cX5_sell 104 = .ok (.iload 5, 2) := by decide +kernel
theorem dX5_sell_106 : decode cX5_sell 106 = .ok (.iadd, 1) := by decide +kernel
theorem dX5_sell_107 : decode cX5_sell 107 = .ok (.putfield 42, 3) := by decide +kernel
theorem dX5_sell_110 : decode cX5_sell 110 = .ok (.iload 5, 2) := by decide +kernel
theorem dX5_sell_112 : decode cX5_sell 112 = .ok (.ireturn, 1) := by decide +kernel
set_option maxRecDepth 20000 in
theorem ggX5_fill_X5_isBelow : GoodIn wsX5_fill wsX5_isBelow := goodIn_r _ [11] (by decide +kernel) (by decide +kernel)
set_option maxRecDepth 20000 in
theorem gX5_fill_X5_isBelow : GoodIn wsX5_fill (va_wsS RX5 19 yX5_isBelow wsX5_isBelow) := goodIn_app (goodIn_of _ (by decide +kernel)) ggX5_fill_X5_isBelow
set_option maxRecDepth 20000 in
theorem ggX5_fill_X5_isFrom1To : GoodIn wsX5_fill wsX5_isFrom1To := goodIn_r _ [14] (by decide +kernel) (by decide +kernel)
set_option maxRecDepth 20000 in
theorem gX5_fill_X5_isFrom1To : GoodIn wsX5_fill (va_wsS RX5 30 yX5_isFrom1To wsX5_isFrom1To) := goodIn_app (goodIn_of _ (by decide +kernel)) ggX5_fill_X5_isFrom1To
set_option maxRecDepth 20000 in
theorem ggX5_fill_X4_pulpOf : GoodIn wsX5_fill wsX4_pulpOf := goodIn_r _ [19, 20, 9, 10, 11, 41, 42, 43] (by decide +kernel) (by decide +kernel)
set_option maxRecDepth 20000 in
theorem gX5_fill_X4_pulpOf : GoodIn wsX5_fill (wsV RX5 85 RX4 yX4_pulpOf wsX4_pulpOf) := goodIn_app (goodIn_of _ (by decide +kernel)) ggX5_fill_X4_pulpOf
set_option maxRecDepth 20000 in
theorem ggX5_fill_X4_charge : GoodIn wsX5_fill wsX4_charge := goodIn_r _ [24, 20, 25, 26, 9, 10, 11, 41, 42, 43] (by decide +kernel) (by decide +kernel)
set_option maxRecDepth 20000 in
theorem gX5_fill_X4_charge : GoodIn wsX5_fill (wsV RX5 97 RX4 yX4_charge wsX4_charge) := goodIn_app (goodIn_of _ (by decide +kernel)) ggX5_fill_X4_charge
theorem dX5_fill_0 : decode cX5_fill 0 = .ok (.iload_n 1, 1) := by decide +kernel
theorem dX5_fill_1 : decode cX5_fill 1 = .ok (.iconst 4, 1) := by decide +kernel
theorem dX5_fill_2 : decode cX5_fill 2 = .ok (.invokestatic 19, 3) := by decide +kernel
theorem dX5_fill_5 : decode cX5_fill 5 = .ok (.ifCond .eq 11, 3) := by decide +kernel
theorem dX5_fill_8 : decode cX5_fill 8 = .ok (.iload_n 2, 1) := by decide +kernel
theorem dX5_fill_9 : decode cX5_fill 9 = .ok (.iconst 3, 1) := by decide +kernel
theorem dX5_fill_10 : decode cX5_fill 10 = .ok (.invokestatic 19, 3) := by decide +kernel
theorem dX5_fill_13 : decode cX5_fill 13 = .ok (.ifCond .ne 13, 3) := by decide +kernel
theorem dX5_fill_16 : decode cX5_fill 16 = .ok (.new 23, 3) := by decide +kernel
theorem dX5_fill_19 : decode cX5_fill 19 = .ok (.dup, 1) := by decide +kernel
theorem dX5_fill_20 : decode cX5_fill 20 = .ok (.ldc 77, 2) := by decide +kernel
theorem dX5_fill_22 : decode cX5_fill 22 = .ok (.invokespecial 27, 3) := by decide +kernel
theorem dX5_fill_25 : decode cX5_fill 25 = .ok (.athrow, 1) := by decide +kernel
theorem dX5_fill_26 : decode cX5_fill 26 = .ok (.iload_n 3, 1) := by decide +kernel
theorem dX5_fill_27 : decode cX5_fill 27 = .ok (.bipush 40, 2) := by decide +kernel
theorem dX5_fill_29 : decode cX5_fill 29 = .ok (.invokestatic 30, 3) := by decide +kernel
theorem dX5_fill_32 : decode cX5_fill 32 = .ok (.ifCond .ne 13, 3) := by decide +kernel
theorem dX5_fill_35 : decode cX5_fill 35 = .ok (.new 33, 3) := by decide +kernel
theorem dX5_fill_38 : decode cX5_fill 38 = .ok (.dup, 1) := by decide +kernel
theorem dX5_fill_39 : decode cX5_fill 39 = .ok (.ldc 79, 2) := by decide +kernel
theorem dX5_fill_41 : decode cX5_fill 41 = .ok (.invokespecial 37, 3) := by decide +kernel
theorem dX5_fill_44 : decode cX5_fill 44 = .ok (.athrow, 1) := by decide +kernel
theorem dX5_fill_45 : decode cX5_fill 45 = .ok (.aload_n 0, 1) := by decide +kernel
theorem dX5_fill_46 : decode cX5_fill 46 = .ok (.getfield 10, 3) := by decide +kernel
theorem dX5_fill_49 : decode cX5_fill 49 = .ok (.getfield 81, 3) := by decide +kernel
theorem dX5_fill_52 : decode cX5_fill 52 = .ok (.iload_n 1, 1) := by decide +kernel
theorem dX5_fill_53 : decode cX5_fill 53 = .ok (.invokevirtual 85, 3) := by decide +kernel
theorem dX5_fill_56 : decode cX5_fill 56 = .ok (.ifCond .le 13, 3) := by decide +kernel
theorem dX5_fill_59 : decode cX5_fill 59 = .ok (.new 46, 3) := by decide +kernel
theorem dX5_fill_62 : decode cX5_fill 62 = .ok (.dup, 1) := by decide +kernel
theorem dX5_fill_63 : decode cX5_fill 63 = .ok (.ldc 90, 2) := by decide +kernel
theorem dX5_fill_65 : decode cX5_fill 65 = .ok (.invokespecial 50, 3) := by decide +kernel
theorem dX5_fill_68 : decode cX5_fill 68 = .ok (.athrow, 1) := by decide +kernel
theorem dX5_fill_69 : decode cX5_fill 69 = .ok (.aload_n 0, 1) := by decide +kernel
theorem dX5_fill_70 : decode cX5_fill 70 = .ok (.getfield 10, 3) := by decide +kernel
theorem dX5_fill_73 : decode cX5_fill 73 = .ok (.getfield 92, 3) := by decide +kernel
theorem dX5_fill_76 : decode cX5_fill 76 = .ok (.iload_n 2, 1) := by decide +kernel
theorem dX5_fill_77 : decode cX5_fill 77 = .ok (.iaload, 1) := by decide +kernel
theorem dX5_fill_78 : decode cX5_fill 78 = .ok (.iload_n 3, 1) := by decide +kernel
theorem dX5_fill_79 : decode cX5_fill 79 = .ok (.if_icmp .ge 13, 3) := by decide +kernel
theorem dX5_fill_82 : decode cX5_fill 82 = .ok (.new 46, 3) := by decide +kernel
theorem dX5_fill_85 : decode cX5_fill 85 = .ok (.dup, 1) := by decide +kernel
theorem dX5_fill_86 : decode cX5_fill 86 = .ok (.ldc 95, 2) := by decide +kernel
theorem dX5_fill_88 : decode cX5_fill 88 = .ok (.invokespecial 50, 3) := by decide +kernel
theorem dX5_fill_91 : decode cX5_fill 91 = .ok (.athrow, 1) := by decide +kernel
theorem dX5_fill_92 : decode cX5_fill 92 = .ok (.aload_n 0, 1) := by decide +kernel
theorem dX5_fill_93 : decode cX5_fill 93 = .ok (.getfield 10, 3) := by decide +kernel
theorem dX5_fill_96 : decode cX5_fill 96 = .ok (.getfield 92, 3) := by decide +kernel
theorem dX5_fill_99 : decode cX5_fill 99 = .ok (.iload_n 2, 1) := by decide +kernel
theorem dX5_fill_100 : decode cX5_fill 100 = .ok (.dup2, 1) := by decide +kernel
theorem dX5_fill_101 : decode cX5_fill 101 = .ok (.iaload, 1) := by decide +kernel
theorem dX5_fill_102 : decode cX5_fill 102 = .ok (.iload_n 3, 1) := by decide +kernel
theorem dX5_fill_103 : decode cX5_fill 103 = .ok (.isub, 1) := by decide +kernel
theorem dX5_fill_104 : decode cX5_fill 104 = .ok (.iastore, 1) := by decide +kernel
theorem dX5_fill_105 : decode cX5_fill 105 = .ok (.aload_n 0, 1) := by decide +kernel
theorem dX5_fill_106 : decode cX5_fill 106 = .ok (.getfield 10, 3) := by decide +kernel
theorem dX5_fill_109 : decode cX5_fill 109 = .ok (.getfield 81, 3) := by decide +kernel
theorem dX5_fill_112 : decode cX5_fill 112 = .ok (.iload_n 1, 1) := by decide +kernel
theorem dX5_fill_113 : decode cX5_fill 113 = .ok (.iload_n 2, 1) := by decide +kernel
theorem dX5_fill_114 : decode cX5_fill 114 = .ok (.iload_n 3, 1) := by decide +kernel
theorem dX5_fill_115 : decode cX5_fill 115 = .ok (.invokevirtual 97, 3) := by decide +kernel
theorem dX5_fill_118 : decode cX5_fill 118 = .ok (.aload_n 0, 1) := by decide +kernel
theorem dX5_fill_119 : decode cX5_fill 119 = .ok (.getfield 10, 3) := by decide +kernel
theorem dX5_fill_122 : decode cX5_fill 122 = .ok (.getfield 92, 3) := by decide +kernel
theorem dX5_fill_125 : decode cX5_fill 125 = .ok (.iload_n 2, 1) := by decide +kernel
theorem dX5_fill_126 : decode cX5_fill 126 = .ok (.iaload, 1) := by decide +kernel
theorem dX5_fill_127 : decode cX5_fill 127 = .ok (.ireturn, 1) := by decide +kernel
set_option maxRecDepth 20000 in
theorem ggX5_drain_X5_isBelow : GoodIn wsX5_drain wsX5_isBelow := goodIn_r _ [9] (by decide +kernel) (by decide +kernel)
set_option maxRecDepth 20000 in
theorem gX5_drain_X5_isBelow : GoodIn wsX5_drain (va_wsS RX5 19 yX5_isBelow wsX5_isBelow) := goodIn_app (goodIn_of _ (by decide +kernel)) ggX5_drain_X5_isBelow
set_option maxRecDepth 20000 in
theorem ggX5_drain_X4_pulpOf : GoodIn wsX5_drain wsX4_pulpOf := goodIn_r _ [14, 15, 7, 8, 9, 40, 41, 42] (by decide +kernel) (by decide +kernel)
set_option maxRecDepth 20000 in
theorem gX5_drain_X4_pulpOf : GoodIn wsX5_drain (wsV RX5 85 RX4 yX4_pulpOf wsX4_pulpOf) := goodIn_app (goodIn_of _ (by decide +kernel)) ggX5_drain_X4_pulpOf
set_option maxRecDepth 20000 in
theorem ggX5_drain_X4_takeOut : GoodIn wsX5_drain wsX4_takeOut := goodIn_r _ [19, 15, 7, 8, 9, 20, 21, 22, 13, 23, 24, 25, 40, 41, 42] (by decide +kernel) (by decide +kernel)
set_option maxRecDepth 20000 in
theorem gX5_drain_X4_takeOut : GoodIn wsX5_drain (wsV RX5 104 RX4 yX4_takeOut wsX4_takeOut) := goodIn_app (goodIn_of _ (by decide +kernel)) ggX5_drain_X4_takeOut
theorem dX5_drain_0 : decode cX5_drain 0 = .ok (.iload_n 1, 1) := by decide +kernel
theorem dX5_drain_1 : decode cX5_drain 1 = .ok (.iconst 4, 1) := by decide +kernel
theorem dX5_drain_2 : decode cX5_drain 2 = .ok (.invokestatic 19, 3) := by decide +kernel
theorem dX5_drain_5 : decode cX5_drain 5 = .ok (.ifCond .ne 13, 3) := by decide +kernel
theorem dX5_drain_8 : decode cX5_drain 8 = .ok (.new 23, 3) := by decide +kernel
theorem dX5_drain_11 : decode cX5_drain 11 = .ok (.dup, 1) := by decide +kernel
theorem dX5_drain_12 : decode cX5_drain 12 = .ok (.ldc 100, 2) := by decide +kernel
theorem dX5_drain_14 : decode cX5_drain 14 = .ok (.invokespecial 27, 3) := by decide +kernel
theorem dX5_drain_17 : decode cX5_drain 17 = .ok (.athrow, 1) := by decide +kernel
theorem dX5_drain_18 : decode cX5_drain 18 = .ok (.aload_n 0, 1) := by decide +kernel
theorem dX5_drain_19 : decode cX5_drain 19 = .ok (.getfield 10, 3) := by decide +kernel
theorem dX5_drain_22 : decode cX5_drain 22 = .ok (.getfield 81, 3) := by decide +kernel
theorem dX5_drain_25 : decode cX5_drain 25 = .ok (.iload_n 1, 1) := by decide +kernel
theorem dX5_drain_26 : decode cX5_drain 26 = .ok (.invokevirtual 85, 3) := by decide +kernel
theorem dX5_drain_29 : decode cX5_drain 29 = .ok (.istore_n 2, 1) := by decide +kernel
theorem dX5_drain_30 : decode cX5_drain 30 = .ok (.iload_n 2, 1) := by decide +kernel
theorem dX5_drain_31 : decode cX5_drain 31 = .ok (.ifCond .ne 13, 3) := by decide +kernel
theorem dX5_drain_34 : decode cX5_drain 34 = .ok (.new 46, 3) := by decide +kernel
theorem dX5_drain_37 : decode cX5_drain 37 = .ok (.dup, 1) := by decide +kernel
theorem dX5_drain_38 : decode cX5_drain 38 = .ok (.ldc 102, 2) := by decide +kernel
theorem dX5_drain_40 : decode cX5_drain 40 = .ok (.invokespecial 50, 3) := by decide +kernel
theorem dX5_drain_43 : decode cX5_drain 43 = .ok (.athrow, 1) := by decide +kernel
theorem dX5_drain_44 : decode cX5_drain 44 = .ok (.aload_n 0, 1) := by decide +kernel
theorem dX5_drain_45 : decode cX5_drain 45 = .ok (.getfield 10, 3) := by decide +kernel
theorem dX5_drain_48 : decode cX5_drain 48 = .ok (.getfield 81, 3) := by decide +kernel
theorem dX5_drain_51 : decode cX5_drain 51 = .ok (.iload_n 1, 1) := by decide +kernel
theorem dX5_drain_52 : decode cX5_drain 52 = .ok (.iload_n 2, 1) := by decide +kernel
theorem dX5_drain_53 : decode cX5_drain 53 = .ok (.invokevirtual 104, 3) := by decide +kernel
theorem dX5_drain_56 : decode cX5_drain 56 = .ok (.iload_n 2, 1) := by decide +kernel
theorem dX5_drain_57 : decode cX5_drain 57 = .ok (.ireturn, 1) := by decide +kernel
set_option maxRecDepth 20000 in
theorem ggX5_pair_X5_isBelow : GoodIn wsX5_pair wsX5_isBelow := goodIn_r _ [11] (by decide +kernel) (by decide +kernel)
set_option maxRecDepth 20000 in
theorem gX5_pair_X5_isBelow : GoodIn wsX5_pair (va_wsS RX5 19 yX5_isBelow wsX5_isBelow) := goodIn_app (goodIn_of _ (by decide +kernel)) ggX5_pair_X5_isBelow
set_option maxRecDepth 20000 in
theorem ggX5_pair_X5_isFrom1To : GoodIn wsX5_pair wsX5_isFrom1To := goodIn_r _ [14] (by decide +kernel) (by decide +kernel)
set_option maxRecDepth 20000 in
theorem gX5_pair_X5_isFrom1To : GoodIn wsX5_pair (va_wsS RX5 30 yX5_isFrom1To wsX5_isFrom1To) := goodIn_app (goodIn_of _ (by decide +kernel)) ggX5_pair_X5_isFrom1To
set_option maxRecDepth 20000 in
theorem ggX5_pair_X1_add : GoodIn wsX5_pair wsX1_add := goodIn_r _ [19, 20, 21, 22, 23, 38, 39, 40, 41] (by decide +kernel) (by decide +kernel)
set_option maxRecDepth 20000 in
theorem gX5_pair_X1_add : GoodIn wsX5_pair (wsV RX5 123 RX1 yX1_add wsX1_add) := goodIn_app (goodIn_of _ (by decide +kernel)) ggX5_pair_X1_add
theorem dX5_pair_0 : decode cX5_pair 0 = .ok (.iload_n 1, 1) := by decide +kernel
theorem dX5_pair_1 : decode cX5_pair 1 = .ok (.bipush 10, 2) := by decide +kernel
theorem dX5_pair_3 : decode cX5_pair 3 = .ok (.invokestatic 19, 3) := by decide +kernel
theorem dX5_pair_6 : decode cX5_pair 6 = .ok (.ifCond .ne 13, 3) := by decide +kernel
theorem dX5_pair_9 : decode cX5_pair 9 = .ok (.new 23, 3) := by decide +kernel
theorem dX5_pair_12 : decode cX5_pair 12 = .ok (.dup, 1) := by decide +kernel
theorem dX5_pair_13 : decode cX5_pair 13 = .ok (.ldc 108, 2) := by decide +kernel
theorem dX5_pair_15 : decode cX5_pair 15 = .ok (.invokespecial 27, 3) := by decide +kernel
theorem dX5_pair_18 : decode cX5_pair 18 = .ok (.athrow, 1) := by decide +kernel
theorem dX5_pair_19 : decode cX5_pair 19 = .ok (.iload_n 2, 1) := by decide +kernel
theorem dX5_pair_20 : decode cX5_pair 20 = .ok (.iconst 3, 1) := by decide +kernel
theorem dX5_pair_21 : decode cX5_pair 21 = .ok (.invokestatic 30, 3) := by decide +kernel
theorem dX5_pair_24 : decode cX5_pair 24 = .ok (.ifCond .ne 13, 3) := by decide +kernel
theorem dX5_pair_27 : decode cX5_pair 27 = .ok (.new 33, 3) := by decide +kernel
theorem dX5_pair_30 : decode cX5_pair 30 = .ok (.dup, 1) := by decide +kernel
theorem dX5_pair_31 : decode cX5_pair 31 = .ok (.ldc 110, 2) := by decide +kernel
theorem dX5_pair_33 : decode cX5_pair 33 = .ok (.invokespecial 37, 3) := by decide +kernel
theorem dX5_pair_36 : decode cX5_pair 36 = .ok (.athrow, 1) := by decide +kernel
theorem dX5_pair_37 : decode cX5_pair 37 = .ok (.aload_n 0, 1) := by decide +kernel
theorem dX5_pair_38 : decode cX5_pair 38 = .ok (.getfield 10, 3) := by decide +kernel
theorem dX5_pair_41 : decode cX5_pair 41 = .ok (.getfield 112, 3) := by decide +kernel
theorem dX5_pair_44 : decode cX5_pair 44 = .ok (.getfield 116, 3) := by decide +kernel
theorem dX5_pair_47 : decode cX5_pair 47 = .ok (.iconst 5, 1) := by decide +kernel
theorem dX5_pair_48 : decode cX5_pair 48 = .ok (.if_icmp .lt 13, 3) := by decide +kernel
theorem dX5_pair_51 : decode cX5_pair 51 = .ok (.new 46, 3) := by decide +kernel
theorem dX5_pair_54 : decode cX5_pair 54 = .ok (.dup, 1) := by decide +kernel
theorem dX5_pair_55 : decode cX5_pair 55 = .ok (.ldc 121, 2) := by decide +kernel
theorem dX5_pair_57 : decode cX5_pair 57 = .ok (.invokespecial 50, 3) := by decide +kernel
theorem dX5_pair_60 : decode cX5_pair 60 = .ok (.athrow, 1) := by decide +kernel
theorem dX5_pair_61 : decode cX5_pair 61 = .ok (.aload_n 0, 1) := by decide +kernel
theorem dX5_pair_62 : decode cX5_pair 62 = .ok (.getfield 10, 3) := by decide +kernel
theorem dX5_pair_65 : decode cX5_pair 65 = .ok (.getfield 112, 3) := by decide +kernel
theorem dX5_pair_68 : decode cX5_pair 68 = .ok (.iload_n 1, 1) := by decide +kernel
theorem dX5_pair_69 : decode cX5_pair 69 = .ok (.iload_n 2, 1) := by decide +kernel
theorem dX5_pair_70 : decode cX5_pair 70 = .ok (.invokevirtual 123, 3) := by decide +kernel
theorem dX5_pair_73 : decode cX5_pair 73 = .ok (.ireturn, 1) := by decide +kernel
set_option maxRecDepth 20000 in
theorem ggX5_wire_X1_has : GoodIn wsX5_wire wsX1_has := goodIn_r _ [10, 11, 36, 37, 38, 39] (by decide +kernel) (by decide +kernel)
set_option maxRecDepth 20000 in
theorem gX5_wire_X1_has : GoodIn wsX5_wire (wsV RX5 126 RX1 yX1_has wsX1_has) := goodIn_app (goodIn_of _ (by decide +kernel)) ggX5_wire_X1_has
set_option maxRecDepth 20000 in
theorem ggX5_wire_X1_wornOf : GoodIn wsX5_wire wsX1_wornOf := goodIn_r _ [15, 16, 17, 7, 8, 9, 10, 11, 36, 37, 38, 39] (by decide +kernel) (by decide +kernel)
set_option maxRecDepth 20000 in
theorem gX5_wire_X1_wornOf : GoodIn wsX5_wire (wsV RX5 132 RX1 yX1_wornOf wsX1_wornOf) := goodIn_app (goodIn_of _ (by decide +kernel)) ggX5_wire_X1_wornOf
set_option maxRecDepth 20000 in
theorem ggX5_wire_X1_makeNew : GoodIn wsX5_wire wsX1_makeNew := goodIn_r _ [21, 16, 17, 7, 8, 9, 10, 11, 36, 37, 38, 39] (by decide +kernel) (by decide +kernel)
set_option maxRecDepth 20000 in
theorem gX5_wire_X1_makeNew : GoodIn wsX5_wire (wsV RX5 137 RX1 yX1_makeNew wsX1_makeNew) := goodIn_app (goodIn_of _ (by decide +kernel)) ggX5_wire_X1_makeNew
theorem dX5_wire_0 : decode cX5_wire 0 = .ok (.aload_n 0, 1) := by decide +kernel
theorem dX5_wire_1 : decode cX5_wire 1 = .ok (.getfield 10, 3) := by decide +kernel
theorem dX5_wire_4 : decode cX5_wire 4 = .ok (.getfield 112, 3) := by decide +kernel
theorem dX5_wire_7 : decode cX5_wire 7 = .ok (.iload_n 1, 1) := by decide +kernel
theorem dX5_wire_8 : decode cX5_wire 8 = .ok (.invokevirtual 126, 3) := by decide +kernel
theorem dX5_wire_11 : decode cX5_wire 11 = .ok (.ifCond .ne 13, 3) := by decide +kernel
theorem dX5_wire_14 : decode cX5_wire 14 = .ok (.new 23, 3) := by decide +kernel
theorem dX5_wire_17 : decode cX5_wire 17 = .ok (.dup, 1) := by decide +kernel
theorem dX5_wire_18 : decode cX5_wire 18 = .ok (.ldc 130, 2) := by decide +kernel
theorem dX5_wire_20 : decode cX5_wire 20 = .ok (.invokespecial 27, 3) := by decide +kernel
theorem dX5_wire_23 : decode cX5_wire 23 = .ok (.athrow, 1) := by decide +kernel
theorem dX5_wire_24 : decode cX5_wire 24 = .ok (.aload_n 0, 1) := by decide +kernel
theorem dX5_wire_25 : decode cX5_wire 25 = .ok (.getfield 10, 3) := by decide +kernel
theorem dX5_wire_28 : decode cX5_wire 28 = .ok (.getfield 112, 3) := by decide +kernel
theorem dX5_wire_31 : decode cX5_wire 31 = .ok (.iload_n 1, 1) := by decide +kernel
theorem dX5_wire_32 : decode cX5_wire 32 = .ok (.invokevirtual 132, 3) := by decide +kernel
theorem dX5_wire_35 : decode cX5_wire 35 = .ok (.istore_n 2, 1) := by decide +kernel
theorem dX5_wire_36 : decode cX5_wire 36 = .ok (.iload_n 2, 1) := by decide +kernel
theorem dX5_wire_37 : decode cX5_wire 37 = .ok (.ifCond .ne 13, 3) := by decide +kernel
theorem dX5_wire_40 : decode cX5_wire 40 = .ok (.new 46, 3) := by decide +kernel
theorem dX5_wire_43 : decode cX5_wire 43 = .ok (.dup, 1) := by decide +kernel
theorem dX5_wire_44 : decode cX5_wire 44 = .ok (.ldc 135, 2) := by decide +kernel
theorem dX5_wire_46 : decode cX5_wire 46 = .ok (.invokespecial 50, 3) := by decide +kernel
theorem dX5_wire_49 : decode cX5_wire 49 = .ok (.athrow, 1) := by decide +kernel
theorem dX5_wire_50 : decode cX5_wire 50 = .ok (.aload_n 0, 1) := by decide +kernel
theorem dX5_wire_51 : decode cX5_wire 51 = .ok (.getfield 10, 3) := by decide +kernel
theorem dX5_wire_54 : decode cX5_wire 54 = .ok (.getfield 42, 3) := by decide +kernel
theorem dX5_wire_57 : decode cX5_wire 57 = .ok (.iconst 5, 1) := by decide +kernel
theorem dX5_wire_58 : decode cX5_wire 58 = .ok (.if_icmp .ge 13, 3) := by decide +kernel
theorem dX5_wire_61 : decode cX5_wire 61 = .ok (.new 46, 3) := by decide +kernel
theorem dX5_wire_64 : decode cX5_wire 64 = .ok (.dup, 1) := by decide +kernel
theorem dX5_wire_65 : decode cX5_wire 65 = .ok (.ldc 48, 2) := by decide +kernel
theorem dX5_wire_67 : decode cX5_wire 67 = .ok (.invokespecial 50, 3) := by decide +kernel
theorem dX5_wire_70 : decode cX5_wire 70 = .ok (.athrow, 1) := by decide +kernel
theorem dX5_wire_71 : decode cX5_wire 71 = .ok (.aload_n 0, 1) := by decide +kernel
theorem dX5_wire_72 : decode cX5_wire 72 = .ok (.getfield 10, 3) := by decide +kernel
theorem dX5_wire_75 : decode cX5_wire 75 = .ok (.dup, 1) := by decide +kernel
theorem dX5_wire_76 : decode cX5_wire 76 = .ok (.getfield 42, 3) := by decide +kernel
theorem dX5_wire_79 : decode cX5_wire 79 = .ok (.iconst 5, 1) := by decide +kernel
theorem dX5_wire_80 : decode cX5_wire 80 = .ok (.isub, 1) := by decide +kernel
theorem dX5_wire_81 : decode cX5_wire 81 = .ok (.putfield 42, 3) := by decide +kernel
theorem dX5_wire_84 : decode cX5_wire 84 = .ok (.aload_n 0, 1) := by decide +kernel
theorem dX5_wire_85 : decode cX5_wire 85 = .ok (.getfield 10, 3) := by decide +kernel
theorem dX5_wire_88 : decode cX5_wire 88 = .ok (.getfield 112, 3) := by decide +kernel
theorem dX5_wire_91 : decode cX5_wire 91 = .ok (.iload_n 1, 1) := by decide +kernel
theorem dX5_wire_92 : decode cX5_wire 92 = .ok (.invokevirtual 137, 3) := by decide +kernel
theorem dX5_wire_95 : decode cX5_wire 95 = .ok (.iload_n 2, 1) := by decide +kernel
theorem dX5_wire_96 : decode cX5_wire 96 = .ok (.ireturn, 1) := by decide +kernel
set_option maxRecDepth 20000 in
theorem ggX5_team_X5_isFrom1To : GoodIn wsX5_team wsX5_isFrom1To := goodIn_r _ [9] (by decide +kernel) (by decide +kernel)
set_option maxRecDepth 20000 in
theorem gX5_team_X5_isFrom1To : GoodIn wsX5_team (va_wsS RX5 30 yX5_isFrom1To wsX5_isFrom1To) := goodIn_app (goodIn_of _ (by decide +kernel)) ggX5_team_X5_isFrom1To
set_option maxRecDepth 20000 in
theorem ggX5_team_X3_add : GoodIn wsX5_team wsX3_add := goodIn_r _ [14, 15, 16, 17, 18, 33, 34, 35, 36] (by decide +kernel) (by decide +kernel)
set_option maxRecDepth 20000 in
theorem gX5_team_X3_add : GoodIn wsX5_team (wsV RX5 152 RX3 yX3_add wsX3_add) := goodIn_app (goodIn_of _ (by decide +kernel)) ggX5_team_X3_add
theorem dX5_team_0 : decode cX5_team 0 = .ok (.iload_n 1, 1) := by decide +kernel
theorem dX5_team_1 : decode cX5_team 1 = .ok (.bipush 12, 2) := by decide +kernel
theorem dX5_team_3 : decode cX5_team 3 = .ok (.invokestatic 30, 3) := by decide +kernel
theorem dX5_team_6 : decode cX5_team 6 = .ok (.ifCond .ne 13, 3) := by decide +kernel
theorem dX5_team_9 : decode cX5_team 9 = .ok (.new 33, 3) := by decide +kernel
theorem dX5_team_12 : decode cX5_team 12 = .ok (.dup, 1) := by decide +kernel
theorem dX5_team_13 : decode cX5_team 13 = .ok (.ldc 141, 2) := by decide +kernel
theorem dX5_team_15 : decode cX5_team 15 = .ok (.invokespecial 37, 3) := by decide +kernel
theorem dX5_team_18 : decode cX5_team 18 = .ok (.athrow, 1) := by decide +kernel
theorem dX5_team_19 : decode cX5_team 19 = .ok (.aload_n 0, 1) := by decide +kernel
theorem dX5_team_20 : decode cX5_team 20 = .ok (.getfield 10, 3) := by decide +kernel
theorem dX5_team_23 : decode cX5_team 23 = .ok (.getfield 143, 3) := by decide +kernel
theorem dX5_team_26 : decode cX5_team 26 = .ok (.getfield 147, 3) := by decide +kernel
theorem dX5_team_29 : decode cX5_team 29 = .ok (.iconst 3, 1) := by decide +kernel
theorem dX5_team_30 : decode cX5_team 30 = .ok (.if_icmp .lt 13, 3) := by decide +kernel
theorem dX5_team_33 : decode cX5_team 33 = .ok (.new 46, 3) := by decide +kernel
theorem dX5_team_36 : decode cX5_team 36 = .ok (.dup, 1) := by decide +kernel
theorem dX5_team_37 : decode cX5_team 37 = .ok (.ldc 150, 2) := by decide +kernel
theorem dX5_team_39 : decode cX5_team 39 = .ok (.invokespecial 50, 3) := by decide +kernel
theorem dX5_team_42 : decode cX5_team 42 = .ok (.athrow, 1) := by decide +kernel
theorem dX5_team_43 : decode cX5_team 43 = .ok (.aload_n 0, 1) := by decide +kernel
theorem dX5_team_44 : decode cX5_team 44 = .ok (.getfield 10, 3) := by decide +kernel
theorem dX5_team_47 : decode cX5_team 47 = .ok (.getfield 143, 3) := by decide +kernel
theorem dX5_team_50 : decode cX5_team 50 = .ok (.iload_n 1, 1) := by decide +kernel
theorem dX5_team_51 : decode cX5_team 51 = .ok (.invokevirtual 152, 3) := by decide +kernel
theorem dX5_team_54 : decode cX5_team 54 = .ok (.ireturn, 1) := by decide +kernel
set_option maxRecDepth 20000 in
theorem ggX5_place_X3_has : GoodIn wsX5_place wsX3_has := goodIn_r _ [10, 11, 96, 97, 98, 99] (by decide +kernel) (by decide +kernel)
set_option maxRecDepth 20000 in
theorem gX5_place_X3_has : GoodIn wsX5_place (wsV RX5 154 RX3 yX3_has wsX3_has) := goodIn_app (goodIn_of _ (by decide +kernel)) ggX5_place_X3_has
set_option maxRecDepth 20000 in
theorem ggX5_place_X5_isBelow : GoodIn wsX5_place wsX5_isBelow := goodIn_r _ [15] (by decide +kernel) (by decide +kernel)
set_option maxRecDepth 20000 in
theorem gX5_place_X5_isBelow : GoodIn wsX5_place (va_wsS RX5 19 yX5_isBelow wsX5_isBelow) := goodIn_app (goodIn_of _ (by decide +kernel)) ggX5_place_X5_isBelow
set_option maxRecDepth 20000 in
theorem ggX5_place_X1_has : GoodIn wsX5_place wsX1_has := goodIn_r _ [20, 21, 100, 101, 102, 103] (by decide +kernel) (by decide +kernel)
set_option maxRecDepth 20000 in
theorem gX5_place_X1_has : GoodIn wsX5_place (wsV RX5 126 RX1 yX1_has wsX1_has) := goodIn_app (goodIn_of _ (by decide +kernel)) ggX5_place_X1_has
set_option maxRecDepth 20000 in
theorem ggX5_place_X3_holderOf : GoodIn wsX5_place wsX3_holderOf := goodIn_r _ [25, 11, 26, 27, 28, 9, 29, 30, 31, 7, 8, 10, 96, 97, 98, 99] (by decide +kernel) (by decide +kernel)
set_option maxRecDepth 20000 in
theorem gX5_place_X3_holderOf : GoodIn wsX5_place (wsV RX5 157 RX3 yX3_holderOf wsX3_holderOf) := goodIn_app (goodIn_of _ (by decide +kernel)) ggX5_place_X3_holderOf
set_option maxRecDepth 20000 in
theorem ggX5_place_X3_send : GoodIn wsX5_place wsX3_send := goodIn_r _ [35, 36, 30, 31, 7, 8, 9, 10, 11, 96, 97, 98, 99] (by decide +kernel) (by decide +kernel)
set_option maxRecDepth 20000 in
theorem gX5_place_X3_send : GoodIn wsX5_place (wsV RX5 162 RX3 yX3_send wsX3_send) := goodIn_app (goodIn_of _ (by decide +kernel)) ggX5_place_X3_send
set_option maxRecDepth 20000 in
theorem ggX5_place_X0_sheetsOf : GoodIn wsX5_place wsX0_sheetsOf := goodIn_r _ [41, 42, 43, 44, 45, 46, 47, 48, 49, 50, 51, 9, 52, 36, 31, 7, 8, 10, 11, 53, 27, 28, 29, 30, 54, 55, 56, 57, 58, 59, 13, 14, 15, 60, 61, 62, 19, 63, 64, 65, 17, 18, 20, 21, 66, 67, 68, 69, 70, 71, 72, 73, 40, 74, 75, 76, 77, 78, 79, 80, 81, 84, 85, 86, 87, 88, 89, 90, 91, 92, 93, 94, 95, 96, 97, 98, 99, 104, 105, 106, 100, 101, 102, 103, 107, 108, 109, 110, 111] (by decide +kernel) (by decide +kernel)
set_option maxRecDepth 20000 in
theorem gX5_place_X0_sheetsOf : GoodIn wsX5_place (wsV RX5 165 RX0 yX0_sheetsOf wsX0_sheetsOf) := goodIn_app (goodIn_of _ (by decide +kernel)) ggX5_place_X0_sheetsOf
theorem dX5_place_0 : decode cX5_place 0 = .ok (.aload_n 0, 1) := by decide +kernel
theorem dX5_place_1 : decode cX5_place 1 = .ok (.getfield 10, 3) := by decide +kernel
theorem dX5_place_4 : decode cX5_place 4 = .ok (.getfield 143, 3) := by decide +kernel
theorem dX5_place_7 : decode cX5_place 7 = .ok (.iload_n 1, 1) := by decide +kernel
theorem dX5_place_8 : decode cX5_place 8 = .ok (.invokevirtual 154, 3) := by decide +kernel
theorem dX5_place_11 : decode cX5_place 11 = .ok (.ifCond .ne 13, 3) := by decide +kernel
theorem dX5_place_14 : decode cX5_place 14 = .ok (.new 23, 3) := by decide +kernel
theorem dX5_place_17 : decode cX5_place 17 = .ok (.dup, 1) := by decide +kernel
theorem dX5_place_18 : decode cX5_place 18 = .ok (.ldc 155, 2) := by decide +kernel
theorem dX5_place_20 : decode cX5_place 20 = .ok (.invokespecial 27, 3) := by decide +kernel
theorem dX5_place_23 : decode cX5_place 23 = .ok (.athrow, 1) := by decide +kernel
theorem dX5_place_24 : decode cX5_place 24 = .ok (.iload_n 2, 1) := by decide +kernel
theorem dX5_place_25 : decode cX5_place 25 = .ok (.iconst (-1), 1) := by decide +kernel
theorem dX5_place_26 : decode cX5_place 26 = .ok (.if_icmp .eq 21, 3) := by decide +kernel
theorem dX5_place_29 : decode cX5_place 29 = .ok (.iload_n 2, 1) := by decide +kernel
theorem dX5_place_30 : decode cX5_place 30 = .ok (.iconst 4, 1) := by decide +kernel
theorem dX5_place_31 : decode cX5_place 31 = .ok (.invokestatic 19, 3) := by decide +kernel
theorem dX5_place_34 : decode cX5_place 34 = .ok (.ifCond .ne 13, 3) := by decide +kernel
theorem dX5_place_37 : decode cX5_place 37 = .ok (.new 23, 3) := by decide +kernel
theorem dX5_place_40 : decode cX5_place 40 = .ok (.dup, 1) := by decide +kernel
theorem dX5_place_41 : decode cX5_place 41 = .ok (.ldc 100, 2) := by decide +kernel
theorem dX5_place_43 : decode cX5_place 43 = .ok (.invokespecial 27, 3) := by decide +kernel
theorem dX5_place_46 : decode cX5_place 46 = .ok (.athrow, 1) := by decide +kernel
theorem dX5_place_47 : decode cX5_place 47 = .ok (.iload_n 3, 1) := by decide +kernel
theorem dX5_place_48 : decode cX5_place 48 = .ok (.iconst (-1), 1) := by decide +kernel
theorem dX5_place_49 : decode cX5_place 49 = .ok (.if_icmp .eq 27, 3) := by decide +kernel
theorem dX5_place_52 : decode cX5_place 52 = .ok (.aload_n 0, 1) := by decide +kernel
theorem dX5_place_53 : decode cX5_place 53 = .ok (.getfield 10, 3) := by decide +kernel
theorem dX5_place_56 : decode cX5_place 56 = .ok (.getfield 112, 3) := by decide +kernel
theorem dX5_place_59 : decode cX5_place 59 = .ok (.iload_n 3, 1) := by decide +kernel
theorem dX5_place_60 : decode cX5_place 60 = .ok (.invokevirtual 126, 3) := by decide +kernel
theorem dX5_place_63 : decode cX5_place 63 = .ok (.ifCond .ne 13, 3) := by decide +kernel
theorem dX5_place_66 : decode cX5_place 66 = .ok (.new 23, 3) := by decide +kernel
theorem dX5_place_69 : decode cX5_place 69 = .ok (.dup, 1) := by decide +kernel
theorem dX5_place_70 : decode cX5_place 70 = .ok (.ldc 130, 2) := by decide +kernel
theorem dX5_place_72 : decode cX5_place 72 = .ok (.invokespecial 27, 3) := by decide +kernel
theorem dX5_place_75 : decode cX5_place 75 = .ok (.athrow, 1) := by decide +kernel
theorem dX5_place_76 : decode cX5_place 76 = .ok (.aload_n 0, 1) := by decide +kernel
theorem dX5_place_77 : decode cX5_place 77 = .ok (.getfield 10, 3) := by decide +kernel
theorem dX5_place_80 : decode cX5_place 80 = .ok (.getfield 143, 3) := by decide +kernel
theorem dX5_place_83 : decode cX5_place 83 = .ok (.iload_n 3, 1) := by decide +kernel
theorem dX5_place_84 : decode cX5_place 84 = .ok (.invokevirtual 157, 3) := by decide +kernel
theorem dX5_place_87 : decode cX5_place 87 = .ok (.istore 4, 2) := by decide +kernel
theorem dX5_place_89 : decode cX5_place 89 = .ok (.iload 4, 2) := by decide +kernel
theorem dX5_place_91 : decode cX5_place 91 = .ok (.iconst (-1), 1) := by decide +kernel
theorem dX5_place_92 : decode cX5_place 92 = .ok (.if_icmp .eq 19, 3) := by decide +kernel
theorem dX5_place_95 : decode cX5_place 95 = .ok (.iload 4, 2) := by decide +kernel
theorem dX5_place_97 : decode cX5_place 97 = .ok (.iload_n 1, 1) := by decide +kernel
theorem dX5_place_98 : decode cX5_place 98 = .ok (.if_icmp .eq 13, 3) := by decide +kernel
theorem dX5_place_101 : decode cX5_place 101 = .ok (.new 46, 3) := by decide +kernel
theorem dX5_place_104 : decode cX5_place 104 = .ok (.dup, 1) := by decide +kernel
theorem dX5_place_105 : decode cX5_place 105 = .ok (.ldc 160, 2) := by decide +kernel
theorem dX5_place_107 : decode cX5_place 107 = .ok (.invokespecial 50, 3) := by decide +kernel
theorem dX5_place_110 : decode cX5_place 110 = .ok (.athrow, 1) := by decide +kernel
theorem dX5_place_111 : decode cX5_place 111 = .ok (.aload_n 0, 1) := by decide +kernel
theorem dX5_place_112 : decode cX5_place 112 = .ok (.getfield 10, 3) := by decide +kernel
theorem dX5_place_115 : decode cX5_place 115 = .ok (.getfield 143, 3) := by decide +kernel
theorem dX5_place_118 : decode cX5_place 118 = .ok (.iload_n 1, 1) := by decide +kernel
theorem dX5_place_119 : decode cX5_place 119 = .ok (.iload_n 2, 1) := by decide +kernel
theorem dX5_place_120 : decode cX5_place 120 = .ok (.iload_n 3, 1) := by decide +kernel
theorem dX5_place_121 : decode cX5_place 121 = .ok (.invokevirtual 162, 3) := by decide +kernel
theorem dX5_place_124 : decode cX5_place 124 = .ok (.aload_n 0, 1) := by decide +kernel
theorem dX5_place_125 : decode cX5_place 125 = .ok (.getfield 10, 3) := by decide +kernel
theorem dX5_place_128 : decode cX5_place 128 = .ok (.iload_n 1, 1) := by decide +kernel
theorem dX5_place_129 : decode cX5_place 129 = .ok (.invokevirtual 165, 3) := by decide +kernel
theorem dX5_place_132 : decode cX5_place 132 = .ok (.ireturn, 1) := by decide +kernel
set_option maxRecDepth 20000 in
theorem ggX5_setWater_X5_isBelow : GoodIn wsX5_setWater wsX5_isBelow := goodIn_r _ [9] (by decide +kernel) (by decide +kernel)
set_option maxRecDepth 20000 in
theorem gX5_setWater_X5_isBelow : GoodIn wsX5_setWater (va_wsS RX5 19 yX5_isBelow wsX5_isBelow) := goodIn_app (goodIn_of _ (by decide +kernel)) ggX5_setWater_X5_isBelow
theorem dX5_setWater_0 : decode cX5_setWater 0 = .ok (.iload_n 1, 1) := by decide +kernel
theorem dX5_setWater_1 : decode cX5_setWater 1 = .ok (.bipush 7, 2) := by decide +kernel
theorem dX5_setWater_3 : decode cX5_setWater 3 = .ok (.invokestatic 19, 3) := by decide +kernel
theorem dX5_setWater_6 : decode cX5_setWater 6 = .ok (.ifCond .ne 13, 3) := by decide +kernel
theorem dX5_setWater_9 : decode cX5_setWater 9 = .ok (.new 23, 3) := by decide +kernel
theorem dX5_setWater_12 : decode cX5_setWater 12 = .ok (.dup, 1) := by decide +kernel
theorem dX5_setWater_13 : decode cX5_setWater 13 = .ok (.ldc 168, 2) := by decide +kernel
theorem dX5_setWater_15 : decode cX5_setWater 15 = .ok (.invokespecial 27, 3) := by decide +kernel
theorem dX5_setWater_18 : decode cX5_setWater 18 = .ok (.athrow, 1) := by decide +kernel
theorem dX5_setWater_19 : decode cX5_setWater 19 = .ok (.iload_n 2, 1) := by decide +kernel
theorem dX5_setWater_20 : decode cX5_setWater 20 = .ok (.ifCond .lt 9, 3) := by decide +kernel
theorem dX5_setWater_23 : decode cX5_setWater 23 = .ok (.iload_n 2, 1) := by decide +kernel
theorem dX5_setWater_24 : decode cX5_setWater 24 = .ok (.bipush 9, 2) := by decide +kernel
theorem dX5_setWater_26 : decode cX5_setWater 26 = .ok (.if_icmp .le 13, 3) := by decide +kernel
theorem dX5_setWater_29 : decode cX5_setWater 29 = .ok (.new 33, 3) := by decide +kernel
theorem dX5_setWater_32 : decode cX5_setWater 32 = .ok (.dup, 1) := by decide +kernel
theorem dX5_setWater_33 : decode cX5_setWater 33 = .ok (.ldc 170, 2) := by decide +kernel
theorem dX5_setWater_35 : decode cX5_setWater 35 = .ok (.invokespecial 37, 3) := by decide +kernel
theorem dX5_setWater_38 : decode cX5_setWater 38 = .ok (.athrow, 1) := by decide +kernel
theorem dX5_setWater_39 : decode cX5_setWater 39 = .ok (.aload_n 0, 1) := by decide +kernel
theorem dX5_setWater_40 : decode cX5_setWater 40 = .ok (.getfield 10, 3) := by decide +kernel
theorem dX5_setWater_43 : decode cX5_setWater 43 = .ok (.getfield 172, 3) := by decide +kernel
theorem dX5_setWater_46 : decode cX5_setWater 46 = .ok (.iload_n 1, 1) := by decide +kernel
theorem dX5_setWater_47 : decode cX5_setWater 47 = .ok (.iaload, 1) := by decide +kernel
theorem dX5_setWater_48 : decode cX5_setWater 48 = .ok (.istore_n 3, 1) := by decide +kernel
theorem dX5_setWater_49 : decode cX5_setWater 49 = .ok (.aload_n 0, 1) := by decide +kernel
theorem dX5_setWater_50 : decode cX5_setWater 50 = .ok (.getfield 10, 3) := by decide +kernel
theorem dX5_setWater_53 : decode cX5_setWater 53 = .ok (.getfield 172, 3) := by decide +kernel
theorem dX5_setWater_56 : decode cX5_setWater 56 = .ok (.iload_n 1, 1) := by decide +kernel
theorem dX5_setWater_57 : decode cX5_setWater 57 = .ok (.iload_n 2, 1) := by decide +kernel
theorem dX5_setWater_58 : decode cX5_setWater 58 = .ok (.iastore, 1) := by decide +kernel
theorem dX5_setWater_59 : decode cX5_setWater 59 = .ok (.iload_n 3, 1) := by decide +kernel
theorem dX5_setWater_60 : decode cX5_setWater 60 = .ok (.ireturn, 1) := by decide +kernel
set_option maxRecDepth 20000 in
theorem ggX5_about_X5_isBelow : GoodIn wsX5_about wsX5_isBelow := goodIn_r _ [7] (by decide +kernel) (by decide +kernel)
set_option maxRecDepth 20000 in
theorem gX5_about_X5_isBelow : GoodIn wsX5_about (va_wsS RX5 19 yX5_isBelow wsX5_isBelow) := goodIn_app (goodIn_of _ (by decide +kernel)) ggX5_about_X5_isBelow
set_option maxRecDepth 20000 in
theorem ggX5_about_X4_tell : GoodIn wsX5_about wsX4_tell := goodIn_r _ [12, 13, 14, 15, 11, 16, 17, 5, 6, 7, 18, 19, 20, 21, 22, 23, 24, 25, 26, 27, 42, 43, 44] (by decide +kernel) (by decide +kernel)
set_option maxRecDepth 20000 in
theorem gX5_about_X4_tell : GoodIn wsX5_about (wsV RX5 177 RX4 yX4_tell wsX4_tell) := goodIn_app (goodIn_of _ (by decide +kernel)) ggX5_about_X4_tell
theorem dX5_about_0 : decode cX5_about 0 = .ok (.iload_n 1, 1) := by decide +kernel
theorem dX5_about_1 : decode cX5_about 1 = .ok (.iconst 4, 1) := by decide +kernel
theorem dX5_about_2 : decode cX5_about 2 = .ok (.invokestatic 19, 3) := by decide +kernel
theorem dX5_about_5 : decode cX5_about 5 = .ok (.ifCond .eq 11, 3) := by decide +kernel
theorem dX5_about_8 : decode cX5_about 8 = .ok (.iload_n 2, 1) := by decide +kernel
theorem dX5_about_9 : decode cX5_about 9 = .ok (.iconst 3, 1) := by decide +kernel
theorem dX5_about_10 : decode cX5_about 10 = .ok (.invokestatic 19, 3) := by decide +kernel
theorem dX5_about_13 : decode cX5_about 13 = .ok (.ifCond .ne 13, 3) := by decide +kernel
theorem dX5_about_16 : decode cX5_about 16 = .ok (.new 23, 3) := by decide +kernel
theorem dX5_about_19 : decode cX5_about 19 = .ok (.dup, 1) := by decide +kernel
theorem dX5_about_20 : decode cX5_about 20 = .ok (.ldc 175, 2) := by decide +kernel
theorem dX5_about_22 : decode cX5_about 22 = .ok (.invokespecial 27, 3) := by decide +kernel
theorem dX5_about_25 : decode cX5_about 25 = .ok (.athrow, 1) := by decide +kernel
theorem dX5_about_26 : decode cX5_about 26 = .ok (.aload_n 0, 1) := by decide +kernel
theorem dX5_about_27 : decode cX5_about 27 = .ok (.getfield 10, 3) := by decide +kernel
theorem dX5_about_30 : decode cX5_about 30 = .ok (.getfield 81, 3) := by decide +kernel
theorem dX5_about_33 : decode cX5_about 33 = .ok (.iload_n 1, 1) := by decide +kernel
theorem dX5_about_34 : decode cX5_about 34 = .ok (.iload_n 2, 1) := by decide +kernel
theorem dX5_about_35 : decode cX5_about 35 = .ok (.invokevirtual 177, 3) := by decide +kernel
theorem dX5_about_38 : decode cX5_about 38 = .ok (.ireturn, 1) := by decide +kernel
set_option maxRecDepth 20000 in
theorem ggX5_mould_X1_has : GoodIn wsX5_mould wsX1_has := goodIn_r _ [8, 9, 66, 67, 68, 69] (by decide +kernel) (by decide +kernel)
set_option maxRecDepth 20000 in
theorem gX5_mould_X1_has : GoodIn wsX5_mould (wsV RX5 126 RX1 yX1_has wsX1_has) := goodIn_app (goodIn_of _ (by decide +kernel)) ggX5_mould_X1_has
set_option maxRecDepth 20000 in
theorem ggX5_mould_X5_isBelow : GoodIn wsX5_mould wsX5_isBelow := goodIn_r _ [13] (by decide +kernel) (by decide +kernel)
set_option maxRecDepth 20000 in
theorem gX5_mould_X5_isBelow : GoodIn wsX5_mould (va_wsS RX5 19 yX5_isBelow wsX5_isBelow) := goodIn_app (goodIn_of _ (by decide +kernel)) ggX5_mould_X5_isBelow
set_option maxRecDepth 20000 in
theorem ggX5_mould_X0_tellPair : GoodIn wsX5_mould wsX0_tellPair := goodIn_r _ [18, 19, 20, 21, 22, 23, 7, 24, 25, 26, 5, 6, 8, 9, 27, 28, 29, 30, 31, 32, 33, 34, 35, 36, 37, 38, 39, 40, 41, 42, 43, 44, 45, 46, 47, 48, 49, 50, 51, 54, 55, 56, 57, 58, 59, 60, 61, 62, 63, 64, 65, 66, 67, 68, 69, 70, 71, 72, 73] (by decide +kernel) (by decide +kernel)
set_option maxRecDepth 20000 in
theorem gX5_mould_X0_tellPair : GoodIn wsX5_mould (wsV RX5 182 RX0 yX0_tellPair wsX0_tellPair) := goodIn_app (goodIn_of _ (by decide +kernel)) ggX5_mould_X0_tellPair
theorem dX5_mould_0 : decode cX5_mould 0 = .ok (.aload_n 0, 1) := by decide +kernel
theorem dX5_mould_1 : decode cX5_mould 1 = .ok (.getfield 10, 3) := by decide +kernel
theorem dX5_mould_4 : decode cX5_mould 4 = .ok (.getfield 112, 3) := by decide +kernel
theorem dX5_mould_7 : decode cX5_mould 7 = .ok (.iload_n 1, 1) := by decide +kernel
theorem dX5_mould_8 : decode cX5_mould 8 = .ok (.invokevirtual 126, 3) := by decide +kernel
theorem dX5_mould_11 : decode cX5_mould 11 = .ok (.ifCond .eq 11, 3) := by decide +kernel
theorem dX5_mould_14 : decode cX5_mould 14 = .ok (.iload_n 2, 1) := by decide +kernel
theorem dX5_mould_15 : decode cX5_mould 15 = .ok (.iconst 4, 1) := by decide +kernel
theorem dX5_mould_16 : decode cX5_mould 16 = .ok (.invokestatic 19, 3) := by decide +kernel
theorem dX5_mould_19 : decode cX5_mould 19 = .ok (.ifCond .ne 13, 3) := by decide +kernel
theorem dX5_mould_22 : decode cX5_mould 22 = .ok (.new 23, 3) := by decide +kernel
theorem dX5_mould_25 : decode cX5_mould 25 = .ok (.dup, 1) := by decide +kernel
theorem dX5_mould_26 : decode cX5_mould 26 = .ok (.ldc 180, 2) := by decide +kernel
theorem dX5_mould_28 : decode cX5_mould 28 = .ok (.invokespecial 27, 3) := by decide +kernel
theorem dX5_mould_31 : decode cX5_mould 31 = .ok (.athrow, 1) := by decide +kernel
theorem dX5_mould_32 : decode cX5_mould 32 = .ok (.aload_n 0, 1) := by decide +kernel
theorem dX5_mould_33 : decode cX5_mould 33 = .ok (.getfield 10, 3) := by decide +kernel
theorem dX5_mould_36 : decode cX5_mould 36 = .ok (.iload_n 1, 1) := by decide +kernel
theorem dX5_mould_37 : decode cX5_mould 37 = .ok (.iload_n 2, 1) := by decide +kernel
theorem dX5_mould_38 : decode cX5_mould 38 = .ok (.invokevirtual 182, 3) := by decide +kernel
theorem dX5_mould_41 : decode cX5_mould 41 = .ok (.ireturn, 1) := by decide +kernel
set_option maxRecDepth 20000 in
theorem ggX5_told_X3_has : GoodIn wsX5_told wsX3_has := goodIn_r _ [8, 9, 88, 89, 90, 91] (by decide +kernel) (by decide +kernel)
set_option maxRecDepth 20000 in
theorem gX5_told_X3_has : GoodIn wsX5_told (wsV RX5 154 RX3 yX3_has wsX3_has) := goodIn_app (goodIn_of _ (by decide +kernel)) ggX5_told_X3_has
set_option maxRecDepth 20000 in
theorem ggX5_told_X5_isBelow : GoodIn wsX5_told wsX5_isBelow := goodIn_r _ [13] (by decide +kernel) (by decide +kernel)
set_option maxRecDepth 20000 in
theorem gX5_told_X5_isBelow : GoodIn wsX5_told (va_wsS RX5 19 yX5_isBelow wsX5_isBelow) := goodIn_app (goodIn_of _ (by decide +kernel)) ggX5_told_X5_isBelow
set_option maxRecDepth 20000 in
theorem ggX5_told_X0_tellTeam : GoodIn wsX5_told wsX0_tellTeam := goodIn_r _ [18, 19, 20, 21, 22, 7, 23, 24, 25, 5, 6, 8, 9, 26, 27, 28, 29, 30, 31, 32, 33, 34, 35, 36, 37, 38, 17, 39, 40, 41, 42, 43, 44, 45, 46, 47, 48, 49, 50, 51, 11, 12, 13, 52, 53, 54, 55, 56, 57, 58, 59, 60, 61, 62, 63, 64, 65, 66, 67, 68, 69, 70, 71, 72, 73, 76, 77, 78, 79, 80, 81, 82, 83, 84, 85, 86, 87, 88, 89, 90, 91, 92, 93, 94, 95, 96, 97, 98, 99, 100, 101, 102, 103] (by decide +kernel) (by decide +kernel)
set_option maxRecDepth 20000 in
theorem gX5_told_X0_tellTeam : GoodIn wsX5_told (wsV RX5 187 RX0 yX0_tellTeam wsX0_tellTeam) := goodIn_app (goodIn_of _ (by decide +kernel)) ggX5_told_X0_tellTeam
theorem dX5_told_0 : decode cX5_told 0 = .ok (.aload_n 0, 1) := by decide +kernel
theorem dX5_told_1 : decode cX5_told 1 = .ok (.getfield 10, 3) := by decide +kernel
theorem dX5_told_4 : decode cX5_told 4 = .ok (.getfield 143, 3) := by decide +kernel
theorem dX5_told_7 : decode cX5_told 7 = .ok (.iload_n 1, 1) := by decide +kernel
theorem dX5_told_8 : decode cX5_told 8 = .ok (.invokevirtual 154, 3) := by decide +kernel
theorem dX5_told_11 : decode cX5_told 11 = .ok (.ifCond .eq 11, 3) := by decide +kernel
theorem dX5_told_14 : decode cX5_told 14 = .ok (.iload_n 2, 1) := by decide +kernel
theorem dX5_told_15 : decode cX5_told 15 = .ok (.iconst 4, 1) := by decide +kernel
theorem dX5_told_16 : decode cX5_told 16 = .ok (.invokestatic 19, 3) := by decide +kernel
theorem dX5_told_19 : decode cX5_told 19 = .ok (.ifCond .ne 13, 3) := by decide +kernel
theorem dX5_told_22 : decode cX5_told 22 = .ok (.new 23, 3) := by decide +kernel
theorem dX5_told_25 : decode cX5_told 25 = .ok (.dup, 1) := by decide +kernel
theorem dX5_told_26 : decode cX5_told 26 = .ok (.ldc 185, 2) := by decide +kernel
theorem dX5_told_28 : decode cX5_told 28 = .ok (.invokespecial 27, 3) := by decide +kernel
theorem dX5_told_31 : decode cX5_told 31 = .ok (.athrow, 1) := by decide +kernel
theorem dX5_told_32 : decode cX5_told 32 = .ok (.aload_n 0, 1) := by decide +kernel
theorem dX5_told_33 : decode cX5_told 33 = .ok (.getfield 10, 3) := by decide +kernel
theorem dX5_told_36 : decode cX5_told 36 = .ok (.iload_n 1, 1) := by decide +kernel
theorem dX5_told_37 : decode cX5_told 37 = .ok (.iload_n 2, 1) := by decide +kernel
theorem dX5_told_38 : decode cX5_told 38 = .ok (.invokevirtual 187, 3) := by decide +kernel
theorem dX5_told_41 : decode cX5_told 41 = .ok (.ireturn, 1) := by decide +kernel
set_option maxRecDepth 20000 in
theorem ggX5_post_X2_has : GoodIn wsX5_post wsX2_has := goodIn_r _ [8, 9, 48, 49, 50, 51, 52] (by decide +kernel) (by decide +kernel)
set_option maxRecDepth 20000 in
theorem gX5_post_X2_has : GoodIn wsX5_post (wsV RX5 194 RX2 yX2_has wsX2_has) := goodIn_app (goodIn_of _ (by decide +kernel)) ggX5_post_X2_has
set_option maxRecDepth 20000 in
theorem ggX5_post_X5_isBelow : GoodIn wsX5_post wsX5_isBelow := goodIn_r _ [13] (by decide +kernel) (by decide +kernel)
set_option maxRecDepth 20000 in
theorem gX5_post_X5_isBelow : GoodIn wsX5_post (va_wsS RX5 19 yX5_isBelow wsX5_isBelow) := goodIn_app (goodIn_of _ (by decide +kernel)) ggX5_post_X5_isBelow
set_option maxRecDepth 20000 in
theorem ggX5_post_X2_tell : GoodIn wsX5_post wsX2_tell := goodIn_r _ [17, 18, 19, 20, 7, 21, 22, 23, 5, 6, 8, 9, 24, 25, 26, 27, 28, 29, 30, 31, 32, 33, 48, 49, 50, 51, 52] (by decide +kernel) (by decide +kernel)
set_option maxRecDepth 20000 in
theorem gX5_post_X2_tell : GoodIn wsX5_post (wsV RX5 199 RX2 yX2_tell wsX2_tell) := goodIn_app (goodIn_of _ (by decide +kernel)) ggX5_post_X2_tell
theorem dX5_post_0 : decode cX5_post 0 = .ok (.aload_n 0, 1) := by decide +kernel
theorem dX5_post_1 : decode cX5_post 1 = .ok (.getfield 10, 3) := by decide +kernel
theorem dX5_post_4 : decode cX5_post 4 = .ok (.getfield 190, 3) := by decide +kernel
theorem dX5_post_7 : decode cX5_post 7 = .ok (.iload_n 1, 1) := by decide +kernel
theorem dX5_post_8 : decode cX5_post 8 = .ok (.invokevirtual 194, 3) := by decide +kernel
theorem dX5_post_11 : decode cX5_post 11 = .ok (.ifCond .eq 11, 3) := by decide +kernel
theorem dX5_post_14 : decode cX5_post 14 = .ok (.iload_n 2, 1) := by decide +kernel
theorem dX5_post_15 : decode cX5_post 15 = .ok (.iconst 3, 1) := by decide +kernel
theorem dX5_post_16 : decode cX5_post 16 = .ok (.invokestatic 19, 3) := by decide +kernel
theorem dX5_post_19 : decode cX5_post 19 = .ok (.ifCond .ne 13, 3) := by decide +kernel
theorem dX5_post_22 : decode cX5_post 22 = .ok (.new 23, 3) := by decide +kernel
theorem dX5_post_25 : decode cX5_post 25 = .ok (.dup, 1) := by decide +kernel
theorem dX5_post_26 : decode cX5_post 26 = .ok (.ldc 197, 2) := by decide +kernel
theorem dX5_post_28 : decode cX5_post 28 = .ok (.invokespecial 27, 3) := by decide +kernel
theorem dX5_post_31 : decode cX5_post 31 = .ok (.athrow, 1) := by decide +kernel
theorem dX5_post_32 : decode cX5_post 32 = .ok (.aload_n 0, 1) := by decide +kernel
theorem dX5_post_33 : decode cX5_post 33 = .ok (.getfield 10, 3) := by decide +kernel
theorem dX5_post_36 : decode cX5_post 36 = .ok (.getfield 190, 3) := by decide +kernel
theorem dX5_post_39 : decode cX5_post 39 = .ok (.iload_n 1, 1) := by decide +kernel
theorem dX5_post_40 : decode cX5_post 40 = .ok (.iload_n 2, 1) := by decide +kernel
theorem dX5_post_41 : decode cX5_post 41 = .ok (.invokevirtual 199, 3) := by decide +kernel
theorem dX5_post_44 : decode cX5_post 44 = .ok (.ireturn, 1) := by decide +kernel
set_option maxRecDepth 20000 in
theorem ggX5_loft_X5_isBelow : GoodIn wsX5_loft wsX5_isBelow := goodIn_r _ [7] (by decide +kernel) (by decide +kernel)
set_option maxRecDepth 20000 in
theorem gX5_loft_X5_isBelow : GoodIn wsX5_loft (va_wsS RX5 19 yX5_isBelow wsX5_isBelow) := goodIn_app (goodIn_of _ (by decide +kernel)) ggX5_loft_X5_isBelow
set_option maxRecDepth 20000 in
theorem ggX5_loft_X0_hanging : GoodIn wsX5_loft wsX0_hanging := goodIn_r _ [12, 13, 5, 6, 7, 16, 17, 18, 19, 20, 21, 22, 23, 24, 25, 26, 27] (by decide +kernel) (by decide +kernel)
set_option maxRecDepth 20000 in
theorem gX5_loft_X0_hanging : GoodIn wsX5_loft (wsV RX5 64 RX0 yX0_hanging wsX0_hanging) := goodIn_app (goodIn_of _ (by decide +kernel)) ggX5_loft_X0_hanging
theorem dX5_loft_0 : decode cX5_loft 0 = .ok (.iload_n 1, 1) := by decide +kernel
theorem dX5_loft_1 : decode cX5_loft 1 = .ok (.bipush 10, 2) := by decide +kernel
theorem dX5_loft_3 : decode cX5_loft 3 = .ok (.invokestatic 19, 3) := by decide +kernel
theorem dX5_loft_6 : decode cX5_loft 6 = .ok (.ifCond .eq 11, 3) := by decide +kernel
theorem dX5_loft_9 : decode cX5_loft 9 = .ok (.iload_n 2, 1) := by decide +kernel
theorem dX5_loft_10 : decode cX5_loft 10 = .ok (.iconst 3, 1) := by decide +kernel
theorem dX5_loft_11 : decode cX5_loft 11 = .ok (.invokestatic 19, 3) := by decide +kernel
theorem dX5_loft_14 : decode cX5_loft 14 = .ok (.ifCond .ne 13, 3) := by decide +kernel
theorem dX5_loft_17 : decode cX5_loft 17 = .ok (.new 23, 3) := by decide +kernel
theorem dX5_loft_20 : decode cX5_loft 20 = .ok (.dup, 1) := by decide +kernel
theorem dX5_loft_21 : decode cX5_loft 21 = .ok (.ldc 60, 2) := by decide +kernel
theorem dX5_loft_23 : decode cX5_loft 23 = .ok (.invokespecial 27, 3) := by decide +kernel
theorem dX5_loft_26 : decode cX5_loft 26 = .ok (.athrow, 1) := by decide +kernel
theorem dX5_loft_27 : decode cX5_loft 27 = .ok (.aload_n 0, 1) := by decide +kernel
theorem dX5_loft_28 : decode cX5_loft 28 = .ok (.getfield 10, 3) := by decide +kernel
theorem dX5_loft_31 : decode cX5_loft 31 = .ok (.iload_n 1, 1) := by decide +kernel
theorem dX5_loft_32 : decode cX5_loft 32 = .ok (.iload_n 2, 1) := by decide +kernel
theorem dX5_loft_33 : decode cX5_loft 33 = .ok (.invokevirtual 64, 3) := by decide +kernel
theorem dX5_loft_36 : decode cX5_loft 36 = .ok (.ireturn, 1) := by decide +kernel
set_option maxRecDepth 20000 in
theorem ggX5_count_X5_isBelow : GoodIn wsX5_count wsX5_isBelow := goodIn_r _ [7] (by decide +kernel) (by decide +kernel)
set_option maxRecDepth 20000 in
theorem gX5_count_X5_isBelow : GoodIn wsX5_count (va_wsS RX5 19 yX5_isBelow wsX5_isBelow) := goodIn_app (goodIn_of _ (by decide +kernel)) ggX5_count_X5_isBelow
set_option maxRecDepth 20000 in
theorem ggX5_count_X0_tell : GoodIn wsX5_count wsX0_tell := goodIn_r _ [12, 13, 14, 15, 16, 17, 18, 19, 20, 21, 22, 11, 23, 24, 25, 26, 27, 28, 29, 30, 31, 32, 33, 34, 35, 36, 37, 38, 39, 5, 6, 7, 42, 43, 44, 45, 46, 47, 48, 49, 50, 51, 52, 53, 54, 55, 56, 57, 58, 59, 60, 61] (by decide +kernel) (by decide +kernel)
set_option maxRecDepth 20000 in
theorem gX5_count_X0_tell : GoodIn wsX5_count (wsV RX5 202 RX0 yX0_tell wsX0_tell) := goodIn_app (goodIn_of _ (by decide +kernel)) ggX5_count_X0_tell
theorem dX5_count_0 : decode cX5_count 0 = .ok (.iload_n 1, 1) := by decide +kernel
theorem dX5_count_1 : decode cX5_count 1 = .ok (.bipush 12, 2) := by decide +kernel
theorem dX5_count_3 : decode cX5_count 3 = .ok (.invokestatic 19, 3) := by decide +kernel
theorem dX5_count_6 : decode cX5_count 6 = .ok (.ifCond .ne 13, 3) := by decide +kernel
theorem dX5_count_9 : decode cX5_count 9 = .ok (.new 23, 3) := by decide +kernel
theorem dX5_count_12 : decode cX5_count 12 = .ok (.dup, 1) := by decide +kernel
theorem dX5_count_13 : decode cX5_count 13 = .ok (.ldc 200, 2) := by decide +kernel
theorem dX5_count_15 : decode cX5_count 15 = .ok (.invokespecial 27, 3) := by decide +kernel
theorem dX5_count_18 : decode cX5_count 18 = .ok (.athrow, 1) := by decide +kernel
theorem dX5_count_19 : decode cX5_count 19 = .ok (.aload_n 0, 1) := by decide +kernel
theorem dX5_count_20 : decode cX5_count 20 = .ok (.getfield 10, 3) := by decide +kernel
theorem dX5_count_23 : decode cX5_count 23 = .ok (.iload_n 1, 1) := by decide +kernel
theorem dX5_count_24 : decode cX5_count 24 = .ok (.invokevirtual 202, 3) := by decide +kernel
theorem dX5_count_27 : decode cX5_count 27 = .ok (.ireturn, 1) := by decide +kernel
set_option maxRecDepth 20000 in
theorem ggX5_pass_X5_isFrom1To : GoodIn wsX5_pass wsX5_isFrom1To := goodIn_r _ [7] (by decide +kernel) (by decide +kernel)
set_option maxRecDepth 20000 in
theorem gX5_pass_X5_isFrom1To : GoodIn wsX5_pass (va_wsS RX5 30 yX5_isFrom1To wsX5_isFrom1To) := goodIn_app (goodIn_of _ (by decide +kernel)) ggX5_pass_X5_isFrom1To
set_option maxRecDepth 20000 in
theorem ggX5_pass_X0_liveDays : GoodIn wsX5_pass wsX0_liveDays := goodIn_r _ [12, 13, 14, 15, 11, 16, 17, 18, 19, 20, 21, 22, 23, 24, 25, 26, 27, 28, 29, 30, 31, 32, 33, 34, 35, 36, 37, 38, 39, 40, 41, 42, 43, 44, 45, 46, 47, 48, 49, 50, 51, 52, 53, 54, 55, 56, 57, 58, 59, 60, 61, 62, 63, 64, 65, 66, 67, 68, 69, 70, 71, 72, 73, 6, 74, 75, 76, 77, 78, 79, 80, 81, 82, 83, 84, 85, 86, 87, 88, 89, 90, 91, 92, 93, 94, 95, 96, 97, 98, 99, 100, 101, 102, 103, 104, 105, 106, 107, 108, 109, 110, 111, 112, 113, 114, 115, 116, 117, 118, 119, 120, 121, 122, 123, 124, 125, 126, 127, 128, 129, 130, 131, 132, 133, 134, 135, 136, 137, 138, 139, 140, 141, 142, 143, 144, 145, 146, 147, 148, 149, 150, 151, 152, 153, 154, 155, 156, 157, 158, 159, 160, 161, 162, 163, 164, 165, 166, 167, 168, 169, 170, 171, 172, 173, 174, 175, 176, 177, 178, 179, 180, 181, 184, 185, 186, 187, 188, 189, 190, 191, 192, 193, 194, 195, 196, 197, 198, 199, 200, 201, 202, 203, 204, 205, 206, 207, 208, 209, 210, 211] (by decide +kernel) (by decide +kernel)
set_option maxRecDepth 20000 in
theorem gX5_pass_X0_liveDays : GoodIn wsX5_pass (wsV RX5 209 RX0 yX0_liveDays wsX0_liveDays) := goodIn_app (goodIn_of _ (by decide +kernel)) ggX5_pass_X0_liveDays
theorem dX5_pass_0 : decode cX5_pass 0 = .ok (.iload_n 1, 1) := by decide +kernel
theorem dX5_pass_1 : decode cX5_pass 1 = .ok (.bipush 40, 2) := by decide +kernel
theorem dX5_pass_3 : decode cX5_pass 3 = .ok (.invokestatic 30, 3) := by decide +kernel
theorem dX5_pass_6 : decode cX5_pass 6 = .ok (.ifCond .ne 13, 3) := by decide +kernel
theorem dX5_pass_9 : decode cX5_pass 9 = .ok (.new 33, 3) := by decide +kernel
theorem dX5_pass_12 : decode cX5_pass 12 = .ok (.dup, 1) := by decide +kernel
theorem dX5_pass_13 : decode cX5_pass 13 = .ok (.ldc 204, 2) := by decide +kernel
theorem dX5_pass_15 : decode cX5_pass 15 = .ok (.invokespecial 37, 3) := by decide +kernel
theorem dX5_pass_18 : decode cX5_pass 18 = .ok (.athrow, 1) := by decide +kernel
theorem dX5_pass_19 : decode cX5_pass 19 = .ok (.aload_n 0, 1) := by decide +kernel
theorem dX5_pass_20 : decode cX5_pass 20 = .ok (.getfield 10, 3) := by decide +kernel
theorem dX5_pass_23 : decode cX5_pass 23 = .ok (.getfield 206, 3) := by decide +kernel
theorem dX5_pass_26 : decode cX5_pass 26 = .ok (.istore_n 2, 1) := by decide +kernel
theorem dX5_pass_27 : decode cX5_pass 27 = .ok (.aload_n 0, 1) := by decide +kernel
theorem dX5_pass_28 : decode cX5_pass 28 = .ok (.getfield 10, 3) := by decide +kernel
theorem dX5_pass_31 : decode cX5_pass 31 = .ok (.iload_n 1, 1) := by decide +kernel
theorem dX5_pass_32 : decode cX5_pass 32 = .ok (.invokevirtual 209, 3) := by decide +kernel
theorem dX5_pass_35 : decode cX5_pass 35 = .ok (.aload_n 0, 1) := by decide +kernel
theorem dX5_pass_36 : decode cX5_pass 36 = .ok (.getfield 10, 3) := by decide +kernel
theorem dX5_pass_39 : decode cX5_pass 39 = .ok (.getfield 206, 3) := by decide +kernel
theorem dX5_pass_42 : decode cX5_pass 42 = .ok (.iload_n 2, 1) := by decide +kernel
theorem dX5_pass_43 : decode cX5_pass 43 = .ok (.isub, 1) := by decide +kernel
theorem dX5_pass_44 : decode cX5_pass 44 = .ok (.ireturn, 1) := by decide +kernel
set_option maxRecDepth 20000 in
theorem ggX5_ripe_X5_isBelow : GoodIn wsX5_ripe wsX5_isBelow := goodIn_r _ [10] (by decide +kernel) (by decide +kernel)
set_option maxRecDepth 20000 in
theorem gX5_ripe_X5_isBelow : GoodIn wsX5_ripe (va_wsS RX5 19 yX5_isBelow wsX5_isBelow) := goodIn_app (goodIn_of _ (by decide +kernel)) ggX5_ripe_X5_isBelow
set_option maxRecDepth 20000 in
theorem ggX5_ripe_X5_isFrom1To : GoodIn wsX5_ripe wsX5_isFrom1To := goodIn_r _ [13] (by decide +kernel) (by decide +kernel)
set_option maxRecDepth 20000 in
theorem gX5_ripe_X5_isFrom1To : GoodIn wsX5_ripe (va_wsS RX5 30 yX5_isFrom1To wsX5_isFrom1To) := goodIn_app (goodIn_of _ (by decide +kernel)) ggX5_ripe_X5_isFrom1To
set_option maxRecDepth 20000 in
theorem ggX5_ripe_X0_becomeLike : GoodIn wsX5_ripe wsX0_becomeLike := goodIn_r _ [18, 19, 20, 21, 22, 23, 24, 25, 26, 27, 28, 29, 30, 31, 32, 33, 34, 35, 36, 37, 38, 39, 40, 41, 42, 43, 44, 45, 46, 47, 48, 49, 50, 51, 52, 53, 54, 55, 56, 57, 58, 59, 60, 61, 62, 63, 64, 65, 66, 67, 68, 69, 70, 71, 72, 73, 74, 214, 215, 216, 217, 218, 219, 220, 221, 222, 223, 224, 225, 226, 227, 228, 229, 230, 231, 232, 233, 234, 235, 236, 237, 238, 239, 240, 241] (by decide +kernel) (by decide +kernel)
set_option maxRecDepth 20000 in
theorem gX5_ripe_X0_becomeLike : GoodIn wsX5_ripe (wsV RX5 214 RX0 yX0_becomeLike wsX0_becomeLike) := goodIn_app (goodIn_of _ (by decide +kernel)) ggX5_ripe_X0_becomeLike
set_option maxRecDepth 20000 in
theorem ggX5_ripe_X4_beatOf : GoodIn wsX5_ripe wsX4_beatOf := goodIn_r _ [78, 42, 8, 9, 10, 226, 227, 228] (by decide +kernel) (by decide +kernel)
set_option maxRecDepth 20000 in
theorem gX5_ripe_X4_beatOf : GoodIn wsX5_ripe (wsV RX5 218 RX4 yX4_beatOf wsX4_beatOf) := goodIn_app (goodIn_of _ (by decide +kernel)) ggX5_ripe_X4_beatOf
set_option maxRecDepth 20000 in
theorem ggX5_ripe_X0_liveDay : GoodIn wsX5_ripe wsX0_liveDay := goodIn_r _ [82, 30, 29, 19, 32, 83, 84, 85, 86, 87, 88, 89, 38, 90, 40, 42, 91, 92, 93, 94, 95, 96, 97, 98, 99, 100, 101, 17, 102, 33, 31, 22, 23, 103, 104, 105, 106, 107, 108, 109, 110, 57, 111, 62, 112, 113, 114, 115, 59, 116, 117, 118, 119, 63, 120, 76, 77, 78, 8, 9, 10, 121, 122, 123, 47, 124, 52, 125, 126, 127, 128, 49, 129, 130, 131, 132, 60, 133, 134, 135, 136, 21, 137, 138, 139, 140, 141, 142, 143, 144, 145, 146, 147, 148, 43, 149, 150, 151, 152, 153, 154, 155, 53, 156, 157, 158, 159, 50, 160, 161, 162, 67, 163, 69, 71, 73, 74, 70, 164, 165, 166, 7, 167, 168, 169, 170, 171, 172, 173, 174, 175, 176, 177, 178, 179, 180, 181, 182, 183, 184, 185, 186, 187, 188, 189, 190, 191, 192, 193, 194, 195, 196, 197, 198, 199, 200, 201, 202, 203, 34, 204, 205, 206, 207, 208, 209, 210, 211, 214, 215, 216, 217, 218, 219, 220, 221, 222, 223, 224, 225, 233, 234, 235, 236, 226, 227, 228, 229, 230, 231, 232, 237, 238, 239, 240, 241] (by decide +kernel) (by decide +kernel)
set_option maxRecDepth 20000 in
theorem gX5_ripe_X0_liveDay : GoodIn wsX5_ripe (wsV RX5 221 RX0 yX0_liveDay wsX0_liveDay) := goodIn_app (goodIn_of _ (by decide +kernel)) ggX5_ripe_X0_liveDay
theorem dX5_ripe_0 : decode cX5_ripe 0 = .ok (.iload_n 1, 1) := by decide +kernel
theorem dX5_ripe_1 : decode cX5_ripe 1 = .ok (.iconst 4, 1) := by decide +kernel
theorem dX5_ripe_2 : decode cX5_ripe 2 = .ok (.invokestatic 19, 3) := by decide +kernel
theorem dX5_ripe_5 : decode cX5_ripe 5 = .ok (.ifCond .ne 13, 3) := by decide +kernel
theorem dX5_ripe_8 : decode cX5_ripe 8 = .ok (.new 23, 3) := by decide +kernel
theorem dX5_ripe_11 : decode cX5_ripe 11 = .ok (.dup, 1) := by decide +kernel
theorem dX5_ripe_12 : decode cX5_ripe 12 = .ok (.ldc 100, 2) := by decide +kernel
theorem dX5_ripe_14 : decode cX5_ripe 14 = .ok (.invokespecial 27, 3) := by decide +kernel
theorem dX5_ripe_17 : decode cX5_ripe 17 = .ok (.athrow, 1) := by decide +kernel
theorem dX5_ripe_18 : decode cX5_ripe 18 = .ok (.iload_n 2, 1) := by decide +kernel
theorem dX5_ripe_19 : decode cX5_ripe 19 = .ok (.bipush 99, 2) := by decide +kernel
theorem dX5_ripe_21 : decode cX5_ripe 21 = .ok (.invokestatic 30, 3) := by decide +kernel
theorem dX5_ripe_24 : decode cX5_ripe 24 = .ok (.ifCond .ne 13, 3) := by decide +kernel
theorem dX5_ripe_27 : decode cX5_ripe 27 = .ok (.new 33, 3) := by decide +kernel
theorem dX5_ripe_30 : decode cX5_ripe 30 = .ok (.dup, 1) := by decide +kernel
theorem dX5_ripe_31 : decode cX5_ripe 31 = .ok (.ldc 212, 2) := by decide +kernel
theorem dX5_ripe_33 : decode cX5_ripe 33 = .ok (.invokespecial 37, 3) := by decide +kernel
theorem dX5_ripe_36 : decode cX5_ripe 36 = .ok (.athrow, 1) := by decide +kernel
theorem dX5_ripe_37 : decode cX5_ripe 37 = .ok (.aload_n 0, 1) := by decide +kernel
theorem dX5_ripe_38 : decode cX5_ripe 38 = .ok (.getfield 16, 3) := by decide +kernel
theorem dX5_ripe_41 : decode cX5_ripe 41 = .ok (.aload_n 0, 1) := by decide +kernel
theorem dX5_ripe_42 : decode cX5_ripe 42 = .ok (.getfield 10, 3) := by decide +kernel
theorem dX5_ripe_45 : decode cX5_ripe 45 = .ok (.invokevirtual 214, 3) := by decide +kernel
theorem dX5_ripe_48 : decode cX5_ripe 48 = .ok (.iconst 0, 1) := by decide +kernel
theorem dX5_ripe_49 : decode cX5_ripe 49 = .ok (.istore_n 3, 1) := by decide +kernel
theorem dX5_ripe_50 : decode cX5_ripe 50 = .ok (.iload_n 3, 1) := by decide +kernel
theorem dX5_ripe_51 : decode cX5_ripe 51 = .ok (.bipush 60, 2) := by decide +kernel
theorem dX5_ripe_53 : decode cX5_ripe 53 = .ok (.if_icmp .gt 33, 3) := by decide +kernel
theorem dX5_ripe_56 : decode cX5_ripe 56 = .ok (.aload_n 0, 1) := by decide +kernel
theorem dX5_ripe_57 : decode cX5_ripe 57 = .ok (.getfield 16, 3) := by decide +kernel
theorem dX5_ripe_60 : decode cX5_ripe 60 = .ok (.getfield 81, 3) := by decide +kernel
theorem dX5_ripe_63 : decode cX5_ripe 63 = .ok (.iload_n 1, 1) := by decide +kernel
theorem dX5_ripe_64 : decode cX5_ripe 64 = .ok (.invokevirtual 218, 3) := by decide +kernel
theorem dX5_ripe_67 : decode cX5_ripe 67 = .ok (.iload_n 2, 1) := by decide +kernel
theorem dX5_ripe_68 : decode cX5_ripe 68 = .ok (.if_icmp .lt 5, 3) := by decide +kernel
theorem dX5_ripe_71 : decode cX5_ripe 71 = .ok (.iload_n 3, 1) := by decide +kernel
theorem dX5_ripe_72 : decode cX5_ripe 72 = .ok (.ireturn, 1) := by decide +kernel
theorem dX5_ripe_73 : decode cX5_ripe 73 = .ok (.aload_n 0, 1) := by decide +kernel
theorem dX5_ripe_74 : decode cX5_ripe 74 = .ok (.getfield 16, 3) := by decide +kernel
theorem dX5_ripe_77 : decode cX5_ripe 77 = .ok (.invokevirtual 221, 3) := by decide +kernel
theorem dX5_ripe_80 : decode cX5_ripe 80 = .ok (.iinc 3 1, 3) := by decide +kernel
theorem dX5_ripe_83 : decode cX5_ripe 83 = .ok (.goto (-33), 3) := by decide +kernel
theorem dX5_ripe_86 : decode cX5_ripe 86 = .ok (.iconst (-1), 1) := by decide +kernel
theorem dX5_ripe_87 : decode cX5_ripe 87 = .ok (.ireturn, 1) := by decide +kernel
set_option maxRecDepth 20000 in
theorem ggX5_foresee_X5_isFrom1To : GoodIn wsX5_foresee wsX5_isFrom1To := goodIn_r _ [10] (by decide +kernel) (by decide +kernel)
set_option maxRecDepth 20000 in
theorem gX5_foresee_X5_isFrom1To : GoodIn wsX5_foresee (va_wsS RX5 30 yX5_isFrom1To wsX5_isFrom1To) := goodIn_app (goodIn_of _ (by decide +kernel)) ggX5_foresee_X5_isFrom1To
set_option maxRecDepth 20000 in
theorem ggX5_foresee_X5_isBelow : GoodIn wsX5_foresee wsX5_isBelow := goodIn_r _ [13] (by decide +kernel) (by decide +kernel)
set_option maxRecDepth 20000 in
theorem gX5_foresee_X5_isBelow : GoodIn wsX5_foresee (va_wsS RX5 19 yX5_isBelow wsX5_isBelow) := goodIn_app (goodIn_of _ (by decide +kernel)) ggX5_foresee_X5_isBelow
set_option maxRecDepth 20000 in
theorem ggX5_foresee_X0_becomeLike : GoodIn wsX5_foresee wsX0_becomeLike := goodIn_r _ [18, 19, 20, 21, 22, 23, 24, 25, 26, 27, 28, 29, 30, 31, 32, 33, 34, 35, 36, 37, 38, 39, 40, 41, 42, 43, 44, 45, 46, 47, 48, 49, 50, 51, 52, 53, 54, 55, 56, 57, 58, 59, 60, 61, 62, 63, 64, 65, 66, 67, 68, 69, 70, 71, 72, 73, 74, 233, 234, 235, 236, 237, 238, 239, 240, 241, 242, 243, 244, 245, 246, 247, 248, 249, 250, 251, 252, 253, 254, 255, 256, 257, 258, 259, 260] (by decide +kernel) (by decide +kernel)
set_option maxRecDepth 20000 in
theorem gX5_foresee_X0_becomeLike : GoodIn wsX5_foresee (wsV RX5 214 RX0 yX0_becomeLike wsX0_becomeLike) := goodIn_app (goodIn_of _ (by decide +kernel)) ggX5_foresee_X0_becomeLike
set_option maxRecDepth 20000 in
theorem ggX5_foresee_X0_liveDays : GoodIn wsX5_foresee wsX0_liveDays := goodIn_r _ [78, 79, 80, 81, 17, 82, 30, 29, 19, 32, 83, 84, 85, 86, 87, 88, 89, 38, 90, 40, 42, 91, 92, 93, 94, 95, 96, 97, 98, 99, 100, 101, 102, 33, 31, 22, 23, 103, 104, 105, 106, 107, 108, 109, 110, 57, 111, 62, 112, 113, 114, 115, 59, 116, 117, 118, 119, 63, 120, 121, 122, 123, 12, 9, 13, 124, 125, 126, 47, 127, 52, 128, 129, 130, 131, 49, 132, 133, 134, 135, 60, 136, 137, 138, 139, 21, 140, 141, 142, 143, 144, 145, 146, 147, 148, 149, 150, 151, 43, 152, 153, 154, 155, 156, 157, 158, 53, 159, 160, 161, 162, 50, 163, 164, 165, 67, 166, 69, 71, 73, 74, 70, 167, 168, 169, 11, 170, 171, 172, 173, 174, 175, 176, 177, 178, 179, 180, 181, 182, 183, 184, 185, 186, 187, 188, 189, 190, 191, 192, 193, 194, 195, 196, 197, 198, 199, 200, 201, 202, 203, 204, 205, 206, 34, 207, 208, 209, 210, 211, 212, 213, 214, 233, 234, 235, 236, 237, 238, 239, 240, 241, 242, 243, 244, 252, 253, 254, 255, 245, 246, 247, 248, 249, 250, 251, 256, 257, 258, 259, 260] (by decide +kernel) (by decide +kernel)
set_option maxRecDepth 20000 in
theorem gX5_foresee_X0_liveDays : GoodIn wsX5_foresee (wsV RX5 209 RX0 yX0_liveDays wsX0_liveDays) := goodIn_app (goodIn_of _ (by decide +kernel)) ggX5_foresee_X0_liveDays
set_option maxRecDepth 20000 in
theorem ggX5_foresee_X0_tell : GoodIn wsX5_foresee wsX0_tell := goodIn_r _ [218, 19, 20, 21, 22, 23, 33, 30, 136, 137, 138, 17, 139, 219, 220, 221, 222, 34, 223, 224, 225, 38, 226, 40, 227, 228, 229, 230, 24, 12, 9, 13, 233, 234, 235, 236, 237, 238, 239, 240, 241, 242, 243, 244, 256, 257, 258, 259, 260, 245, 246, 247] (by decide +kernel) (by decide +kernel)
set_option maxRecDepth 20000 in
theorem gX5_foresee_X0_tell : GoodIn wsX5_foresee (wsV RX5 202 RX0 yX0_tell wsX0_tell) := goodIn_app (goodIn_of _ (by decide +kernel)) ggX5_foresee_X0_tell
theorem dX5_foresee_0 : decode cX5_foresee 0 = .ok (.iload_n 1, 1) := by decide +kernel
theorem dX5_foresee_1 : decode cX5_foresee 1 = .ok (.bipush 40, 2) := by decide +kernel
theorem dX5_foresee_3 : decode cX5_foresee 3 = .ok (.invokestatic 30, 3) := by decide +kernel
theorem dX5_foresee_6 : decode cX5_foresee 6 = .ok (.ifCond .ne 13, 3) := by decide +kernel
theorem dX5_foresee_9 : decode cX5_foresee 9 = .ok (.new 33, 3) := by decide +kernel
theorem dX5_foresee_12 : decode cX5_foresee 12 = .ok (.dup, 1) := by decide +kernel
theorem dX5_foresee_13 : decode cX5_foresee 13 = .ok (.ldc 204, 2) := by decide +kernel
theorem dX5_foresee_15 : decode cX5_foresee 15 = .ok (.invokespecial 37, 3) := by decide +kernel
theorem dX5_foresee_18 : decode cX5_foresee 18 = .ok (.athrow, 1) := by decide +kernel
theorem dX5_foresee_19 : decode cX5_foresee 19 = .ok (.iload_n 2, 1) := by decide +kernel
theorem dX5_foresee_20 : decode cX5_foresee 20 = .ok (.bipush 12, 2) := by decide +kernel
theorem dX5_foresee_22 : decode cX5_foresee 22 = .ok (.invokestatic 19, 3) := by decide +kernel
theorem dX5_foresee_25 : decode cX5_foresee 25 = .ok (.ifCond .ne 13, 3) := by decide +kernel
theorem dX5_foresee_28 : decode cX5_foresee 28 = .ok (.new 23, 3) := by decide +kernel
theorem dX5_foresee_31 : decode cX5_foresee 31 = .ok (.dup, 1) := by decide +kernel
theorem dX5_foresee_32 : decode cX5_foresee 32 = .ok (.ldc 200, 2) := by decide +kernel
theorem dX5_foresee_34 : decode cX5_foresee 34 = .ok (.invokespecial 27, 3) := by decide +kernel
theorem dX5_foresee_37 : decode cX5_foresee 37 = .ok (.athrow, 1) := by decide +kernel
theorem dX5_foresee_38 : decode cX5_foresee 38 = .ok (.aload_n 0, 1) := by decide +kernel
theorem dX5_foresee_39 : decode cX5_foresee 39 = .ok (.getfield 16, 3) := by decide +kernel
theorem dX5_foresee_42 : decode cX5_foresee 42 = .ok (.aload_n 0, 1) := by decide +kernel
theorem dX5_foresee_43 : decode cX5_foresee 43 = .ok (.getfield 10, 3) := by decide +kernel
theorem dX5_foresee_46 : decode cX5_foresee 46 = .ok (.invokevirtual 214, 3) := by decide +kernel
theorem dX5_foresee_49 : decode cX5_foresee 49 = .ok (.aload_n 0, 1) := by decide +kernel
theorem dX5_foresee_50 : decode cX5_foresee 50 = .ok (.getfield 16, 3) := by decide +kernel
theorem dX5_foresee_53 : decode cX5_foresee 53 = .ok (.iload_n 1, 1) := by decide +kernel
theorem dX5_foresee_54 : decode cX5_foresee 54 = .ok (.invokevirtual 209, 3) := by decide +kernel
theorem dX5_foresee_57 : decode cX5_foresee 57 = .ok (.aload_n 0, 1) := by decide +kernel
theorem dX5_foresee_58 : decode cX5_foresee 58 = .ok (.getfield 16, 3) := by decide +kernel
theorem dX5_foresee_61 : decode cX5_foresee 61 = .ok (.iload_n 2, 1) := by decide +kernel
theorem dX5_foresee_62 : decode cX5_foresee 62 = .ok (.invokevirtual 202, 3) := by decide +kernel
theorem dX5_foresee_65 : decode cX5_foresee 65 = .ok (.ireturn, 1) := by decide +kernel
set_option maxRecDepth 20000 in
theorem ggX5_mean_X1_wornOf : GoodIn wsX5_mean wsX1_wornOf := goodIn_r _ [6, 7, 8, 9, 10, 5, 11, 12, 27, 28, 29, 30] (by decide +kernel) (by decide +kernel)
set_option maxRecDepth 20000 in
theorem gX5_mean_X1_wornOf : GoodIn wsX5_mean (wsV RX5 132 RX1 yX1_wornOf wsX1_wornOf) := goodIn_app (goodIn_of _ (by decide +kernel)) ggX5_mean_X1_wornOf
theorem dX5_mean_0 : decode cX5_mean 0 = .ok (.aload_n 0, 1) := by decide +kernel
theorem dX5_mean_1 : decode cX5_mean 1 = .ok (.getfield 10, 3) := by decide +kernel
theorem dX5_mean_4 : decode cX5_mean 4 = .ok (.getfield 112, 3) := by decide +kernel
theorem dX5_mean_7 : decode cX5_mean 7 = .ok (.getfield 116, 3) := by decide +kernel
theorem dX5_mean_10 : decode cX5_mean 10 = .ok (.istore_n 1, 1) := by decide +kernel
theorem dX5_mean_11 : decode cX5_mean 11 = .ok (.iload_n 1, 1) := by decide +kernel
theorem dX5_mean_12 : decode cX5_mean 12 = .ok (.ifCond .ne 5, 3) := by decide +kernel
theorem dX5_mean_15 : decode cX5_mean 15 = .ok (.dconst 0, 1) := by decide +kernel
theorem dX5_mean_16 : decode cX5_mean 16 = .ok (.dreturn, 1) := by decide +kernel
theorem dX5_mean_17 : decode cX5_mean 17 = .ok (.iconst 0, 1) := by decide +kernel
theorem dX5_mean_18 : decode cX5_mean 18 = .ok (.istore_n 2, 1) := by decide +kernel
theorem dX5_mean_19 : decode cX5_mean 19 = .ok (.iconst 0, 1) := by decide +kernel
theorem dX5_mean_20 : decode cX5_mean 20 = .ok (.istore_n 3, 1) := by decide +kernel
theorem dX5_mean_21 : decode cX5_mean 21 = .ok (.iload_n 3, 1) := by decide +kernel
theorem dX5_mean_22 : decode cX5_mean 22 = .ok (.iload_n 1, 1) := by decide +kernel
theorem dX5_mean_23 : decode cX5_mean 23 = .ok (.if_icmp .ge 23, 3) := by decide +kernel
theorem dX5_mean_26 : decode cX5_mean 26 = .ok (.iload_n 2, 1) := by decide +kernel
theorem dX5_mean_27 : decode cX5_mean 27 = .ok (.aload_n 0, 1) := by decide +kernel
theorem dX5_mean_28 : decode cX5_mean 28 = .ok (.getfield 10, 3) := by decide +kernel
theorem dX5_mean_31 : decode cX5_mean 31 = .ok (.getfield 112, 3) := by decide +kernel
theorem dX5_mean_34 : decode cX5_mean 34 = .ok (.iload_n 3, 1) := by decide +kernel
theorem dX5_mean_35 : decode cX5_mean 35 = .ok (.invokevirtual 132, 3) := by decide +kernel
theorem dX5_mean_38 : decode cX5_mean 38 = .ok (.iadd, 1) := by decide +kernel
theorem dX5_mean_39 : decode cX5_mean 39 = .ok (.istore_n 2, 1) := by decide +kernel
theorem dX5_mean_40 : decode cX5_mean 40 = .ok (.iinc 3 1, 3) := by decide +kernel
theorem dX5_mean_43 : decode cX5_mean 43 = .ok (.goto (-22), 3) := by decide +kernel
theorem dX5_mean_46 : decode cX5_mean 46 = .ok (.iload_n 2, 1) := by decide +kernel
theorem dX5_mean_47 : decode cX5_mean 47 = .ok (.i2d, 1) := by decide +kernel
theorem dX5_mean_48 : decode cX5_mean 48 = .ok (.iload_n 1, 1) := by decide +kernel
theorem dX5_mean_49 : decode cX5_mean 49 = .ok (.i2d, 1) := by decide +kernel
theorem dX5_mean_50 : decode cX5_mean 50 = .ok (.ddiv, 1) := by decide +kernel
theorem dX5_mean_51 : decode cX5_mean 51 = .ok (.dreturn, 1) := by decide +kernel
theorem dX5_isBelow_0 : decode cX5_isBelow 0 = .ok (.iload_n 0, 1) := by decide +kernel
theorem dX5_isBelow_1 : decode cX5_isBelow 1 = .ok (.ifCond .lt 12, 3) := by decide +kernel
theorem dX5_isBelow_4 : decode cX5_isBelow 4 = .ok (.iload_n 0, 1) := by decide +kernel
theorem dX5_isBelow_5 : decode cX5_isBelow 5 = .ok (.iload_n 1, 1) := by decide +kernel
theorem dX5_isBelow_6 : decode cX5_isBelow 6 = .ok (.if_icmp .ge 7, 3) := by decide +kernel
theorem dX5_isBelow_9 : decode cX5_isBelow 9 = .ok (.iconst 1, 1) := by decide +kernel
theorem dX5_isBelow_10 : decode cX5_isBelow 10 = .ok (.goto 4, 3) := by decide +kernel
theorem dX5_isBelow_13 : decode cX5_isBelow 13 = .ok (.iconst 0, 1) := by decide +kernel
theorem dX5_isBelow_14 : decode cX5_isBelow 14 = .ok (.ireturn, 1) := by decide +kernel
theorem dX5_isFrom1To_0 : decode cX5_isFrom1To 0 = .ok (.iload_n 0, 1) := by decide +kernel
theorem dX5_isFrom1To_1 : decode cX5_isFrom1To 1 = .ok (.iconst 1, 1) := by decide +kernel
theorem dX5_isFrom1To_2 : decode cX5_isFrom1To 2 = .ok (.if_icmp .lt 12, 3) := by decide +kernel
theorem dX5_isFrom1To_5 : decode cX5_isFrom1To 5 = .ok (.iload_n 0, 1) := by decide +kernel
theorem dX5_isFrom1To_6 : decode cX5_isFrom1To 6 = .ok (.iload_n 1, 1) := by decide +kernel
theorem dX5_isFrom1To_7 : decode cX5_isFrom1To 7 = .ok (.if_icmp .gt 7, 3) := by decide +kernel
theorem dX5_isFrom1To_10 : decode cX5_isFrom1To 10 = .ok (.iconst 1, 1) := by decide +kernel
theorem dX5_isFrom1To_11 : decode cX5_isFrom1To 11 = .ok (.goto 4, 3) := by decide +kernel
theorem dX5_isFrom1To_14 : decode cX5_isFrom1To 14 = .ok (.iconst 0, 1) := by decide +kernel
theorem dX5_isFrom1To_15 : decode cX5_isFrom1To 15 = .ok (.ireturn, 1) := by decide +kernel
set_option maxRecDepth 20000 in
theorem ggX5_worthOf_X5_isBelow : GoodIn wsX5_worthOf wsX5_isBelow := goodIn_r _ [5] (by decide +kernel) (by decide +kernel)
set_option maxRecDepth 20000 in
theorem gX5_worthOf_X5_isBelow : GoodIn wsX5_worthOf (va_wsS RX5 19 yX5_isBelow wsX5_isBelow) := goodIn_app (goodIn_of _ (by decide +kernel)) ggX5_worthOf_X5_isBelow
theorem dX5_worthOf_0 : decode cX5_worthOf 0 = .ok (.iload_n 0, 1) := by decide +kernel
theorem dX5_worthOf_1 : decode cX5_worthOf 1 = .ok (.iconst 3, 1) := by decide +kernel
theorem dX5_worthOf_2 : decode cX5_worthOf 2 = .ok (.invokestatic 19, 3) := by decide +kernel
theorem dX5_worthOf_5 : decode cX5_worthOf 5 = .ok (.ifCond .eq 11, 3) := by decide +kernel
theorem dX5_worthOf_8 : decode cX5_worthOf 8 = .ok (.getstatic 252, 3) := by decide +kernel
theorem dX5_worthOf_11 : decode cX5_worthOf 11 = .ok (.iload_n 0, 1) := by decide +kernel
theorem dX5_worthOf_12 : decode cX5_worthOf 12 = .ok (.iaload, 1) := by decide +kernel
theorem dX5_worthOf_13 : decode cX5_worthOf 13 = .ok (.goto 4, 3) := by decide +kernel
theorem dX5_worthOf_16 : decode cX5_worthOf 16 = .ok (.iconst 0, 1) := by decide +kernel
theorem dX5_worthOf_17 : decode cX5_worthOf 17 = .ok (.ireturn, 1) := by decide +kernel
