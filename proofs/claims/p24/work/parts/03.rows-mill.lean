theorem nmX0 : ∀ a, a < 12 → ∀ b, b < 12 → a ≠ b → (TX0 a).2.1 ≠ (TX0 b).2.1 := by decide +kernel
theorem tyX0_ok : ∀ k, k < 12 → parseFieldDescriptor (TX0 k).2.2.1 = some (tyX0 k) := by decide +kernel
theorem inlX0 : ∀ w ∈ wsX00, w ∈ wsL_law := fun _ h => List.mem_append_left _ (List.mem_append_left _ (List.mem_append_left _ (List.mem_append_left _ (List.mem_append_left _ (List.mem_append_left _ (List.mem_append_left _ (List.mem_append_left _ (List.mem_append_right _ h))))))))
set_option maxRecDepth 20000 in
theorem ggX0_init_X4_init : GoodIn wsX0_init wsX4_init := goodIn_r _ [31, 32, 2, 3, 9, 33, 34, 35, 36, 37, 38, 39, 75, 76, 77] (by decide +kernel) (by decide +kernel)
set_option maxRecDepth 20000 in
theorem gX0_init_X4_init : GoodIn wsX0_init (wsX4_init) := ggX0_init_X4_init
set_option maxRecDepth 20000 in
theorem ggX0_init_X1_init : GoodIn wsX0_init wsX1_init := goodIn_r _ [41, 42, 2, 3, 43, 9, 44, 45, 46, 78, 79, 80, 81] (by decide +kernel) (by decide +kernel)
set_option maxRecDepth 20000 in
theorem gX0_init_X1_init_n43 : GoodIn wsX0_init (wsX1_init) := ggX0_init_X1_init
set_option maxRecDepth 20000 in
theorem ggX0_init_X3_init : GoodIn wsX0_init wsX3_init := goodIn_r _ [48, 49, 2, 3, 50, 9, 51, 52, 53, 82, 83, 84, 85] (by decide +kernel) (by decide +kernel)
set_option maxRecDepth 20000 in
theorem gX0_init_X3_init_n50 : GoodIn wsX0_init (wsX3_init) := ggX0_init_X3_init
set_option maxRecDepth 20000 in
theorem ggX0_init_X2_init : GoodIn wsX0_init wsX2_init := goodIn_r _ [55, 56, 2, 3, 57, 58, 9, 59, 60, 61, 86, 87, 88, 89, 90] (by decide +kernel) (by decide +kernel)
set_option maxRecDepth 20000 in
theorem gX0_init_X2_init_n57 : GoodIn wsX0_init (wsX2_init) := ggX0_init_X2_init
set_option maxRecDepth 20000 in
theorem ggX0_init_J7_fill_53178 : GoodIn wsX0_init wsJ7_fill_53178 := goodIn_r _ [39] (by decide +kernel) (by decide +kernel)
set_option maxRecDepth 20000 in
theorem gX0_init_J7_fill_53178 : GoodIn wsX0_init (va_wsS RX0 65 yJ7_fill_53178 wsJ7_fill_53178) := goodIn_app (goodIn_of _ (by decide +kernel)) ggX0_init_J7_fill_53178
theorem dX0_init_0 : decode cX0_init 0 = .ok (.aload_n 0, 1) := by decide +kernel
theorem dX0_init_1 : decode cX0_init 1 = .ok (.invokespecial 3, 3) := by decide +kernel
theorem dX0_init_4 : decode cX0_init 4 = .ok (.aload_n 0, 1) := by decide +kernel
theorem dX0_init_5 : decode cX0_init 5 = .ok (.iconst 0, 1) := by decide +kernel
theorem dX0_init_6 : decode cX0_init 6 = .ok (.putfield 9, 3) := by decide +kernel
theorem dX0_init_9 : decode cX0_init 9 = .ok (.aload_n 0, 1) := by decide +kernel
theorem dX0_init_10 : decode cX0_init 10 = .ok (.bipush 40, 2) := by decide +kernel
theorem dX0_init_12 : decode cX0_init 12 = .ok (.putfield 15, 3) := by decide +kernel
theorem dX0_init_15 : decode cX0_init 15 = .ok (.aload_n 0, 1) := by decide +kernel
theorem dX0_init_16 : decode cX0_init 16 = .ok (.bipush 30, 2) := by decide +kernel
theorem dX0_init_18 : decode cX0_init 18 = .ok (.putfield 18, 3) := by decide +kernel
theorem dX0_init_21 : decode cX0_init 21 = .ok (.aload_n 0, 1) := by decide +kernel
theorem dX0_init_22 : decode cX0_init 22 = .ok (.iconst 0, 1) := by decide +kernel
theorem dX0_init_23 : decode cX0_init 23 = .ok (.putfield 21, 3) := by decide +kernel
theorem dX0_init_26 : decode cX0_init 26 = .ok (.aload_n 0, 1) := by decide +kernel
theorem dX0_init_27 : decode cX0_init 27 = .ok (.iconst 0, 1) := by decide +kernel
theorem dX0_init_28 : decode cX0_init 28 = .ok (.putfield 24, 3) := by decide +kernel
theorem dX0_init_31 : decode cX0_init 31 = .ok (.aload_n 0, 1) := by decide +kernel
theorem dX0_init_32 : decode cX0_init 32 = .ok (.iconst 3, 1) := by decide +kernel
theorem dX0_init_33 : decode cX0_init 33 = .ok (.newarray .int, 2) := by decide +kernel
theorem dX0_init_35 : decode cX0_init 35 = .ok (.putfield 27, 3) := by decide +kernel
theorem dX0_init_38 : decode cX0_init 38 = .ok (.aload_n 0, 1) := by decide +kernel
theorem dX0_init_39 : decode cX0_init 39 = .ok (.bipush 7, 2) := by decide +kernel
theorem dX0_init_41 : decode cX0_init 41 = .ok (.newarray .int, 2) := by decide +kernel
theorem dX0_init_43 : decode cX0_init 43 = .ok (.putfield 31, 3) := by decide +kernel
theorem dX0_init_46 : decode cX0_init 46 = .ok (.aload_n 0, 1) := by decide +kernel
theorem dX0_init_47 : decode cX0_init 47 = .ok (.new 34, 3) := by decide +kernel
theorem dX0_init_50 : decode cX0_init 50 = .ok (.dup, 1) := by decide +kernel
theorem dX0_init_51 : decode cX0_init 51 = .ok (.invokespecial 36, 3) := by decide +kernel
theorem dX0_init_54 : decode cX0_init 54 = .ok (.putfield 37, 3) := by decide +kernel
theorem dX0_init_57 : decode cX0_init 57 = .ok (.aload_n 0, 1) := by decide +kernel
theorem dX0_init_58 : decode cX0_init 58 = .ok (.new 41, 3) := by decide +kernel
theorem dX0_init_61 : decode cX0_init 61 = .ok (.dup, 1) := by decide +kernel
theorem dX0_init_62 : decode cX0_init 62 = .ok (.invokespecial 43, 3) := by decide +kernel
theorem dX0_init_65 : decode cX0_init 65 = .ok (.putfield 44, 3) := by decide +kernel
theorem dX0_init_68 : decode cX0_init 68 = .ok (.aload_n 0, 1) := by decide +kernel
theorem dX0_init_69 : decode cX0_init 69 = .ok (.new 48, 3) := by decide +kernel
theorem dX0_init_72 : decode cX0_init 72 = .ok (.dup, 1) := by decide +kernel
theorem dX0_init_73 : decode cX0_init 73 = .ok (.invokespecial 50, 3) := by decide +kernel
theorem dX0_init_76 : decode cX0_init 76 = .ok (.putfield 51, 3) := by decide +kernel
theorem dX0_init_79 : decode cX0_init 79 = .ok (.aload_n 0, 1) := by decide +kernel
theorem dX0_init_80 : decode cX0_init 80 = .ok (.new 55, 3) := by decide +kernel
theorem dX0_init_83 : decode cX0_init 83 = .ok (.dup, 1) := by decide +kernel
theorem dX0_init_84 : decode cX0_init 84 = .ok (.invokespecial 57, 3) := by decide +kernel
theorem dX0_init_87 : decode cX0_init 87 = .ok (.putfield 58, 3) := by decide +kernel
theorem dX0_init_90 : decode cX0_init 90 = .ok (.aload_n 0, 1) := by decide +kernel
theorem dX0_init_91 : decode cX0_init 91 = .ok (.bipush 30, 2) := by decide +kernel
theorem dX0_init_93 : decode cX0_init 93 = .ok (.newarray .int, 2) := by decide +kernel
theorem dX0_init_95 : decode cX0_init 95 = .ok (.putfield 62, 3) := by decide +kernel
theorem dX0_init_98 : decode cX0_init 98 = .ok (.aload_n 0, 1) := by decide +kernel
theorem dX0_init_99 : decode cX0_init 99 = .ok (.getfield 27, 3) := by decide +kernel
theorem dX0_init_102 : decode cX0_init 102 = .ok (.bipush 60, 2) := by decide +kernel
theorem dX0_init_104 : decode cX0_init 104 = .ok (.invokestatic 65, 3) := by decide +kernel
theorem dX0_init_107 : decode cX0_init 107 = .ok (.aload_n 0, 1) := by decide +kernel
theorem dX0_init_108 : decode cX0_init 108 = .ok (.getfield 31, 3) := by decide +kernel
theorem dX0_init_111 : decode cX0_init 111 = .ok (.iconst 4, 1) := by decide +kernel
theorem dX0_init_112 : decode cX0_init 112 = .ok (.invokestatic 65, 3) := by decide +kernel
theorem dX0_init_115 : decode cX0_init 115 = .ok (.return_, 1) := by decide +kernel
set_option maxRecDepth 20000 in
theorem ggX0_becomeLike_X4_becomeLike : GoodIn wsX0_becomeLike wsX4_becomeLike := goodIn_r _ [21, 22, 23, 8, 9, 10, 24, 25, 69, 70, 71] (by decide +kernel) (by decide +kernel)
set_option maxRecDepth 20000 in
theorem gX0_becomeLike_X4_becomeLike : GoodIn wsX0_becomeLike (wsV RX0 77 RX4 yX4_becomeLike wsX4_becomeLike) := goodIn_app (goodIn_of _ (by decide +kernel)) ggX0_becomeLike_X4_becomeLike
set_option maxRecDepth 20000 in
theorem ggX0_becomeLike_X1_becomeLike : GoodIn wsX0_becomeLike wsX1_becomeLike := goodIn_r _ [30, 31, 32, 33, 8, 9, 10, 34, 35, 72, 73, 74, 75] (by decide +kernel) (by decide +kernel)
set_option maxRecDepth 20000 in
theorem gX0_becomeLike_X1_becomeLike : GoodIn wsX0_becomeLike (wsV RX0 81 RX1 yX1_becomeLike wsX1_becomeLike) := goodIn_app (goodIn_of _ (by decide +kernel)) ggX0_becomeLike_X1_becomeLike
set_option maxRecDepth 20000 in
theorem ggX0_becomeLike_X3_becomeLike : GoodIn wsX0_becomeLike wsX3_becomeLike := goodIn_r _ [40, 41, 42, 43, 8, 9, 10, 44, 45, 76, 77, 78, 79] (by decide +kernel) (by decide +kernel)
set_option maxRecDepth 20000 in
theorem gX0_becomeLike_X3_becomeLike : GoodIn wsX0_becomeLike (wsV RX0 84 RX3 yX3_becomeLike wsX3_becomeLike) := goodIn_app (goodIn_of _ (by decide +kernel)) ggX0_becomeLike_X3_becomeLike
set_option maxRecDepth 20000 in
theorem ggX0_becomeLike_X2_becomeLike : GoodIn wsX0_becomeLike wsX2_becomeLike := goodIn_r _ [50, 51, 52, 53, 54, 8, 9, 10, 55, 56, 80, 81, 82, 83, 84] (by decide +kernel) (by decide +kernel)
set_option maxRecDepth 20000 in
theorem gX0_becomeLike_X2_becomeLike : GoodIn wsX0_becomeLike (wsV RX0 87 RX2 yX2_becomeLike wsX2_becomeLike) := goodIn_app (goodIn_of _ (by decide +kernel)) ggX0_becomeLike_X2_becomeLike
theorem dX0_becomeLike_0 : decode cX0_becomeLike 0 = .ok (.aload_n 0, 1) := by decide +kernel
theorem dX0_becomeLike_1 : decode cX0_becomeLike 1 = .ok (.aload_n 1, 1) := by decide +kernel
theorem dX0_becomeLike_2 : decode cX0_becomeLike 2 = .ok (.getfield 9, 3) := by decide +kernel
theorem dX0_becomeLike_5 : decode cX0_becomeLike 5 = .ok (.putfield 9, 3) := by decide +kernel
theorem dX0_becomeLike_8 : decode cX0_becomeLike 8 = .ok (.aload_n 0, 1) := by decide +kernel
theorem dX0_becomeLike_9 : decode cX0_becomeLike 9 = .ok (.aload_n 1, 1) := by decide +kernel
theorem dX0_becomeLike_10 : decode cX0_becomeLike 10 = .ok (.getfield 15, 3) := by decide +kernel
theorem dX0_becomeLike_13 : decode cX0_becomeLike 13 = .ok (.putfield 15, 3) := by decide +kernel
theorem dX0_becomeLike_16 : decode cX0_becomeLike 16 = .ok (.aload_n 0, 1) := by decide +kernel
theorem dX0_becomeLike_17 : decode cX0_becomeLike 17 = .ok (.aload_n 1, 1) := by decide +kernel
theorem dX0_becomeLike_18 : decode cX0_becomeLike 18 = .ok (.getfield 18, 3) := by decide +kernel
theorem dX0_becomeLike_21 : decode cX0_becomeLike 21 = .ok (.putfield 18, 3) := by decide +kernel
theorem dX0_becomeLike_24 : decode cX0_becomeLike 24 = .ok (.aload_n 0, 1) := by decide +kernel
theorem dX0_becomeLike_25 : decode cX0_becomeLike 25 = .ok (.aload_n 1, 1) := by decide +kernel
theorem dX0_becomeLike_26 : decode cX0_becomeLike 26 = .ok (.getfield 21, 3) := by decide +kernel
theorem dX0_becomeLike_29 : decode cX0_becomeLike 29 = .ok (.putfield 21, 3) := by decide +kernel
theorem dX0_becomeLike_32 : decode cX0_becomeLike 32 = .ok (.aload_n 0, 1) := by decide +kernel
theorem dX0_becomeLike_33 : decode cX0_becomeLike 33 = .ok (.aload_n 1, 1) := by decide +kernel
theorem dX0_becomeLike_34 : decode cX0_becomeLike 34 = .ok (.getfield 24, 3) := by decide +kernel
theorem dX0_becomeLike_37 : decode cX0_becomeLike 37 = .ok (.putfield 24, 3) := by decide +kernel
theorem dX0_becomeLike_40 : decode cX0_becomeLike 40 = .ok (.aload_n 1, 1) := by decide +kernel
theorem dX0_becomeLike_41 : decode cX0_becomeLike 41 = .ok (.getfield 27, 3) := by decide +kernel
theorem dX0_becomeLike_44 : decode cX0_becomeLike 44 = .ok (.iconst 0, 1) := by decide +kernel
theorem dX0_becomeLike_45 : decode cX0_becomeLike 45 = .ok (.aload_n 0, 1) := by decide +kernel
theorem dX0_becomeLike_46 : decode cX0_becomeLike 46 = .ok (.getfield 27, 3) := by decide +kernel
theorem dX0_becomeLike_49 : decode cX0_becomeLike 49 = .ok (.iconst 0, 1) := by decide +kernel
theorem dX0_becomeLike_50 : decode cX0_becomeLike 50 = .ok (.iconst 3, 1) := by decide +kernel
theorem dX0_becomeLike_51 : decode cX0_becomeLike 51 = .ok (.invokestatic 71, 3) := by decide +kernel
theorem dX0_becomeLike_54 : decode cX0_becomeLike 54 = .ok (.aload_n 1, 1) := by decide +kernel
theorem dX0_becomeLike_55 : decode cX0_becomeLike 55 = .ok (.getfield 31, 3) := by decide +kernel
theorem dX0_becomeLike_58 : decode cX0_becomeLike 58 = .ok (.iconst 0, 1) := by decide +kernel
theorem dX0_becomeLike_59 : decode cX0_becomeLike 59 = .ok (.aload_n 0, 1) := by decide +kernel
theorem dX0_becomeLike_60 : decode cX0_becomeLike 60 = .ok (.getfield 31, 3) := by decide +kernel
theorem dX0_becomeLike_63 : decode cX0_becomeLike 63 = .ok (.iconst 0, 1) := by decide +kernel
theorem dX0_becomeLike_64 : decode cX0_becomeLike 64 = .ok (.bipush 7, 2) := by decide +kernel
theorem dX0_becomeLike_66 : decode cX0_becomeLike 66 = .ok (.invokestatic 71, 3) := by decide +kernel
theorem dX0_becomeLike_69 : decode cX0_becomeLike 69 = .ok (.aload_n 0, 1) := by decide +kernel
theorem dX0_becomeLike_70 : decode cX0_becomeLike 70 = .ok (.getfield 37, 3) := by decide +kernel
theorem dX0_becomeLike_73 : decode cX0_becomeLike 73 = .ok (.aload_n 1, 1) := by decide +kernel
theorem dX0_becomeLike_74 : decode cX0_becomeLike 74 = .ok (.getfield 37, 3) := by decide +kernel
theorem dX0_becomeLike_77 : decode cX0_becomeLike 77 = .ok (.invokevirtual 77, 3) := by decide +kernel
theorem dX0_becomeLike_80 : decode cX0_becomeLike 80 = .ok (.aload_n 0, 1) := by decide +kernel
theorem dX0_becomeLike_81 : decode cX0_becomeLike 81 = .ok (.getfield 44, 3) := by decide +kernel
theorem dX0_becomeLike_84 : decode cX0_becomeLike 84 = .ok (.aload_n 1, 1) := by decide +kernel
theorem dX0_becomeLike_85 : decode cX0_becomeLike 85 = .ok (.getfield 44, 3) := by decide +kernel
theorem dX0_becomeLike_88 : decode cX0_becomeLike 88 = .ok (.invokevirtual 81, 3) := by decide +kernel
theorem dX0_becomeLike_91 : decode cX0_becomeLike 91 = .ok (.aload_n 0, 1) := by decide +kernel
theorem dX0_becomeLike_92 : decode cX0_becomeLike 92 = .ok (.getfield 51, 3) := by decide +kernel
theorem dX0_becomeLike_95 : decode cX0_becomeLike 95 = .ok (.aload_n 1, 1) := by decide +kernel
theorem dX0_becomeLike_96 : decode cX0_becomeLike 96 = .ok (.getfield 51, 3) := by decide +kernel
theorem dX0_becomeLike_99 : decode cX0_becomeLike 99 = .ok (.invokevirtual 84, 3) := by decide +kernel
theorem dX0_becomeLike_102 : decode cX0_becomeLike 102 = .ok (.aload_n 0, 1) := by decide +kernel
theorem dX0_becomeLike_103 : decode cX0_becomeLike 103 = .ok (.getfield 58, 3) := by decide +kernel
theorem dX0_becomeLike_106 : decode cX0_becomeLike 106 = .ok (.aload_n 1, 1) := by decide +kernel
theorem dX0_becomeLike_107 : decode cX0_becomeLike 107 = .ok (.getfield 58, 3) := by decide +kernel
theorem dX0_becomeLike_110 : decode cX0_becomeLike 110 = .ok (.invokevirtual 87, 3) := by decide +kernel
theorem dX0_becomeLike_113 : decode cX0_becomeLike 113 = .ok (.aload_n 1, 1) := by decide +kernel
theorem dX0_becomeLike_114 : decode cX0_becomeLike 114 = .ok (.getfield 62, 3) := by decide +kernel
theorem dX0_becomeLike_117 : decode cX0_becomeLike 117 = .ok (.iconst 0, 1) := by decide +kernel
theorem dX0_becomeLike_118 : decode cX0_becomeLike 118 = .ok (.aload_n 0, 1) := by decide +kernel
theorem dX0_becomeLike_119 : decode cX0_becomeLike 119 = .ok (.getfield 62, 3) := by decide +kernel
theorem dX0_becomeLike_122 : decode cX0_becomeLike 122 = .ok (.iconst 0, 1) := by decide +kernel
theorem dX0_becomeLike_123 : decode cX0_becomeLike 123 = .ok (.bipush 30, 2) := by decide +kernel
theorem dX0_becomeLike_125 : decode cX0_becomeLike 125 = .ok (.invokestatic 71, 3) := by decide +kernel
theorem dX0_becomeLike_128 : decode cX0_becomeLike 128 = .ok (.return_, 1) := by decide +kernel
set_option maxRecDepth 20000 in
theorem ggX0_takeIn_X5_isBelow : GoodIn wsX0_takeIn wsX5_isBelow := goodIn_r _ [5] (by decide +kernel) (by decide +kernel)
set_option maxRecDepth 20000 in
theorem gX0_takeIn_X5_isBelow_n90 : GoodIn wsX0_takeIn (wsX5_isBelow) := ggX0_takeIn_X5_isBelow
theorem dX0_takeIn_0 : decode cX0_takeIn 0 = .ok (.iload_n 1, 1) := by decide +kernel
theorem dX0_takeIn_1 : decode cX0_takeIn 1 = .ok (.iconst 3, 1) := by decide +kernel
theorem dX0_takeIn_2 : decode cX0_takeIn 2 = .ok (.invokestatic 90, 3) := by decide +kernel
theorem dX0_takeIn_5 : decode cX0_takeIn 5 = .ok (.ifCond .ne 18, 3) := by decide +kernel
theorem dX0_takeIn_8 : decode cX0_takeIn 8 = .ok (.aload_n 0, 1) := by decide +kernel
theorem dX0_takeIn_9 : decode cX0_takeIn 9 = .ok (.dup, 1) := by decide +kernel
theorem dX0_takeIn_10 : decode cX0_takeIn 10 = .ok (.getfield 18, 3) := by decide +kernel
theorem dX0_takeIn_13 : decode cX0_takeIn 13 = .ok (.iload_n 2, 1) := by decide +kernel
theorem dX0_takeIn_14 : decode cX0_takeIn 14 = .ok (.iadd, 1) := by decide +kernel
theorem dX0_takeIn_15 : decode cX0_takeIn 15 = .ok (.putfield 18, 3) := by decide +kernel
theorem dX0_takeIn_18 : decode cX0_takeIn 18 = .ok (.aload_n 0, 1) := by decide +kernel
theorem dX0_takeIn_19 : decode cX0_takeIn 19 = .ok (.getfield 18, 3) := by decide +kernel
theorem dX0_takeIn_22 : decode cX0_takeIn 22 = .ok (.ireturn, 1) := by decide +kernel
theorem dX0_takeIn_23 : decode cX0_takeIn 23 = .ok (.aload_n 0, 1) := by decide +kernel
theorem dX0_takeIn_24 : decode cX0_takeIn 24 = .ok (.getfield 27, 3) := by decide +kernel
theorem dX0_takeIn_27 : decode cX0_takeIn 27 = .ok (.iload_n 1, 1) := by decide +kernel
theorem dX0_takeIn_28 : decode cX0_takeIn 28 = .ok (.dup2, 1) := by decide +kernel
theorem dX0_takeIn_29 : decode cX0_takeIn 29 = .ok (.iaload, 1) := by decide +kernel
theorem dX0_takeIn_30 : decode cX0_takeIn 30 = .ok (.iload_n 2, 1) := by decide +kernel
theorem dX0_takeIn_31 : decode cX0_takeIn 31 = .ok (.iadd, 1) := by decide +kernel
theorem dX0_takeIn_32 : decode cX0_takeIn 32 = .ok (.iastore, 1) := by decide +kernel
theorem dX0_takeIn_33 : decode cX0_takeIn 33 = .ok (.aload_n 0, 1) := by decide +kernel
theorem dX0_takeIn_34 : decode cX0_takeIn 34 = .ok (.getfield 27, 3) := by decide +kernel
theorem dX0_takeIn_37 : decode cX0_takeIn 37 = .ok (.iload_n 1, 1) := by decide +kernel
theorem dX0_takeIn_38 : decode cX0_takeIn 38 = .ok (.iaload, 1) := by decide +kernel
theorem dX0_takeIn_39 : decode cX0_takeIn 39 = .ok (.ireturn, 1) := by decide +kernel
theorem dX0_freeFelts_0 : decode cX0_freeFelts 0 = .ok (.aload_n 0, 1) := by decide +kernel
theorem dX0_freeFelts_1 : decode cX0_freeFelts 1 = .ok (.getfield 18, 3) := by decide +kernel
theorem dX0_freeFelts_4 : decode cX0_freeFelts 4 = .ok (.aload_n 0, 1) := by decide +kernel
theorem dX0_freeFelts_5 : decode cX0_freeFelts 5 = .ok (.getfield 58, 3) := by decide +kernel
theorem dX0_freeFelts_8 : decode cX0_freeFelts 8 = .ok (.getfield 94, 3) := by decide +kernel
theorem dX0_freeFelts_11 : decode cX0_freeFelts 11 = .ok (.isub, 1) := by decide +kernel
theorem dX0_freeFelts_12 : decode cX0_freeFelts 12 = .ok (.ireturn, 1) := by decide +kernel
set_option maxRecDepth 20000 in
theorem ggX0_hanging_X5_isBelow : GoodIn wsX0_hanging wsX5_isBelow := goodIn_r _ [4] (by decide +kernel) (by decide +kernel)
set_option maxRecDepth 20000 in
theorem gX0_hanging_X5_isBelow_n90 : GoodIn wsX0_hanging (wsX5_isBelow) := ggX0_hanging_X5_isBelow
theorem dX0_hanging_0 : decode cX0_hanging 0 = .ok (.iload_n 1, 1) := by decide +kernel
theorem dX0_hanging_1 : decode cX0_hanging 1 = .ok (.bipush 10, 2) := by decide +kernel
theorem dX0_hanging_3 : decode cX0_hanging 3 = .ok (.invokestatic 90, 3) := by decide +kernel
theorem dX0_hanging_6 : decode cX0_hanging 6 = .ok (.ifCond .eq 24, 3) := by decide +kernel
theorem dX0_hanging_9 : decode cX0_hanging 9 = .ok (.iload_n 2, 1) := by decide +kernel
theorem dX0_hanging_10 : decode cX0_hanging 10 = .ok (.iconst 3, 1) := by decide +kernel
theorem dX0_hanging_11 : decode cX0_hanging 11 = .ok (.invokestatic 90, 3) := by decide +kernel
theorem dX0_hanging_14 : decode cX0_hanging 14 = .ok (.ifCond .eq 16, 3) := by decide +kernel
theorem dX0_hanging_17 : decode cX0_hanging 17 = .ok (.aload_n 0, 1) := by decide +kernel
theorem dX0_hanging_18 : decode cX0_hanging 18 = .ok (.getfield 62, 3) := by decide +kernel
theorem dX0_hanging_21 : decode cX0_hanging 21 = .ok (.iload_n 1, 1) := by decide +kernel
theorem dX0_hanging_22 : decode cX0_hanging 22 = .ok (.iconst 3, 1) := by decide +kernel
theorem dX0_hanging_23 : decode cX0_hanging 23 = .ok (.imul, 1) := by decide +kernel
theorem dX0_hanging_24 : decode cX0_hanging 24 = .ok (.iload_n 2, 1) := by decide +kernel
theorem dX0_hanging_25 : decode cX0_hanging 25 = .ok (.iadd, 1) := by decide +kernel
theorem dX0_hanging_26 : decode cX0_hanging 26 = .ok (.iaload, 1) := by decide +kernel
theorem dX0_hanging_27 : decode cX0_hanging 27 = .ok (.goto 4, 3) := by decide +kernel
theorem dX0_hanging_30 : decode cX0_hanging 30 = .ok (.iconst 0, 1) := by decide +kernel
theorem dX0_hanging_31 : decode cX0_hanging 31 = .ok (.ireturn, 1) := by decide +kernel
set_option maxRecDepth 20000 in
theorem ggX0_hang_X5_isBelow : GoodIn wsX0_hang wsX5_isBelow := goodIn_r _ [4] (by decide +kernel) (by decide +kernel)
set_option maxRecDepth 20000 in
theorem gX0_hang_X5_isBelow_n90 : GoodIn wsX0_hang (wsX5_isBelow) := ggX0_hang_X5_isBelow
theorem dX0_hang_0 : decode cX0_hang 0 = .ok (.iload_n 1, 1) := by decide +kernel
theorem dX0_hang_1 : decode cX0_hang 1 = .ok (.bipush 10, 2) := by decide +kernel
theorem dX0_hang_3 : decode cX0_hang 3 = .ok (.invokestatic 90, 3) := by decide +kernel
theorem dX0_hang_6 : decode cX0_hang 6 = .ok (.ifCond .eq 25, 3) := by decide +kernel
theorem dX0_hang_9 : decode cX0_hang 9 = .ok (.iload_n 2, 1) := by decide +kernel
theorem dX0_hang_10 : decode cX0_hang 10 = .ok (.iconst 3, 1) := by decide +kernel
theorem dX0_hang_11 : decode cX0_hang 11 = .ok (.invokestatic 90, 3) := by decide +kernel
theorem dX0_hang_14 : decode cX0_hang 14 = .ok (.ifCond .eq 17, 3) := by decide +kernel
theorem dX0_hang_17 : decode cX0_hang 17 = .ok (.aload_n 0, 1) := by decide +kernel
theorem dX0_hang_18 : decode cX0_hang 18 = .ok (.getfield 62, 3) := by decide +kernel
theorem dX0_hang_21 : decode cX0_hang 21 = .ok (.iload_n 1, 1) := by decide +kernel
theorem dX0_hang_22 : decode cX0_hang 22 = .ok (.iconst 3, 1) := by decide +kernel
theorem dX0_hang_23 : decode cX0_hang 23 = .ok (.imul, 1) := by decide +kernel
theorem dX0_hang_24 : decode cX0_hang 24 = .ok (.iload_n 2, 1) := by decide +kernel
theorem dX0_hang_25 : decode cX0_hang 25 = .ok (.iadd, 1) := by decide +kernel
theorem dX0_hang_26 : decode cX0_hang 26 = .ok (.dup2, 1) := by decide +kernel
theorem dX0_hang_27 : decode cX0_hang 27 = .ok (.iaload, 1) := by decide +kernel
theorem dX0_hang_28 : decode cX0_hang 28 = .ok (.iload_n 3, 1) := by decide +kernel
theorem dX0_hang_29 : decode cX0_hang 29 = .ok (.iadd, 1) := by decide +kernel
theorem dX0_hang_30 : decode cX0_hang 30 = .ok (.iastore, 1) := by decide +kernel
theorem dX0_hang_31 : decode cX0_hang 31 = .ok (.return_, 1) := by decide +kernel
set_option maxRecDepth 20000 in
theorem ggX0_tell_X0_freeFelts : GoodIn wsX0_tell wsX0_freeFelts := goodIn_r _ [12, 3, 6, 32, 33, 34, 35, 36, 37, 38, 39, 40, 41, 42, 43, 44, 45, 46, 47, 48] (by decide +kernel) (by decide +kernel)
set_option maxRecDepth 20000 in
theorem gX0_tell_X0_freeFelts : GoodIn wsX0_tell (wsV RX0 97 RX0 yX0_freeFelts wsX0_freeFelts) := goodIn_app (goodIn_of _ (by decide +kernel)) ggX0_tell_X0_freeFelts
set_option maxRecDepth 20000 in
theorem ggX0_tell_X0_allHanging : GoodIn wsX0_tell wsX0_allHanging := goodIn_r _ [16, 17, 32, 33, 34, 35, 36, 37, 38, 39, 40, 41, 42, 43] (by decide +kernel) (by decide +kernel)
set_option maxRecDepth 20000 in
theorem gX0_tell_X0_allHanging : GoodIn wsX0_tell (wsV RX0 104 RX0 yX0_allHanging wsX0_allHanging) := goodIn_app (goodIn_of _ (by decide +kernel)) ggX0_tell_X0_allHanging
set_option maxRecDepth 20000 in
theorem ggX0_tell_X4_allPulp : GoodIn wsX0_tell wsX4_allPulp := goodIn_r _ [22, 23, 49, 50, 51] (by decide +kernel) (by decide +kernel)
set_option maxRecDepth 20000 in
theorem gX0_tell_X4_allPulp : GoodIn wsX0_tell (wsV RX0 107 RX4 yX4_allPulp wsX4_allPulp) := goodIn_app (goodIn_of _ (by decide +kernel)) ggX0_tell_X4_allPulp
set_option maxRecDepth 20000 in
theorem ggX0_tell_X0_poundsOf : GoodIn wsX0_tell wsX0_poundsOf := goodIn_r _ [27, 28, 29, 30, 31, 32, 33, 34, 35, 36, 37, 38, 39, 40, 41, 42, 43] (by decide +kernel) (by decide +kernel)
set_option maxRecDepth 20000 in
theorem gX0_tell_X0_poundsOf : GoodIn wsX0_tell (wsV RX0 110 RX0 yX0_poundsOf wsX0_poundsOf) := goodIn_app (goodIn_of _ (by decide +kernel)) ggX0_tell_X0_poundsOf
theorem dX0_tell_0 : decode cX0_tell 0 = .ok (.iload_n 1, 1) := by decide +kernel
theorem dX0_tell_1 : decode cX0_tell 1 = .ok (.tableswitch 102 0 8 #[51, 56, 61, 66, 71, 76, 81, 89, 94], 51) := by decide +kernel
theorem dX0_tell_52 : decode cX0_tell 52 = .ok (.aload_n 0, 1) := by decide +kernel
theorem dX0_tell_53 : decode cX0_tell 53 = .ok (.getfield 9, 3) := by decide +kernel
theorem dX0_tell_56 : decode cX0_tell 56 = .ok (.ireturn, 1) := by decide +kernel
theorem dX0_tell_57 : decode cX0_tell 57 = .ok (.aload_n 0, 1) := by decide +kernel
theorem dX0_tell_58 : decode cX0_tell 58 = .ok (.getfield 15, 3) := by decide +kernel
theorem dX0_tell_61 : decode cX0_tell 61 = .ok (.ireturn, 1) := by decide +kernel
theorem dX0_tell_62 : decode cX0_tell 62 = .ok (.aload_n 0, 1) := by decide +kernel
theorem dX0_tell_63 : decode cX0_tell 63 = .ok (.getfield 18, 3) := by decide +kernel
theorem dX0_tell_66 : decode cX0_tell 66 = .ok (.ireturn, 1) := by decide +kernel
theorem dX0_tell_67 : decode cX0_tell 67 = .ok (.aload_n 0, 1) := by decide +kernel
theorem dX0_tell_68 : decode cX0_tell 68 = .ok (.invokevirtual 97, 3) := by decide +kernel
theorem dX0_tell_71 : decode cX0_tell 71 = .ok (.ireturn, 1) := by decide +kernel
theorem dX0_tell_72 : decode cX0_tell 72 = .ok (.aload_n 0, 1) := by decide +kernel
theorem dX0_tell_73 : decode cX0_tell 73 = .ok (.getfield 21, 3) := by decide +kernel
theorem dX0_tell_76 : decode cX0_tell 76 = .ok (.ireturn, 1) := by decide +kernel
theorem dX0_tell_77 : decode cX0_tell 77 = .ok (.aload_n 0, 1) := by decide +kernel
theorem dX0_tell_78 : decode cX0_tell 78 = .ok (.getfield 24, 3) := by decide +kernel
theorem dX0_tell_81 : decode cX0_tell 81 = .ok (.ireturn, 1) := by decide +kernel
theorem dX0_tell_82 : decode cX0_tell 82 = .ok (.aload_n 0, 1) := by decide +kernel
theorem dX0_tell_83 : decode cX0_tell 83 = .ok (.getfield 58, 3) := by decide +kernel
theorem dX0_tell_86 : decode cX0_tell 86 = .ok (.getfield 101, 3) := by decide +kernel
theorem dX0_tell_89 : decode cX0_tell 89 = .ok (.ireturn, 1) := by decide +kernel
theorem dX0_tell_90 : decode cX0_tell 90 = .ok (.aload_n 0, 1) := by decide +kernel
theorem dX0_tell_91 : decode cX0_tell 91 = .ok (.invokevirtual 104, 3) := by decide +kernel
theorem dX0_tell_94 : decode cX0_tell 94 = .ok (.ireturn, 1) := by decide +kernel
theorem dX0_tell_95 : decode cX0_tell 95 = .ok (.aload_n 0, 1) := by decide +kernel
theorem dX0_tell_96 : decode cX0_tell 96 = .ok (.getfield 37, 3) := by decide +kernel
theorem dX0_tell_99 : decode cX0_tell 99 = .ok (.invokevirtual 107, 3) := by decide +kernel
theorem dX0_tell_102 : decode cX0_tell 102 = .ok (.ireturn, 1) := by decide +kernel
theorem dX0_tell_103 : decode cX0_tell 103 = .ok (.aload_n 0, 1) := by decide +kernel
theorem dX0_tell_104 : decode cX0_tell 104 = .ok (.iload_n 1, 1) := by decide +kernel
theorem dX0_tell_105 : decode cX0_tell 105 = .ok (.bipush 9, 2) := by decide +kernel
theorem dX0_tell_107 : decode cX0_tell 107 = .ok (.isub, 1) := by decide +kernel
theorem dX0_tell_108 : decode cX0_tell 108 = .ok (.invokevirtual 110, 3) := by decide +kernel
theorem dX0_tell_111 : decode cX0_tell 111 = .ok (.ireturn, 1) := by decide +kernel
set_option maxRecDepth 20000 in
theorem ggX0_tellPair_X1_markOf : GoodIn wsX0_tellPair wsX1_markOf := goodIn_r _ [7, 8, 9, 10, 11, 6, 12, 13, 51, 52, 53, 54] (by decide +kernel) (by decide +kernel)
set_option maxRecDepth 20000 in
theorem gX0_tellPair_X1_markOf : GoodIn wsX0_tellPair (wsV RX0 114 RX1 yX1_markOf wsX1_markOf) := goodIn_app (goodIn_of _ (by decide +kernel)) ggX0_tellPair_X1_markOf
set_option maxRecDepth 20000 in
theorem ggX0_tellPair_X1_sizeOf : GoodIn wsX0_tellPair wsX1_sizeOf := goodIn_r _ [17, 18, 9, 10, 11, 6, 12, 13, 51, 52, 53, 54] (by decide +kernel) (by decide +kernel)
set_option maxRecDepth 20000 in
theorem gX0_tellPair_X1_sizeOf : GoodIn wsX0_tellPair (wsV RX0 117 RX1 yX1_sizeOf wsX1_sizeOf) := goodIn_app (goodIn_of _ (by decide +kernel)) ggX0_tellPair_X1_sizeOf
set_option maxRecDepth 20000 in
theorem ggX0_tellPair_X1_wornOf : GoodIn wsX0_tellPair wsX1_wornOf := goodIn_r _ [22, 23, 9, 10, 11, 6, 12, 13, 51, 52, 53, 54] (by decide +kernel) (by decide +kernel)
set_option maxRecDepth 20000 in
theorem gX0_tellPair_X1_wornOf : GoodIn wsX0_tellPair (wsV RX0 120 RX1 yX1_wornOf wsX1_wornOf) := goodIn_app (goodIn_of _ (by decide +kernel)) ggX0_tellPair_X1_wornOf
set_option maxRecDepth 20000 in
theorem ggX0_tellPair_X3_holderOf : GoodIn wsX0_tellPair wsX3_holderOf := goodIn_r _ [28, 29, 30, 31, 32, 27, 33, 34, 35, 36, 37, 38, 55, 56, 57, 58] (by decide +kernel) (by decide +kernel)
set_option maxRecDepth 20000 in
theorem gX0_tellPair_X3_holderOf : GoodIn wsX0_tellPair (wsV RX0 123 RX3 yX3_holderOf wsX3_holderOf) := goodIn_app (goodIn_of _ (by decide +kernel)) ggX0_tellPair_X3_holderOf
theorem dX0_tellPair_0 : decode cX0_tellPair 0 = .ok (.iload_n 2, 1) := by decide +kernel
theorem dX0_tellPair_1 : decode cX0_tellPair 1 = .ok (.tableswitch 54 0 2 #[27, 36, 45], 27) := by decide +kernel
theorem dX0_tellPair_28 : decode cX0_tellPair 28 = .ok (.aload_n 0, 1) := by decide +kernel
theorem dX0_tellPair_29 : decode cX0_tellPair 29 = .ok (.getfield 44, 3) := by decide +kernel
theorem dX0_tellPair_32 : decode cX0_tellPair 32 = .ok (.iload_n 1, 1) := by decide +kernel
theorem dX0_tellPair_33 : decode cX0_tellPair 33 = .ok (.invokevirtual 114, 3) := by decide +kernel
theorem dX0_tellPair_36 : decode cX0_tellPair 36 = .ok (.ireturn, 1) := by decide +kernel
theorem dX0_tellPair_37 : decode cX0_tellPair 37 = .ok (.aload_n 0, 1) := by decide +kernel
theorem dX0_tellPair_38 : decode cX0_tellPair 38 = .ok (.getfield 44, 3) := by decide +kernel
theorem dX0_tellPair_41 : decode cX0_tellPair 41 = .ok (.iload_n 1, 1) := by decide +kernel
theorem dX0_tellPair_42 : decode cX0_tellPair 42 = .ok (.invokevirtual 117, 3) := by decide +kernel
theorem dX0_tellPair_45 : decode cX0_tellPair 45 = .ok (.ireturn, 1) := by decide +kernel
theorem dX0_tellPair_46 : decode cX0_tellPair 46 = .ok (.aload_n 0, 1) := by decide +kernel
theorem dX0_tellPair_47 : decode cX0_tellPair 47 = .ok (.getfield 44, 3) := by decide +kernel
theorem dX0_tellPair_50 : decode cX0_tellPair 50 = .ok (.iload_n 1, 1) := by decide +kernel
theorem dX0_tellPair_51 : decode cX0_tellPair 51 = .ok (.invokevirtual 120, 3) := by decide +kernel
theorem dX0_tellPair_54 : decode cX0_tellPair 54 = .ok (.ireturn, 1) := by decide +kernel
theorem dX0_tellPair_55 : decode cX0_tellPair 55 = .ok (.aload_n 0, 1) := by decide +kernel
theorem dX0_tellPair_56 : decode cX0_tellPair 56 = .ok (.getfield 51, 3) := by decide +kernel
theorem dX0_tellPair_59 : decode cX0_tellPair 59 = .ok (.iload_n 1, 1) := by decide +kernel
theorem dX0_tellPair_60 : decode cX0_tellPair 60 = .ok (.invokevirtual 123, 3) := by decide +kernel
theorem dX0_tellPair_63 : decode cX0_tellPair 63 = .ok (.ireturn, 1) := by decide +kernel
set_option maxRecDepth 20000 in
theorem ggX0_tellTeam_X3_skillOf : GoodIn wsX0_tellTeam wsX3_skillOf := goodIn_r _ [6, 7, 8, 9, 10, 5, 11, 12, 77, 78, 79, 80] (by decide +kernel) (by decide +kernel)
set_option maxRecDepth 20000 in
theorem gX0_tellTeam_X3_skillOf : GoodIn wsX0_tellTeam (wsV RX0 126 RX3 yX3_skillOf wsX3_skillOf) := goodIn_app (goodIn_of _ (by decide +kernel)) ggX0_tellTeam_X3_skillOf
set_option maxRecDepth 20000 in
theorem ggX0_tellTeam_X3_vatOf : GoodIn wsX0_tellTeam wsX3_vatOf := goodIn_r _ [16, 17, 8, 9, 10, 5, 11, 12, 77, 78, 79, 80] (by decide +kernel) (by decide +kernel)
set_option maxRecDepth 20000 in
theorem gX0_tellTeam_X3_vatOf : GoodIn wsX0_tellTeam (wsV RX0 129 RX3 yX3_vatOf wsX3_vatOf) := goodIn_app (goodIn_of _ (by decide +kernel)) ggX0_tellTeam_X3_vatOf
set_option maxRecDepth 20000 in
theorem ggX0_tellTeam_X3_pairOf : GoodIn wsX0_tellTeam wsX3_pairOf := goodIn_r _ [21, 22, 8, 9, 10, 5, 11, 12, 77, 78, 79, 80] (by decide +kernel) (by decide +kernel)
set_option maxRecDepth 20000 in
theorem gX0_tellTeam_X3_pairOf : GoodIn wsX0_tellTeam (wsV RX0 132 RX3 yX3_pairOf wsX3_pairOf) := goodIn_app (goodIn_of _ (by decide +kernel)) ggX0_tellTeam_X3_pairOf
set_option maxRecDepth 20000 in
theorem ggX0_tellTeam_X0_sheetsOf : GoodIn wsX0_tellTeam wsX0_sheetsOf := goodIn_r _ [27, 1, 28, 29, 30, 31, 32, 33, 13, 14, 15, 5, 16, 17, 8, 9, 10, 11, 12, 18, 19, 20, 21, 22, 34, 35, 36, 37, 38, 39, 40, 41, 42, 43, 44, 45, 46, 47, 48, 49, 50, 51, 52, 53, 2, 3, 4, 6, 7, 54, 55, 56, 26, 57, 58, 59, 60, 61, 62, 63, 64, 65, 66, 67, 68, 69, 70, 71, 72, 73, 74, 75, 76, 77, 78, 79, 80, 81, 82, 83, 84, 85, 86, 87, 88, 89, 90, 91, 92] (by decide +kernel) (by decide +kernel)
set_option maxRecDepth 20000 in
theorem gX0_tellTeam_X0_sheetsOf : GoodIn wsX0_tellTeam (wsV RX0 135 RX0 yX0_sheetsOf wsX0_sheetsOf) := goodIn_app (goodIn_of _ (by decide +kernel)) ggX0_tellTeam_X0_sheetsOf
theorem dX0_tellTeam_0 : decode cX0_tellTeam 0 = .ok (.iload_n 2, 1) := by decide +kernel
theorem dX0_tellTeam_1 : decode cX0_tellTeam 1 = .ok (.tableswitch 54 0 2 #[27, 36, 45], 27) := by decide +kernel
theorem dX0_tellTeam_28 : decode cX0_tellTeam 28 = .ok (.aload_n 0, 1) := by decide +kernel
theorem dX0_tellTeam_29 : decode cX0_tellTeam 29 = .ok (.getfield 51, 3) := by decide +kernel
theorem dX0_tellTeam_32 : decode cX0_tellTeam 32 = .ok (.iload_n 1, 1) := by decide +kernel
theorem dX0_tellTeam_33 : decode cX0_tellTeam 33 = .ok (.invokevirtual 126, 3) := by decide +kernel
theorem dX0_tellTeam_36 : decode cX0_tellTeam 36 = .ok (.ireturn, 1) := by decide +kernel
theorem dX0_tellTeam_37 : decode cX0_tellTeam 37 = .ok (.aload_n 0, 1) := by decide +kernel
theorem dX0_tellTeam_38 : decode cX0_tellTeam 38 = .ok (.getfield 51, 3) := by decide +kernel
theorem dX0_tellTeam_41 : decode cX0_tellTeam 41 = .ok (.iload_n 1, 1) := by decide +kernel
theorem dX0_tellTeam_42 : decode cX0_tellTeam 42 = .ok (.invokevirtual 129, 3) := by decide +kernel
theorem dX0_tellTeam_45 : decode cX0_tellTeam 45 = .ok (.ireturn, 1) := by decide +kernel
theorem dX0_tellTeam_46 : decode cX0_tellTeam 46 = .ok (.aload_n 0, 1) := by decide +kernel
theorem dX0_tellTeam_47 : decode cX0_tellTeam 47 = .ok (.getfield 51, 3) := by decide +kernel
theorem dX0_tellTeam_50 : decode cX0_tellTeam 50 = .ok (.iload_n 1, 1) := by decide +kernel
theorem dX0_tellTeam_51 : decode cX0_tellTeam 51 = .ok (.invokevirtual 132, 3) := by decide +kernel
theorem dX0_tellTeam_54 : decode cX0_tellTeam 54 = .ok (.ireturn, 1) := by decide +kernel
theorem dX0_tellTeam_55 : decode cX0_tellTeam 55 = .ok (.aload_n 0, 1) := by decide +kernel
theorem dX0_tellTeam_56 : decode cX0_tellTeam 56 = .ok (.iload_n 1, 1) := by decide +kernel
theorem dX0_tellTeam_57 : decode cX0_tellTeam 57 = .ok (.invokevirtual 135, 3) := by decide +kernel
theorem dX0_tellTeam_60 : decode cX0_tellTeam 60 = .ok (.ireturn, 1) := by decide +kernel
set_option maxRecDepth 20000 in
theorem ggX0_sheetsOf_X3_vatOf : GoodIn wsX0_sheetsOf wsX3_vatOf := goodIn_r _ [12, 13, 14, 15, 16, 11, 17, 18, 73, 74, 75, 76] (by decide +kernel) (by decide +kernel)
set_option maxRecDepth 20000 in
theorem gX0_sheetsOf_X3_vatOf : GoodIn wsX0_sheetsOf (wsV RX0 129 RX3 yX3_vatOf wsX3_vatOf) := goodIn_app (goodIn_of _ (by decide +kernel)) ggX0_sheetsOf_X3_vatOf
set_option maxRecDepth 20000 in
theorem ggX0_sheetsOf_X3_pairOf : GoodIn wsX0_sheetsOf wsX3_pairOf := goodIn_r _ [22, 23, 14, 15, 16, 11, 17, 18, 73, 74, 75, 76] (by decide +kernel) (by decide +kernel)
set_option maxRecDepth 20000 in
theorem gX0_sheetsOf_X3_pairOf : GoodIn wsX0_sheetsOf (wsV RX0 132 RX3 yX3_pairOf wsX3_pairOf) := goodIn_app (goodIn_of _ (by decide +kernel)) ggX0_sheetsOf_X3_pairOf
set_option maxRecDepth 20000 in
theorem ggX0_sheetsOf_X4_beatOf : GoodIn wsX0_sheetsOf wsX4_beatOf := goodIn_r _ [28, 29, 30, 31, 32, 77, 78, 79] (by decide +kernel) (by decide +kernel)
set_option maxRecDepth 20000 in
theorem gX0_sheetsOf_X4_beatOf : GoodIn wsX0_sheetsOf (wsV RX0 138 RX4 yX4_beatOf wsX4_beatOf) := goodIn_app (goodIn_of _ (by decide +kernel)) ggX0_sheetsOf_X4_beatOf
set_option maxRecDepth 20000 in
theorem ggX0_sheetsOf_X1_sizeOf : GoodIn wsX0_sheetsOf wsX1_sizeOf := goodIn_r _ [37, 38, 39, 40, 41, 36, 42, 43, 80, 81, 82, 83] (by decide +kernel) (by decide +kernel)
set_option maxRecDepth 20000 in
theorem gX0_sheetsOf_X1_sizeOf : GoodIn wsX0_sheetsOf (wsV RX0 117 RX1 yX1_sizeOf wsX1_sizeOf) := goodIn_app (goodIn_of _ (by decide +kernel)) ggX0_sheetsOf_X1_sizeOf
set_option maxRecDepth 20000 in
theorem ggX0_sheetsOf_X3_skillOf : GoodIn wsX0_sheetsOf wsX3_skillOf := goodIn_r _ [47, 48, 14, 15, 16, 11, 17, 18, 73, 74, 75, 76] (by decide +kernel) (by decide +kernel)
set_option maxRecDepth 20000 in
theorem gX0_sheetsOf_X3_skillOf : GoodIn wsX0_sheetsOf (wsV RX0 126 RX3 yX3_skillOf wsX3_skillOf) := goodIn_app (goodIn_of _ (by decide +kernel)) ggX0_sheetsOf_X3_skillOf
set_option maxRecDepth 20000 in
theorem ggX0_sheetsOf_X0_freeFelts : GoodIn wsX0_sheetsOf wsX0_freeFelts := goodIn_r _ [53, 54, 55, 61, 62, 63, 64, 65, 66, 67, 68, 69, 70, 71, 72, 84, 85, 86, 87, 88] (by decide +kernel) (by decide +kernel)
set_option maxRecDepth 20000 in
theorem gX0_sheetsOf_X0_freeFelts : GoodIn wsX0_sheetsOf (wsV RX0 97 RX0 yX0_freeFelts wsX0_freeFelts) := goodIn_app (goodIn_of _ (by decide +kernel)) ggX0_sheetsOf_X0_freeFelts
set_option maxRecDepth 20000 in
theorem ggX0_sheetsOf_X4_pulpOf : GoodIn wsX0_sheetsOf wsX4_pulpOf := goodIn_r _ [59, 60, 30, 31, 32, 77, 78, 79] (by decide +kernel) (by decide +kernel)
set_option maxRecDepth 20000 in
theorem gX0_sheetsOf_X4_pulpOf : GoodIn wsX0_sheetsOf (wsV RX0 147 RX4 yX4_pulpOf wsX4_pulpOf) := goodIn_app (goodIn_of _ (by decide +kernel)) ggX0_sheetsOf_X4_pulpOf
theorem dX0_sheetsOf_0 : decode cX0_sheetsOf 0 = .ok (.aload_n 0, 1) := by decide +kernel
theorem dX0_sheetsOf_1 : decode cX0_sheetsOf 1 = .ok (.getfield 51, 3) := by decide +kernel
theorem dX0_sheetsOf_4 : decode cX0_sheetsOf 4 = .ok (.iload_n 1, 1) := by decide +kernel
theorem dX0_sheetsOf_5 : decode cX0_sheetsOf 5 = .ok (.invokevirtual 129, 3) := by decide +kernel
theorem dX0_sheetsOf_8 : decode cX0_sheetsOf 8 = .ok (.istore_n 2, 1) := by decide +kernel
theorem dX0_sheetsOf_9 : decode cX0_sheetsOf 9 = .ok (.aload_n 0, 1) := by decide +kernel
theorem dX0_sheetsOf_10 : decode cX0_sheetsOf 10 = .ok (.getfield 51, 3) := by decide +kernel
theorem dX0_sheetsOf_13 : decode cX0_sheetsOf 13 = .ok (.iload_n 1, 1) := by decide +kernel
theorem dX0_sheetsOf_14 : decode cX0_sheetsOf 14 = .ok (.invokevirtual 132, 3) := by decide +kernel
theorem dX0_sheetsOf_17 : decode cX0_sheetsOf 17 = .ok (.istore_n 3, 1) := by decide +kernel
theorem dX0_sheetsOf_18 : decode cX0_sheetsOf 18 = .ok (.iload_n 2, 1) := by decide +kernel
theorem dX0_sheetsOf_19 : decode cX0_sheetsOf 19 = .ok (.iconst (-1), 1) := by decide +kernel
theorem dX0_sheetsOf_20 : decode cX0_sheetsOf 20 = .ok (.if_icmp .eq 21, 3) := by decide +kernel
theorem dX0_sheetsOf_23 : decode cX0_sheetsOf 23 = .ok (.iload_n 3, 1) := by decide +kernel
theorem dX0_sheetsOf_24 : decode cX0_sheetsOf 24 = .ok (.iconst (-1), 1) := by decide +kernel
theorem dX0_sheetsOf_25 : decode cX0_sheetsOf 25 = .ok (.if_icmp .eq 16, 3) := by decide +kernel
theorem dX0_sheetsOf_28 : decode cX0_sheetsOf 28 = .ok (.aload_n 0, 1) := by decide +kernel
theorem dX0_sheetsOf_29 : decode cX0_sheetsOf 29 = .ok (.getfield 37, 3) := by decide +kernel
theorem dX0_sheetsOf_32 : decode cX0_sheetsOf 32 = .ok (.iload_n 2, 1) := by decide +kernel
theorem dX0_sheetsOf_33 : decode cX0_sheetsOf 33 = .ok (.invokevirtual 138, 3) := by decide +kernel
theorem dX0_sheetsOf_36 : decode cX0_sheetsOf 36 = .ok (.bipush 30, 2) := by decide +kernel
theorem dX0_sheetsOf_38 : decode cX0_sheetsOf 38 = .ok (.if_icmp .ge 5, 3) := by decide +kernel
theorem dX0_sheetsOf_41 : decode cX0_sheetsOf 41 = .ok (.iconst 0, 1) := by decide +kernel
theorem dX0_sheetsOf_42 : decode cX0_sheetsOf 42 = .ok (.ireturn, 1) := by decide +kernel
theorem dX0_sheetsOf_43 : decode cX0_sheetsOf 43 = .ok (.aload_n 0, 1) := by decide +kernel
theorem dX0_sheetsOf_44 : decode cX0_sheetsOf 44 = .ok (.getfield 44, 3) := by decide +kernel
theorem dX0_sheetsOf_47 : decode cX0_sheetsOf 47 = .ok (.iload_n 3, 1) := by decide +kernel
theorem dX0_sheetsOf_48 : decode cX0_sheetsOf 48 = .ok (.invokevirtual 117, 3) := by decide +kernel
theorem dX0_sheetsOf_51 : decode cX0_sheetsOf 51 = .ok (.istore 4, 2) := by decide +kernel
theorem dX0_sheetsOf_53 : decode cX0_sheetsOf 53 = .ok (.iload 4, 2) := by decide +kernel
theorem dX0_sheetsOf_55 : decode cX0_sheetsOf 55 = .ok (.iconst 1, 1) := by decide +kernel
theorem dX0_sheetsOf_56 : decode cX0_sheetsOf 56 = .ok (.if_icmp .ge 5, 3) := by decide +kernel
theorem dX0_sheetsOf_59 : decode cX0_sheetsOf 59 = .ok (.iconst 0, 1) := by decide +kernel
theorem dX0_sheetsOf_60 : decode cX0_sheetsOf 60 = .ok (.ireturn, 1) := by decide +kernel
theorem dX0_sheetsOf_61 : decode cX0_sheetsOf 61 = .ok (.aload_n 0, 1) := by decide +kernel
theorem dX0_sheetsOf_62 : decode cX0_sheetsOf 62 = .ok (.getfield 51, 3) := by decide +kernel
theorem dX0_sheetsOf_65 : decode cX0_sheetsOf 65 = .ok (.iload_n 1, 1) := by decide +kernel
theorem dX0_sheetsOf_66 : decode cX0_sheetsOf 66 = .ok (.invokevirtual 126, 3) := by decide +kernel
theorem dX0_sheetsOf_69 : decode cX0_sheetsOf 69 = .ok (.aload_n 0, 1) := by decide +kernel
theorem dX0_sheetsOf_70 : decode cX0_sheetsOf 70 = .ok (.invokevirtual 97, 3) := by decide +kernel
theorem dX0_sheetsOf_73 : decode cX0_sheetsOf 73 = .ok (.invokestatic 141, 3) := by decide +kernel
theorem dX0_sheetsOf_76 : decode cX0_sheetsOf 76 = .ok (.istore 5, 2) := by decide +kernel
theorem dX0_sheetsOf_78 : decode cX0_sheetsOf 78 = .ok (.iload 5, 2) := by decide +kernel
theorem dX0_sheetsOf_80 : decode cX0_sheetsOf 80 = .ok (.aload_n 0, 1) := by decide +kernel
theorem dX0_sheetsOf_81 : decode cX0_sheetsOf 81 = .ok (.getfield 37, 3) := by decide +kernel
theorem dX0_sheetsOf_84 : decode cX0_sheetsOf 84 = .ok (.iload_n 2, 1) := by decide +kernel
theorem dX0_sheetsOf_85 : decode cX0_sheetsOf 85 = .ok (.invokevirtual 147, 3) := by decide +kernel
theorem dX0_sheetsOf_88 : decode cX0_sheetsOf 88 = .ok (.iload 4, 2) := by decide +kernel
theorem dX0_sheetsOf_90 : decode cX0_sheetsOf 90 = .ok (.idiv, 1) := by decide +kernel
theorem dX0_sheetsOf_91 : decode cX0_sheetsOf 91 = .ok (.invokestatic 141, 3) := by decide +kernel
theorem dX0_sheetsOf_94 : decode cX0_sheetsOf 94 = .ok (.ireturn, 1) := by decide +kernel
set_option maxRecDepth 20000 in
theorem ggX0_liveDays_X0_liveDay : GoodIn wsX0_liveDays wsX0_liveDay := goodIn_r _ [5, 6, 7, 8, 9, 10, 11, 12, 13, 14, 15, 16, 17, 18, 19, 20, 21, 22, 23, 24, 25, 26, 27, 28, 29, 30, 31, 4, 32, 33, 34, 35, 36, 37, 38, 39, 40, 41, 42, 43, 44, 45, 46, 47, 48, 49, 50, 51, 52, 53, 54, 55, 56, 57, 58, 59, 60, 61, 62, 63, 64, 65, 66, 67, 68, 69, 70, 71, 72, 73, 74, 75, 76, 77, 78, 79, 80, 81, 82, 83, 84, 85, 86, 87, 88, 89, 90, 91, 92, 93, 94, 95, 96, 97, 98, 99, 100, 101, 102, 103, 104, 105, 106, 107, 108, 109, 110, 111, 112, 113, 114, 115, 116, 117, 118, 119, 120, 121, 122, 123, 124, 125, 126, 127, 128, 129, 130, 131, 132, 133, 134, 135, 136, 137, 138, 139, 140, 141, 142, 143, 144, 145, 146, 147, 148, 149, 150, 151, 152, 153, 154, 155, 156, 157, 158, 159, 160, 161, 162, 163, 164, 165, 166, 167, 168, 169, 170, 171, 172, 173, 174, 175, 176, 177, 178, 179, 180, 181, 182, 183, 184, 185, 186, 187, 188, 189, 190, 191, 192, 193, 194, 195, 196, 197, 198, 199] (by decide +kernel) (by decide +kernel)
set_option maxRecDepth 20000 in
theorem gX0_liveDays_X0_liveDay : GoodIn wsX0_liveDays (wsV RX0 150 RX0 yX0_liveDay wsX0_liveDay) := goodIn_app (goodIn_of _ (by decide +kernel)) ggX0_liveDays_X0_liveDay
theorem dX0_liveDays_0 : decode cX0_liveDays 0 = .ok (.iconst 0, 1) := by decide +kernel
theorem dX0_liveDays_1 : decode cX0_liveDays 1 = .ok (.istore_n 2, 1) := by decide +kernel
theorem dX0_liveDays_2 : decode cX0_liveDays 2 = .ok (.iload_n 2, 1) := by decide +kernel
theorem dX0_liveDays_3 : decode cX0_liveDays 3 = .ok (.iload_n 1, 1) := by decide +kernel
theorem dX0_liveDays_4 : decode cX0_liveDays 4 = .ok (.if_icmp .ge 13, 3) := by decide +kernel
theorem dX0_liveDays_7 : decode cX0_liveDays 7 = .ok (.aload_n 0, 1) := by decide +kernel
theorem dX0_liveDays_8 : decode cX0_liveDays 8 = .ok (.invokevirtual 150, 3) := by decide +kernel
theorem dX0_liveDays_11 : decode cX0_liveDays 11 = .ok (.iinc 2 1, 3) := by decide +kernel
theorem dX0_liveDays_14 : decode cX0_liveDays 14 = .ok (.goto (-12), 3) := by decide +kernel
theorem dX0_liveDays_17 : decode cX0_liveDays 17 = .ok (.return_, 1) := by decide +kernel
set_option maxRecDepth 20000 in
theorem ggX0_liveDay_J9_floorMod_7cf53 : GoodIn wsX0_liveDay wsJ9_floorMod_7cf53 := goodIn_r _ [8] (by decide +kernel) (by decide +kernel)
set_option maxRecDepth 20000 in
theorem gX0_liveDay_J9_floorMod_7cf53 : GoodIn wsX0_liveDay (va_wsS RX0 153 yJ9_floorMod_7cf53 wsJ9_floorMod_7cf53) := goodIn_app (goodIn_of _ (by decide +kernel)) ggX0_liveDay_J9_floorMod_7cf53
set_option maxRecDepth 20000 in
theorem ggX0_liveDay_X4_beatAll : GoodIn wsX0_liveDay wsX4_beatAll := goodIn_r _ [13, 14, 15, 16, 17, 18, 19, 20, 21, 22, 12, 23, 184, 185, 186] (by decide +kernel) (by decide +kernel)
set_option maxRecDepth 20000 in
theorem gX0_liveDay_X4_beatAll : GoodIn wsX0_liveDay (wsV RX0 156 RX4 yX4_beatAll wsX4_beatAll) := goodIn_app (goodIn_of _ (by decide +kernel)) ggX0_liveDay_X4_beatAll
set_option maxRecDepth 20000 in
theorem ggX0_liveDay_X0_makeSheets : GoodIn wsX0_liveDay wsX0_makeSheets := goodIn_r _ [28, 4, 29, 30, 31, 32, 1, 33, 34, 35, 27, 36, 37, 17, 18, 19, 38, 39, 40, 41, 42, 43, 44, 45, 46, 47, 48, 49, 50, 51, 52, 53, 54, 55, 56, 12, 57, 15, 58, 59, 60, 61, 62, 63, 64, 65, 66, 67, 68, 69, 70, 71, 72, 73, 74, 75, 76, 77, 78, 79, 80, 81, 82, 83, 84, 85, 14, 86, 87, 88, 89, 90, 91, 92, 93, 94, 95, 96, 97, 98, 99, 100, 101, 102, 103, 104, 105, 106, 107, 108, 109, 110, 111, 112, 113, 114, 115, 116, 117, 118, 119, 120, 121, 122, 123, 124, 125, 126, 127, 128, 129, 130, 131, 132, 133, 134, 168, 169, 170, 171, 172, 173, 174, 175, 176, 177, 178, 179, 180, 181, 182, 183, 184, 185, 186, 187, 188, 189, 190, 191, 192, 193, 194, 195] (by decide +kernel) (by decide +kernel)
set_option maxRecDepth 20000 in
theorem gX0_liveDay_X0_makeSheets : GoodIn wsX0_liveDay (wsV RX0 161 RX0 yX0_makeSheets wsX0_makeSheets) := goodIn_app (goodIn_of _ (by decide +kernel)) ggX0_liveDay_X0_makeSheets
set_option maxRecDepth 20000 in
theorem ggX0_liveDay_X0_pressPosts : GoodIn wsX0_liveDay wsX0_pressPosts := goodIn_r _ [138, 29, 37, 17, 18, 19, 139, 140, 141, 111, 142, 116, 143, 144, 145, 146, 113, 147, 148, 149, 150, 114, 151, 152, 153, 154, 115, 155, 156, 157, 27, 158, 159, 58, 59, 60, 160, 161, 162, 163, 117, 164, 165, 166, 167, 168, 169, 170, 171, 172, 173, 174, 175, 176, 177, 178, 179, 191, 192, 193, 194, 195] (by decide +kernel) (by decide +kernel)
set_option maxRecDepth 20000 in
theorem gX0_liveDay_X0_pressPosts : GoodIn wsX0_liveDay (wsV RX0 164 RX0 yX0_pressPosts wsX0_pressPosts) := goodIn_app (goodIn_of _ (by decide +kernel)) ggX0_liveDay_X0_pressPosts
theorem dX0_liveDay_0 : decode cX0_liveDay 0 = .ok (.aload_n 0, 1) := by decide +kernel
theorem dX0_liveDay_1 : decode cX0_liveDay 1 = .ok (.getfield 37, 3) := by decide +kernel
theorem dX0_liveDay_4 : decode cX0_liveDay 4 = .ok (.aload_n 0, 1) := by decide +kernel
theorem dX0_liveDay_5 : decode cX0_liveDay 5 = .ok (.getfield 31, 3) := by decide +kernel
theorem dX0_liveDay_8 : decode cX0_liveDay 8 = .ok (.aload_n 0, 1) := by decide +kernel
theorem dX0_liveDay_9 : decode cX0_liveDay 9 = .ok (.getfield 9, 3) := by decide +kernel
theorem dX0_liveDay_12 : decode cX0_liveDay 12 = .ok (.bipush 7, 2) := by decide +kernel
theorem dX0_liveDay_14 : decode cX0_liveDay 14 = .ok (.invokestatic 153, 3) := by decide +kernel
theorem dX0_liveDay_17 : decode cX0_liveDay 17 = .ok (.iaload, 1) := by decide +kernel
theorem dX0_liveDay_18 : decode cX0_liveDay 18 = .ok (.invokevirtual 156, 3) := by decide +kernel
theorem dX0_liveDay_21 : decode cX0_liveDay 21 = .ok (.iconst 0, 1) := by decide +kernel
theorem dX0_liveDay_22 : decode cX0_liveDay 22 = .ok (.istore_n 1, 1) := by decide +kernel
theorem dX0_liveDay_23 : decode cX0_liveDay 23 = .ok (.iload_n 1, 1) := by decide +kernel
theorem dX0_liveDay_24 : decode cX0_liveDay 24 = .ok (.aload_n 0, 1) := by decide +kernel
theorem dX0_liveDay_25 : decode cX0_liveDay 25 = .ok (.getfield 51, 3) := by decide +kernel
theorem dX0_liveDay_28 : decode cX0_liveDay 28 = .ok (.getfield 160, 3) := by decide +kernel
theorem dX0_liveDay_31 : decode cX0_liveDay 31 = .ok (.if_icmp .ge 14, 3) := by decide +kernel
theorem dX0_liveDay_34 : decode cX0_liveDay 34 = .ok (.aload_n 0, 1) := by decide +kernel
theorem dX0_liveDay_35 : decode cX0_liveDay 35 = .ok (.iload_n 1, 1) := by decide +kernel
theorem dX0_liveDay_36 : decode cX0_liveDay 36 = .ok (.invokevirtual 161, 3) := by decide +kernel
theorem dX0_liveDay_39 : decode cX0_liveDay 39 = .ok (.iinc 1 1, 3) := by decide +kernel
theorem dX0_liveDay_42 : decode cX0_liveDay 42 = .ok (.goto (-19), 3) := by decide +kernel
theorem dX0_liveDay_45 : decode cX0_liveDay 45 = .ok (.aload_n 0, 1) := by decide +kernel
theorem dX0_liveDay_46 : decode cX0_liveDay 46 = .ok (.invokevirtual 164, 3) := by decide +kernel
theorem dX0_liveDay_49 : decode cX0_liveDay 49 = .ok (.aload_n 0, 1) := by decide +kernel
theorem dX0_liveDay_50 : decode cX0_liveDay 50 = .ok (.dup, 1) := by decide +kernel
theorem dX0_liveDay_51 : decode cX0_liveDay 51 = .ok (.getfield 9, 3) := by decide +kernel
theorem dX0_liveDay_54 : decode cX0_liveDay 54 = .ok (.iconst 1, 1) := by decide +kernel
theorem dX0_liveDay_55 : decode cX0_liveDay 55 = .ok (.iadd, 1) := by decide +kernel
theorem dX0_liveDay_56 : decode cX0_liveDay 56 = .ok (.putfield 9, 3) := by decide +kernel
theorem dX0_liveDay_59 : decode cX0_liveDay 59 = .ok (.return_, 1) := by decide +kernel
set_option maxRecDepth 20000 in
theorem ggX0_makeSheets_X0_sheetsOf : GoodIn wsX0_makeSheets wsX0_sheetsOf := goodIn_r _ [11, 1, 6, 3, 12, 13, 14, 15, 16, 17, 18, 19, 20, 21, 22, 23, 24, 25, 26, 27, 28, 29, 30, 31, 32, 33, 34, 35, 36, 37, 38, 39, 40, 41, 42, 43, 44, 45, 46, 47, 48, 49, 50, 51, 52, 53, 54, 55, 56, 57, 58, 59, 10, 60, 61, 2, 62, 63, 64, 65, 66, 116, 117, 118, 119, 120, 121, 122, 123, 124, 125, 126, 127, 128, 129, 130, 131, 132, 133, 134, 135, 136, 137, 138, 139, 140, 141, 142, 143] (by decide +kernel) (by decide +kernel)
set_option maxRecDepth 20000 in
theorem gX0_makeSheets_X0_sheetsOf : GoodIn wsX0_makeSheets (wsV RX0 135 RX0 yX0_sheetsOf wsX0_sheetsOf) := goodIn_app (goodIn_of _ (by decide +kernel)) ggX0_makeSheets_X0_sheetsOf
set_option maxRecDepth 20000 in
theorem ggX0_makeSheets_X3_vatOf : GoodIn wsX0_makeSheets wsX3_vatOf := goodIn_r _ [20, 21, 22, 23, 24, 19, 25, 26, 128, 129, 130, 131] (by decide +kernel) (by decide +kernel)
set_option maxRecDepth 20000 in
theorem gX0_makeSheets_X3_vatOf : GoodIn wsX0_makeSheets (wsV RX0 129 RX3 yX3_vatOf wsX3_vatOf) := goodIn_app (goodIn_of _ (by decide +kernel)) ggX0_makeSheets_X3_vatOf
set_option maxRecDepth 20000 in
theorem ggX0_makeSheets_X3_pairOf : GoodIn wsX0_makeSheets wsX3_pairOf := goodIn_r _ [30, 31, 22, 23, 24, 19, 25, 26, 128, 129, 130, 131] (by decide +kernel) (by decide +kernel)
set_option maxRecDepth 20000 in
theorem gX0_makeSheets_X3_pairOf : GoodIn wsX0_makeSheets (wsV RX0 132 RX3 yX3_pairOf wsX3_pairOf) := goodIn_app (goodIn_of _ (by decide +kernel)) ggX0_makeSheets_X3_pairOf
set_option maxRecDepth 20000 in
theorem ggX0_makeSheets_X0_gradeOf : GoodIn wsX0_makeSheets wsX0_gradeOf := goodIn_r _ [70, 6, 3, 32, 33, 34, 35, 36, 37, 38, 39, 40, 71, 72, 73, 74, 75, 76, 77, 10, 78, 79, 80, 81, 44, 82, 83, 47, 48, 49, 50, 51, 116, 117, 118, 119, 120, 121, 122, 123, 124, 125, 126, 127, 132, 133, 134, 135, 136, 137, 138] (by decide +kernel) (by decide +kernel)
set_option maxRecDepth 20000 in
theorem gX0_makeSheets_X0_gradeOf : GoodIn wsX0_makeSheets (wsV RX0 167 RX0 yX0_gradeOf wsX0_gradeOf) := goodIn_app (goodIn_of _ (by decide +kernel)) ggX0_makeSheets_X0_gradeOf
set_option maxRecDepth 20000 in
theorem ggX0_makeSheets_X1_markOf : GoodIn wsX0_makeSheets wsX1_markOf := goodIn_r _ [87, 88, 47, 48, 49, 44, 50, 51, 135, 136, 137, 138] (by decide +kernel) (by decide +kernel)
set_option maxRecDepth 20000 in
theorem gX0_makeSheets_X1_markOf : GoodIn wsX0_makeSheets (wsV RX0 114 RX1 yX1_markOf wsX1_markOf) := goodIn_app (goodIn_of _ (by decide +kernel)) ggX0_makeSheets_X1_markOf
set_option maxRecDepth 20000 in
theorem ggX0_makeSheets_X2_add : GoodIn wsX0_makeSheets wsX2_add := goodIn_r _ [93, 94, 95, 96, 97, 98, 139, 140, 141, 142, 143] (by decide +kernel) (by decide +kernel)
set_option maxRecDepth 20000 in
theorem gX0_makeSheets_X2_add : GoodIn wsX0_makeSheets (wsV RX0 170 RX2 yX2_add wsX2_add) := goodIn_app (goodIn_of _ (by decide +kernel)) ggX0_makeSheets_X2_add
set_option maxRecDepth 20000 in
theorem ggX0_makeSheets_X5_worthOf : GoodIn wsX0_makeSheets wsX5_worthOf := goodIn_r _ [100, 101, 102, 38, 39, 40] (by decide +kernel) (by decide +kernel)
set_option maxRecDepth 20000 in
theorem gX0_makeSheets_X5_worthOf_n174 : GoodIn wsX0_makeSheets (wsX5_worthOf) := ggX0_makeSheets_X5_worthOf
set_option maxRecDepth 20000 in
theorem ggX0_makeSheets_X1_sizeOf : GoodIn wsX0_makeSheets wsX1_sizeOf := goodIn_r _ [45, 46, 47, 48, 49, 44, 50, 51, 135, 136, 137, 138] (by decide +kernel) (by decide +kernel)
set_option maxRecDepth 20000 in
theorem gX0_makeSheets_X1_sizeOf : GoodIn wsX0_makeSheets (wsV RX0 117 RX1 yX1_sizeOf wsX1_sizeOf) := goodIn_app (goodIn_of _ (by decide +kernel)) ggX0_makeSheets_X1_sizeOf
set_option maxRecDepth 20000 in
theorem ggX0_makeSheets_X4_takeOut : GoodIn wsX0_makeSheets wsX4_takeOut := goodIn_r _ [106, 66, 38, 39, 40, 107, 108, 109, 35, 110, 37, 75, 132, 133, 134] (by decide +kernel) (by decide +kernel)
set_option maxRecDepth 20000 in
theorem gX0_makeSheets_X4_takeOut : GoodIn wsX0_makeSheets (wsV RX0 177 RX4 yX4_takeOut wsX4_takeOut) := goodIn_app (goodIn_of _ (by decide +kernel)) ggX0_makeSheets_X4_takeOut
set_option maxRecDepth 20000 in
theorem ggX0_makeSheets_X1_wearBySheets : GoodIn wsX0_makeSheets wsX1_wearBySheets := goodIn_r _ [114, 83, 115, 13, 14, 15, 47, 48, 49, 44, 50, 51, 135, 136, 137, 138] (by decide +kernel) (by decide +kernel)
set_option maxRecDepth 20000 in
theorem gX0_makeSheets_X1_wearBySheets : GoodIn wsX0_makeSheets (wsV RX0 181 RX1 yX1_wearBySheets wsX1_wearBySheets) := goodIn_app (goodIn_of _ (by decide +kernel)) ggX0_makeSheets_X1_wearBySheets
theorem dX0_makeSheets_0 : decode cX0_makeSheets 0 = .ok (.aload_n 0, 1) := by decide +kernel
theorem dX0_makeSheets_1 : decode cX0_makeSheets 1 = .ok (.iload_n 1, 1) := by decide +kernel
theorem dX0_makeSheets_2 : decode cX0_makeSheets 2 = .ok (.invokevirtual 135, 3) := by decide +kernel
theorem dX0_makeSheets_5 : decode cX0_makeSheets 5 = .ok (.istore_n 2, 1) := by decide +kernel
theorem dX0_makeSheets_6 : decode cX0_makeSheets 6 = .ok (.iload_n 2, 1) := by decide +kernel
theorem dX0_makeSheets_7 : decode cX0_makeSheets 7 = .ok (.iconst 1, 1) := by decide +kernel
theorem dX0_makeSheets_8 : decode cX0_makeSheets 8 = .ok (.if_icmp .ge 4, 3) := by decide +kernel
theorem dX0_makeSheets_11 : decode cX0_makeSheets 11 = .ok (.return_, 1) := by decide +kernel
theorem dX0_makeSheets_12 : decode cX0_makeSheets 12 = .ok (.aload_n 0, 1) := by decide +kernel
theorem dX0_makeSheets_13 : decode cX0_makeSheets 13 = .ok (.getfield 51, 3) := by decide +kernel
theorem dX0_makeSheets_16 : decode cX0_makeSheets 16 = .ok (.iload_n 1, 1) := by decide +kernel
theorem dX0_makeSheets_17 : decode cX0_makeSheets 17 = .ok (.invokevirtual 129, 3) := by decide +kernel
theorem dX0_makeSheets_20 : decode cX0_makeSheets 20 = .ok (.istore_n 3, 1) := by decide +kernel
theorem dX0_makeSheets_21 : decode cX0_makeSheets 21 = .ok (.aload_n 0, 1) := by decide +kernel
theorem dX0_makeSheets_22 : decode cX0_makeSheets 22 = .ok (.getfield 51, 3) := by decide +kernel
theorem dX0_makeSheets_25 : decode cX0_makeSheets 25 = .ok (.iload_n 1, 1) := by decide +kernel
theorem dX0_makeSheets_26 : decode cX0_makeSheets 26 = .ok (.invokevirtual 132, 3) := by decide +kernel
theorem dX0_makeSheets_29 : decode cX0_makeSheets 29 = .ok (.istore 4, 2) := by decide +kernel
theorem dX0_makeSheets_31 : decode cX0_makeSheets 31 = .ok (.aload_n 0, 1) := by decide +kernel
theorem dX0_makeSheets_32 : decode cX0_makeSheets 32 = .ok (.iload_n 3, 1) := by decide +kernel
theorem dX0_makeSheets_33 : decode cX0_makeSheets 33 = .ok (.iload 4, 2) := by decide +kernel
theorem dX0_makeSheets_35 : decode cX0_makeSheets 35 = .ok (.invokevirtual 167, 3) := by decide +kernel
theorem dX0_makeSheets_38 : decode cX0_makeSheets 38 = .ok (.istore 5, 2) := by decide +kernel
theorem dX0_makeSheets_40 : decode cX0_makeSheets 40 = .ok (.aload_n 0, 1) := by decide +kernel
theorem dX0_makeSheets_41 : decode cX0_makeSheets 41 = .ok (.getfield 58, 3) := by decide +kernel
theorem dX0_makeSheets_44 : decode cX0_makeSheets 44 = .ok (.aload_n 0, 1) := by decide +kernel
theorem dX0_makeSheets_45 : decode cX0_makeSheets 45 = .ok (.getfield 44, 3) := by decide +kernel
theorem dX0_makeSheets_48 : decode cX0_makeSheets 48 = .ok (.iload 4, 2) := by decide +kernel
theorem dX0_makeSheets_50 : decode cX0_makeSheets 50 = .ok (.invokevirtual 114, 3) := by decide +kernel
theorem dX0_makeSheets_53 : decode cX0_makeSheets 53 = .ok (.iload 5, 2) := by decide +kernel
theorem dX0_makeSheets_55 : decode cX0_makeSheets 55 = .ok (.iload_n 2, 1) := by decide +kernel
theorem dX0_makeSheets_56 : decode cX0_makeSheets 56 = .ok (.invokevirtual 170, 3) := by decide +kernel
theorem dX0_makeSheets_59 : decode cX0_makeSheets 59 = .ok (.aload_n 0, 1) := by decide +kernel
theorem dX0_makeSheets_60 : decode cX0_makeSheets 60 = .ok (.dup, 1) := by decide +kernel
theorem dX0_makeSheets_61 : decode cX0_makeSheets 61 = .ok (.getfield 21, 3) := by decide +kernel
theorem dX0_makeSheets_64 : decode cX0_makeSheets 64 = .ok (.iload_n 2, 1) := by decide +kernel
theorem dX0_makeSheets_65 : decode cX0_makeSheets 65 = .ok (.iadd, 1) := by decide +kernel
theorem dX0_makeSheets_66 : decode cX0_makeSheets 66 = .ok (.putfield 21, 3) := by decide +kernel
theorem dX0_makeSheets_69 : decode cX0_makeSheets 69 = .ok (.aload_n 0, 1) := by decide +kernel
theorem dX0_makeSheets_70 : decode cX0_makeSheets 70 = .ok (.dup, 1) := by decide +kernel
theorem dX0_makeSheets_71 : decode cX0_makeSheets 71 = .ok (.getfield 24, 3) := by decide +kernel
theorem dX0_makeSheets_74 : decode cX0_makeSheets 74 = .ok (.iload_n 2, 1) := by decide +kernel
theorem dX0_makeSheets_75 : decode cX0_makeSheets 75 = .ok (.iload 5, 2) := by decide +kernel
theorem dX0_makeSheets_77 : decode cX0_makeSheets 77 = .ok (.invokestatic 174, 3) := by decide +kernel
theorem dX0_makeSheets_80 : decode cX0_makeSheets 80 = .ok (.imul, 1) := by decide +kernel
theorem dX0_makeSheets_81 : decode cX0_makeSheets 81 = .ok (.iadd, 1) := by decide +kernel
theorem dX0_makeSheets_82 : decode cX0_makeSheets 82 = .ok (.putfield 24, 3) := by decide +kernel
theorem dX0_makeSheets_85 : decode cX0_makeSheets 85 = .ok (.aload_n 0, 1) := by decide +kernel
theorem dX0_makeSheets_86 : decode cX0_makeSheets 86 = .ok (.getfield 37, 3) := by decide +kernel
theorem dX0_makeSheets_89 : decode cX0_makeSheets 89 = .ok (.iload_n 3, 1) := by decide +kernel
theorem dX0_makeSheets_90 : decode cX0_makeSheets 90 = .ok (.iload_n 2, 1) := by decide +kernel
theorem dX0_makeSheets_91 : decode cX0_makeSheets 91 = .ok (.aload_n 0, 1) := by decide +kernel
theorem dX0_makeSheets_92 : decode cX0_makeSheets 92 = .ok (.getfield 44, 3) := by decide +kernel
theorem dX0_makeSheets_95 : decode cX0_makeSheets 95 = .ok (.iload 4, 2) := by decide +kernel
theorem dX0_makeSheets_97 : decode cX0_makeSheets 97 = .ok (.invokevirtual 117, 3) := by decide +kernel
theorem dX0_makeSheets_100 : decode cX0_makeSheets 100 = .ok (.imul, 1) := by decide +kernel
theorem dX0_makeSheets_101 : decode cX0_makeSheets 101 = .ok (.invokevirtual 177, 3) := by decide +kernel
theorem dX0_makeSheets_104 : decode cX0_makeSheets 104 = .ok (.aload_n 0, 1) := by decide +kernel
theorem dX0_makeSheets_105 : decode cX0_makeSheets 105 = .ok (.getfield 44, 3) := by decide +kernel
theorem dX0_makeSheets_108 : decode cX0_makeSheets 108 = .ok (.iload 4, 2) := by decide +kernel
theorem dX0_makeSheets_110 : decode cX0_makeSheets 110 = .ok (.iload_n 2, 1) := by decide +kernel
theorem dX0_makeSheets_111 : decode cX0_makeSheets 111 = .ok (.invokevirtual 181, 3) := by decide +kernel
theorem dX0_makeSheets_114 : decode cX0_makeSheets 114 = .ok (.return_, 1) := by decide +kernel
set_option maxRecDepth 20000 in
theorem ggX0_gradeOf_X4_beatOf : GoodIn wsX0_gradeOf wsX4_beatOf := goodIn_r _ [7, 8, 9, 10, 11, 44, 45, 46] (by decide +kernel) (by decide +kernel)
set_option maxRecDepth 20000 in
theorem gX0_gradeOf_X4_beatOf : GoodIn wsX0_gradeOf (wsV RX0 138 RX4 yX4_beatOf wsX4_beatOf) := goodIn_app (goodIn_of _ (by decide +kernel)) ggX0_gradeOf_X4_beatOf
set_option maxRecDepth 20000 in
theorem ggX0_gradeOf_X4_sortOf : GoodIn wsX0_gradeOf wsX4_sortOf := goodIn_r _ [15, 16, 9, 10, 11, 44, 45, 46] (by decide +kernel) (by decide +kernel)
set_option maxRecDepth 20000 in
theorem gX0_gradeOf_X4_sortOf : GoodIn wsX0_gradeOf (wsV RX0 184 RX4 yX4_sortOf wsX4_sortOf) := goodIn_app (goodIn_of _ (by decide +kernel)) ggX0_gradeOf_X4_sortOf
set_option maxRecDepth 20000 in
theorem ggX0_gradeOf_X0_pointsOf : GoodIn wsX0_gradeOf wsX0_pointsOf := goodIn_r _ [20, 9, 10, 11] (by decide +kernel) (by decide +kernel)
set_option maxRecDepth 20000 in
theorem gX0_gradeOf_X0_pointsOf : GoodIn wsX0_gradeOf (va_wsS RX0 187 yX0_pointsOf wsX0_pointsOf) := goodIn_app (goodIn_of _ (by decide +kernel)) ggX0_gradeOf_X0_pointsOf
set_option maxRecDepth 20000 in
theorem ggX0_gradeOf_X1_wornOf : GoodIn wsX0_gradeOf wsX1_wornOf := goodIn_r _ [25, 26, 27, 28, 29, 24, 30, 31, 47, 48, 49, 50] (by decide +kernel) (by decide +kernel)
set_option maxRecDepth 20000 in
theorem gX0_gradeOf_X1_wornOf : GoodIn wsX0_gradeOf (wsV RX0 120 RX1 yX1_wornOf wsX1_wornOf) := goodIn_app (goodIn_of _ (by decide +kernel)) ggX0_gradeOf_X1_wornOf
theorem dX0_gradeOf_0 : decode cX0_gradeOf 0 = .ok (.aload_n 0, 1) := by decide +kernel
theorem dX0_gradeOf_1 : decode cX0_gradeOf 1 = .ok (.getfield 37, 3) := by decide +kernel
theorem dX0_gradeOf_4 : decode cX0_gradeOf 4 = .ok (.iload_n 1, 1) := by decide +kernel
theorem dX0_gradeOf_5 : decode cX0_gradeOf 5 = .ok (.invokevirtual 138, 3) := by decide +kernel
theorem dX0_gradeOf_8 : decode cX0_gradeOf 8 = .ok (.bipush 10, 2) := by decide +kernel
theorem dX0_gradeOf_10 : decode cX0_gradeOf 10 = .ok (.idiv, 1) := by decide +kernel
theorem dX0_gradeOf_11 : decode cX0_gradeOf 11 = .ok (.aload_n 0, 1) := by decide +kernel
theorem dX0_gradeOf_12 : decode cX0_gradeOf 12 = .ok (.getfield 37, 3) := by decide +kernel
theorem dX0_gradeOf_15 : decode cX0_gradeOf 15 = .ok (.iload_n 1, 1) := by decide +kernel
theorem dX0_gradeOf_16 : decode cX0_gradeOf 16 = .ok (.invokevirtual 184, 3) := by decide +kernel
theorem dX0_gradeOf_19 : decode cX0_gradeOf 19 = .ok (.invokestatic 187, 3) := by decide +kernel
theorem dX0_gradeOf_22 : decode cX0_gradeOf 22 = .ok (.iadd, 1) := by decide +kernel
theorem dX0_gradeOf_23 : decode cX0_gradeOf 23 = .ok (.aload_n 0, 1) := by decide +kernel
theorem dX0_gradeOf_24 : decode cX0_gradeOf 24 = .ok (.getfield 44, 3) := by decide +kernel
theorem dX0_gradeOf_27 : decode cX0_gradeOf 27 = .ok (.iload_n 2, 1) := by decide +kernel
theorem dX0_gradeOf_28 : decode cX0_gradeOf 28 = .ok (.invokevirtual 120, 3) := by decide +kernel
theorem dX0_gradeOf_31 : decode cX0_gradeOf 31 = .ok (.bipush 10, 2) := by decide +kernel
theorem dX0_gradeOf_33 : decode cX0_gradeOf 33 = .ok (.idiv, 1) := by decide +kernel
theorem dX0_gradeOf_34 : decode cX0_gradeOf 34 = .ok (.isub, 1) := by decide +kernel
theorem dX0_gradeOf_35 : decode cX0_gradeOf 35 = .ok (.istore_n 3, 1) := by decide +kernel
theorem dX0_gradeOf_36 : decode cX0_gradeOf 36 = .ok (.iload_n 3, 1) := by decide +kernel
theorem dX0_gradeOf_37 : decode cX0_gradeOf 37 = .ok (.bipush 12, 2) := by decide +kernel
theorem dX0_gradeOf_39 : decode cX0_gradeOf 39 = .ok (.if_icmp .lt 5, 3) := by decide +kernel
theorem dX0_gradeOf_42 : decode cX0_gradeOf 42 = .ok (.iconst 0, 1) := by decide +kernel
theorem dX0_gradeOf_43 : decode cX0_gradeOf 43 = .ok (.ireturn, 1) := by decide +kernel
theorem dX0_gradeOf_44 : decode cX0_gradeOf 44 = .ok (.iload_n 3, 1) := by decide +kernel
theorem dX0_gradeOf_45 : decode cX0_gradeOf 45 = .ok (.bipush 7, 2) := by decide +kernel
theorem dX0_gradeOf_47 : decode cX0_gradeOf 47 = .ok (.if_icmp .lt 7, 3) := by decide +kernel
theorem dX0_gradeOf_50 : decode cX0_gradeOf 50 = .ok (.iconst 1, 1) := by decide +kernel
theorem dX0_gradeOf_51 : decode cX0_gradeOf 51 = .ok (.goto 4, 3) := by decide +kernel
theorem dX0_gradeOf_54 : decode cX0_gradeOf 54 = .ok (.iconst 2, 1) := by decide +kernel
theorem dX0_gradeOf_55 : decode cX0_gradeOf 55 = .ok (.ireturn, 1) := by decide +kernel
set_option maxRecDepth 20000 in
theorem ggX0_pointsOf_X5_isBelow : GoodIn wsX0_pointsOf wsX5_isBelow := goodIn_r _ [3] (by decide +kernel) (by decide +kernel)
set_option maxRecDepth 20000 in
theorem gX0_pointsOf_X5_isBelow_n90 : GoodIn wsX0_pointsOf (wsX5_isBelow) := ggX0_pointsOf_X5_isBelow
theorem dX0_pointsOf_0 : decode cX0_pointsOf 0 = .ok (.iload_n 0, 1) := by decide +kernel
theorem dX0_pointsOf_1 : decode cX0_pointsOf 1 = .ok (.iconst 3, 1) := by decide +kernel
theorem dX0_pointsOf_2 : decode cX0_pointsOf 2 = .ok (.invokestatic 90, 3) := by decide +kernel
theorem dX0_pointsOf_5 : decode cX0_pointsOf 5 = .ok (.ifCond .eq 11, 3) := by decide +kernel
theorem dX0_pointsOf_8 : decode cX0_pointsOf 8 = .ok (.getstatic 190, 3) := by decide +kernel
theorem dX0_pointsOf_11 : decode cX0_pointsOf 11 = .ok (.iload_n 0, 1) := by decide +kernel
theorem dX0_pointsOf_12 : decode cX0_pointsOf 12 = .ok (.iaload, 1) := by decide +kernel
theorem dX0_pointsOf_13 : decode cX0_pointsOf 13 = .ok (.goto 4, 3) := by decide +kernel
theorem dX0_pointsOf_16 : decode cX0_pointsOf 16 = .ok (.iconst 0, 1) := by decide +kernel
theorem dX0_pointsOf_17 : decode cX0_pointsOf 17 = .ok (.ireturn, 1) := by decide +kernel
set_option maxRecDepth 20000 in
theorem ggX0_pressPosts_X2_sheetsOf : GoodIn wsX0_pressPosts wsX2_sheetsOf := goodIn_r _ [10, 11, 12, 13, 14, 9, 15, 16, 57, 58, 59, 60, 61] (by decide +kernel) (by decide +kernel)
set_option maxRecDepth 20000 in
theorem gX0_pressPosts_X2_sheetsOf : GoodIn wsX0_pressPosts (wsV RX0 193 RX2 yX2_sheetsOf wsX2_sheetsOf) := goodIn_app (goodIn_of _ (by decide +kernel)) ggX0_pressPosts_X2_sheetsOf
set_option maxRecDepth 20000 in
theorem ggX0_pressPosts_X2_markOf : GoodIn wsX0_pressPosts wsX2_markOf := goodIn_r _ [20, 21, 12, 13, 14, 9, 15, 16, 57, 58, 59, 60, 61] (by decide +kernel) (by decide +kernel)
set_option maxRecDepth 20000 in
theorem gX0_pressPosts_X2_markOf : GoodIn wsX0_pressPosts (wsV RX0 194 RX2 yX2_markOf wsX2_markOf) := goodIn_app (goodIn_of _ (by decide +kernel)) ggX0_pressPosts_X2_markOf
set_option maxRecDepth 20000 in
theorem ggX0_pressPosts_X2_gradeOf : GoodIn wsX0_pressPosts wsX2_gradeOf := goodIn_r _ [25, 26, 12, 13, 14, 9, 15, 16, 57, 58, 59, 60, 61] (by decide +kernel) (by decide +kernel)
set_option maxRecDepth 20000 in
theorem gX0_pressPosts_X2_gradeOf : GoodIn wsX0_pressPosts (wsV RX0 195 RX2 yX2_gradeOf wsX2_gradeOf) := goodIn_app (goodIn_of _ (by decide +kernel)) ggX0_pressPosts_X2_gradeOf
set_option maxRecDepth 20000 in
theorem ggX0_pressPosts_X0_hang : GoodIn wsX0_pressPosts wsX0_hang := goodIn_r _ [31, 32, 33, 34, 35, 45, 46, 47, 48, 49, 50, 51, 52, 53, 54, 55, 56] (by decide +kernel) (by decide +kernel)
set_option maxRecDepth 20000 in
theorem gX0_pressPosts_X0_hang : GoodIn wsX0_pressPosts (wsV RX0 197 RX0 yX0_hang wsX0_hang) := goodIn_app (goodIn_of _ (by decide +kernel)) ggX0_pressPosts_X0_hang
set_option maxRecDepth 20000 in
theorem ggX0_pressPosts_X2_takeOff : GoodIn wsX0_pressPosts wsX2_takeOff := goodIn_r _ [39, 11, 40, 12, 13, 14, 9, 15, 16, 57, 58, 59, 60, 61] (by decide +kernel) (by decide +kernel)
set_option maxRecDepth 20000 in
theorem gX0_pressPosts_X2_takeOff : GoodIn wsX0_pressPosts (wsV RX0 200 RX2 yX2_takeOff wsX2_takeOff) := goodIn_app (goodIn_of _ (by decide +kernel)) ggX0_pressPosts_X2_takeOff
set_option maxRecDepth 20000 in
theorem ggX0_pressPosts_X2_dropEmptyOnes : GoodIn wsX0_pressPosts wsX2_dropEmptyOnes := goodIn_r _ [44, 16, 11, 21, 26, 57, 58, 59, 60, 61] (by decide +kernel) (by decide +kernel)
set_option maxRecDepth 20000 in
theorem gX0_pressPosts_X2_dropEmptyOnes : GoodIn wsX0_pressPosts (wsV RX0 203 RX2 yX2_dropEmptyOnes wsX2_dropEmptyOnes) := goodIn_app (goodIn_of _ (by decide +kernel)) ggX0_pressPosts_X2_dropEmptyOnes
theorem dX0_pressPosts_0 : decode cX0_pressPosts 0 = .ok (.bipush 24, 2) := by decide +kernel
theorem dX0_pressPosts_2 : decode cX0_pressPosts 2 = .ok (.istore_n 1, 1) := by decide +kernel
theorem dX0_pressPosts_3 : decode cX0_pressPosts 3 = .ok (.iconst 0, 1) := by decide +kernel
theorem dX0_pressPosts_4 : decode cX0_pressPosts 4 = .ok (.istore_n 2, 1) := by decide +kernel
theorem dX0_pressPosts_5 : decode cX0_pressPosts 5 = .ok (.iload_n 2, 1) := by decide +kernel
theorem dX0_pressPosts_6 : decode cX0_pressPosts 6 = .ok (.aload_n 0, 1) := by decide +kernel
theorem dX0_pressPosts_7 : decode cX0_pressPosts 7 = .ok (.getfield 58, 3) := by decide +kernel
theorem dX0_pressPosts_10 : decode cX0_pressPosts 10 = .ok (.getfield 101, 3) := by decide +kernel
theorem dX0_pressPosts_13 : decode cX0_pressPosts 13 = .ok (.if_icmp .ge 60, 3) := by decide +kernel
theorem dX0_pressPosts_16 : decode cX0_pressPosts 16 = .ok (.iload_n 1, 1) := by decide +kernel
theorem dX0_pressPosts_17 : decode cX0_pressPosts 17 = .ok (.ifCond .le 56, 3) := by decide +kernel
theorem dX0_pressPosts_20 : decode cX0_pressPosts 20 = .ok (.iload_n 1, 1) := by decide +kernel
theorem dX0_pressPosts_21 : decode cX0_pressPosts 21 = .ok (.aload_n 0, 1) := by decide +kernel
theorem dX0_pressPosts_22 : decode cX0_pressPosts 22 = .ok (.getfield 58, 3) := by decide +kernel
theorem dX0_pressPosts_25 : decode cX0_pressPosts 25 = .ok (.iload_n 2, 1) := by decide +kernel
theorem dX0_pressPosts_26 : decode cX0_pressPosts 26 = .ok (.invokevirtual 193, 3) := by decide +kernel
theorem dX0_pressPosts_29 : decode cX0_pressPosts 29 = .ok (.invokestatic 141, 3) := by decide +kernel
theorem dX0_pressPosts_32 : decode cX0_pressPosts 32 = .ok (.istore_n 3, 1) := by decide +kernel
theorem dX0_pressPosts_33 : decode cX0_pressPosts 33 = .ok (.aload_n 0, 1) := by decide +kernel
theorem dX0_pressPosts_34 : decode cX0_pressPosts 34 = .ok (.aload_n 0, 1) := by decide +kernel
theorem dX0_pressPosts_35 : decode cX0_pressPosts 35 = .ok (.getfield 58, 3) := by decide +kernel
theorem dX0_pressPosts_38 : decode cX0_pressPosts 38 = .ok (.iload_n 2, 1) := by decide +kernel
theorem dX0_pressPosts_39 : decode cX0_pressPosts 39 = .ok (.invokevirtual 194, 3) := by decide +kernel
theorem dX0_pressPosts_42 : decode cX0_pressPosts 42 = .ok (.aload_n 0, 1) := by decide +kernel
theorem dX0_pressPosts_43 : decode cX0_pressPosts 43 = .ok (.getfield 58, 3) := by decide +kernel
theorem dX0_pressPosts_46 : decode cX0_pressPosts 46 = .ok (.iload_n 2, 1) := by decide +kernel
theorem dX0_pressPosts_47 : decode cX0_pressPosts 47 = .ok (.invokevirtual 195, 3) := by decide +kernel
theorem dX0_pressPosts_50 : decode cX0_pressPosts 50 = .ok (.iload_n 3, 1) := by decide +kernel
theorem dX0_pressPosts_51 : decode cX0_pressPosts 51 = .ok (.invokevirtual 197, 3) := by decide +kernel
theorem dX0_pressPosts_54 : decode cX0_pressPosts 54 = .ok (.aload_n 0, 1) := by decide +kernel
theorem dX0_pressPosts_55 : decode cX0_pressPosts 55 = .ok (.getfield 58, 3) := by decide +kernel
theorem dX0_pressPosts_58 : decode cX0_pressPosts 58 = .ok (.iload_n 2, 1) := by decide +kernel
theorem dX0_pressPosts_59 : decode cX0_pressPosts 59 = .ok (.iload_n 3, 1) := by decide +kernel
theorem dX0_pressPosts_60 : decode cX0_pressPosts 60 = .ok (.invokevirtual 200, 3) := by decide +kernel
theorem dX0_pressPosts_63 : decode cX0_pressPosts 63 = .ok (.iload_n 1, 1) := by decide +kernel
theorem dX0_pressPosts_64 : decode cX0_pressPosts 64 = .ok (.iload_n 3, 1) := by decide +kernel
theorem dX0_pressPosts_65 : decode cX0_pressPosts 65 = .ok (.isub, 1) := by decide +kernel
theorem dX0_pressPosts_66 : decode cX0_pressPosts 66 = .ok (.istore_n 1, 1) := by decide +kernel
theorem dX0_pressPosts_67 : decode cX0_pressPosts 67 = .ok (.iinc 2 1, 3) := by decide +kernel
theorem dX0_pressPosts_70 : decode cX0_pressPosts 70 = .ok (.goto (-65), 3) := by decide +kernel
theorem dX0_pressPosts_73 : decode cX0_pressPosts 73 = .ok (.aload_n 0, 1) := by decide +kernel
theorem dX0_pressPosts_74 : decode cX0_pressPosts 74 = .ok (.getfield 58, 3) := by decide +kernel
theorem dX0_pressPosts_77 : decode cX0_pressPosts 77 = .ok (.invokevirtual 203, 3) := by decide +kernel
theorem dX0_pressPosts_80 : decode cX0_pressPosts 80 = .ok (.return_, 1) := by decide +kernel
theorem dX0_allHanging_0 : decode cX0_allHanging 0 = .ok (.iconst 0, 1) := by decide +kernel
theorem dX0_allHanging_1 : decode cX0_allHanging 1 = .ok (.istore_n 1, 1) := by decide +kernel
theorem dX0_allHanging_2 : decode cX0_allHanging 2 = .ok (.iconst 0, 1) := by decide +kernel
theorem dX0_allHanging_3 : decode cX0_allHanging 3 = .ok (.istore_n 2, 1) := by decide +kernel
theorem dX0_allHanging_4 : decode cX0_allHanging 4 = .ok (.iload_n 2, 1) := by decide +kernel
theorem dX0_allHanging_5 : decode cX0_allHanging 5 = .ok (.aload_n 0, 1) := by decide +kernel
theorem dX0_allHanging_6 : decode cX0_allHanging 6 = .ok (.getfield 62, 3) := by decide +kernel
theorem dX0_allHanging_9 : decode cX0_allHanging 9 = .ok (.arraylength, 1) := by decide +kernel
theorem dX0_allHanging_10 : decode cX0_allHanging 10 = .ok (.if_icmp .ge 18, 3) := by decide +kernel
theorem dX0_allHanging_13 : decode cX0_allHanging 13 = .ok (.iload_n 1, 1) := by decide +kernel
theorem dX0_allHanging_14 : decode cX0_allHanging 14 = .ok (.aload_n 0, 1) := by decide +kernel
theorem dX0_allHanging_15 : decode cX0_allHanging 15 = .ok (.getfield 62, 3) := by decide +kernel
theorem dX0_allHanging_18 : decode cX0_allHanging 18 = .ok (.iload_n 2, 1) := by decide +kernel
theorem dX0_allHanging_19 : decode cX0_allHanging 19 = .ok (.iaload, 1) := by decide +kernel
theorem dX0_allHanging_20 : decode cX0_allHanging 20 = .ok (.iadd, 1) := by decide +kernel
theorem dX0_allHanging_21 : decode cX0_allHanging 21 = .ok (.istore_n 1, 1) := by decide +kernel
theorem dX0_allHanging_22 : decode cX0_allHanging 22 = .ok (.iinc 2 1, 3) := by decide +kernel
theorem dX0_allHanging_25 : decode cX0_allHanging 25 = .ok (.goto (-21), 3) := by decide +kernel
theorem dX0_allHanging_28 : decode cX0_allHanging 28 = .ok (.iload_n 1, 1) := by decide +kernel
theorem dX0_allHanging_29 : decode cX0_allHanging 29 = .ok (.ireturn, 1) := by decide +kernel
set_option maxRecDepth 20000 in
theorem ggX0_poundsOf_X5_isBelow : GoodIn wsX0_poundsOf wsX5_isBelow := goodIn_r _ [4] (by decide +kernel) (by decide +kernel)
set_option maxRecDepth 20000 in
theorem gX0_poundsOf_X5_isBelow_n90 : GoodIn wsX0_poundsOf (wsX5_isBelow) := ggX0_poundsOf_X5_isBelow
theorem dX0_poundsOf_0 : decode cX0_poundsOf 0 = .ok (.iload_n 1, 1) := by decide +kernel
theorem dX0_poundsOf_1 : decode cX0_poundsOf 1 = .ok (.iconst 3, 1) := by decide +kernel
theorem dX0_poundsOf_2 : decode cX0_poundsOf 2 = .ok (.invokestatic 90, 3) := by decide +kernel
theorem dX0_poundsOf_5 : decode cX0_poundsOf 5 = .ok (.ifCond .eq 12, 3) := by decide +kernel
theorem dX0_poundsOf_8 : decode cX0_poundsOf 8 = .ok (.aload_n 0, 1) := by decide +kernel
theorem dX0_poundsOf_9 : decode cX0_poundsOf 9 = .ok (.getfield 27, 3) := by decide +kernel
theorem dX0_poundsOf_12 : decode cX0_poundsOf 12 = .ok (.iload_n 1, 1) := by decide +kernel
theorem dX0_poundsOf_13 : decode cX0_poundsOf 13 = .ok (.iaload, 1) := by decide +kernel
theorem dX0_poundsOf_14 : decode cX0_poundsOf 14 = .ok (.goto 4, 3) := by decide +kernel
theorem dX0_poundsOf_17 : decode cX0_poundsOf 17 = .ok (.iconst 0, 1) := by decide +kernel
theorem dX0_poundsOf_18 : decode cX0_poundsOf 18 = .ok (.ireturn, 1) := by decide +kernel
