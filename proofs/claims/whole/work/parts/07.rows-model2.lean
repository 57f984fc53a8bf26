set_option maxRecDepth 20000 in
theorem gX6_post_X6_fail : GoodIn wsX6_post (wsV RX6 53 RX6 yX6_fail wsX6_fail) := goodIn_app (goodIn_of _ (by decide +kernel)) ggX6_post_X6_fail
theorem dX6_post_0 : decode cX6_post 0 = .ok (.aload_n 0, 1) := by decide +kernel
theorem dX6_post_1 : decode cX6_post 1 = .ok (.iconst 0, 1) := by decide +kernel
theorem dX6_post_2 : decode cX6_post 2 = .ok (.putfield 31, 3) := by decide +kernel
theorem dX6_post_5 : decode cX6_post 5 = .ok (.iload_n 1, 1) := by decide +kernel
theorem dX6_post_6 : decode cX6_post 6 = .ok (.iconst 0, 1) := by decide +kernel
theorem dX6_post_7 : decode cX6_post 7 = .ok (.aload_n 0, 1) := by decide +kernel
theorem dX6_post_8 : decode cX6_post 8 = .ok (.getfield 28, 3) := by decide +kernel
theorem dX6_post_11 : decode cX6_post 11 = .ok (.iconst 5, 1) := by decide +kernel
theorem dX6_post_12 : decode cX6_post 12 = .ok (.iaload, 1) := by decide +kernel
theorem dX6_post_13 : decode cX6_post 13 = .ok (.iconst 1, 1) := by decide +kernel
theorem dX6_post_14 : decode cX6_post 14 = .ok (.isub, 1) := by decide +kernel
theorem dX6_post_15 : decode cX6_post 15 = .ok (.invokestatic 35, 3) := by decide +kernel
theorem dX6_post_18 : decode cX6_post 18 = .ok (.ifCond .eq 21, 3) := by decide +kernel
theorem dX6_post_21 : decode cX6_post 21 = .ok (.iload_n 2, 1) := by decide +kernel
theorem dX6_post_22 : decode cX6_post 22 = .ok (.iconst 0, 1) := by decide +kernel
theorem dX6_post_23 : decode cX6_post 23 = .ok (.iconst 2, 1) := by decide +kernel
theorem dX6_post_24 : decode cX6_post 24 = .ok (.invokestatic 35, 3) := by decide +kernel
theorem dX6_post_27 : decode cX6_post 27 = .ok (.ifCond .eq 12, 3) := by decide +kernel
theorem dX6_post_30 : decode cX6_post 30 = .ok (.aload_n 0, 1) := by decide +kernel
theorem dX6_post_31 : decode cX6_post 31 = .ok (.iload_n 1, 1) := by decide +kernel
theorem dX6_post_32 : decode cX6_post 32 = .ok (.iload_n 2, 1) := by decide +kernel
theorem dX6_post_33 : decode cX6_post 33 = .ok (.invokevirtual 45, 3) := by decide +kernel
theorem dX6_post_36 : decode cX6_post 36 = .ok (.goto 8, 3) := by decide +kernel
theorem dX6_post_39 : decode cX6_post 39 = .ok (.aload_n 0, 1) := by decide +kernel
theorem dX6_post_40 : decode cX6_post 40 = .ok (.iconst 1, 1) := by decide +kernel
theorem dX6_post_41 : decode cX6_post 41 = .ok (.invokevirtual 53, 3) := by decide +kernel
theorem dX6_post_44 : decode cX6_post 44 = .ok (.ireturn, 1) := by decide +kernel
set_option maxRecDepth 20000 in
theorem ggX6_loft_X6_isIn : GoodIn wsX6_loft wsX6_isIn := goodIn_r _ [6] (by decide +kernel) (by decide +kernel)
set_option maxRecDepth 20000 in
theorem gX6_loft_X6_isIn : GoodIn wsX6_loft (va_wsS RX6 35 yX6_isIn wsX6_isIn) := goodIn_app (goodIn_of _ (by decide +kernel)) ggX6_loft_X6_isIn
set_option maxRecDepth 20000 in
theorem ggX6_loft_X6_fail : GoodIn wsX6_loft wsX6_fail := goodIn_r _ [10, 1, 11, 12, 13, 14, 15, 16, 17, 18, 19, 20] (by decide +kernel) (by decide +kernel)
set_option maxRecDepth 20000 in
theorem gX6_loft_X6_fail : GoodIn wsX6_loft (wsV RX6 53 RX6 yX6_fail wsX6_fail) := goodIn_app (goodIn_of _ (by decide +kernel)) ggX6_loft_X6_fail
theorem dX6_loft_0 : decode cX6_loft 0 = .ok (.aload_n 0, 1) := by decide +kernel
theorem dX6_loft_1 : decode cX6_loft 1 = .ok (.iconst 0, 1) := by decide +kernel
theorem dX6_loft_2 : decode cX6_loft 2 = .ok (.putfield 31, 3) := by decide +kernel
theorem dX6_loft_5 : decode cX6_loft 5 = .ok (.iload_n 1, 1) := by decide +kernel
theorem dX6_loft_6 : decode cX6_loft 6 = .ok (.iconst 0, 1) := by decide +kernel
theorem dX6_loft_7 : decode cX6_loft 7 = .ok (.bipush 9, 2) := by decide +kernel
theorem dX6_loft_9 : decode cX6_loft 9 = .ok (.invokestatic 35, 3) := by decide +kernel
theorem dX6_loft_12 : decode cX6_loft 12 = .ok (.ifCond .eq 25, 3) := by decide +kernel
theorem dX6_loft_15 : decode cX6_loft 15 = .ok (.iload_n 2, 1) := by decide +kernel
theorem dX6_loft_16 : decode cX6_loft 16 = .ok (.iconst 0, 1) := by decide +kernel
theorem dX6_loft_17 : decode cX6_loft 17 = .ok (.iconst 2, 1) := by decide +kernel
theorem dX6_loft_18 : decode cX6_loft 18 = .ok (.invokestatic 35, 3) := by decide +kernel
theorem dX6_loft_21 : decode cX6_loft 21 = .ok (.ifCond .eq 16, 3) := by decide +kernel
theorem dX6_loft_24 : decode cX6_loft 24 = .ok (.aload_n 0, 1) := by decide +kernel
theorem dX6_loft_25 : decode cX6_loft 25 = .ok (.getfield 25, 3) := by decide +kernel
theorem dX6_loft_28 : decode cX6_loft 28 = .ok (.iconst 3, 1) := by decide +kernel
theorem dX6_loft_29 : decode cX6_loft 29 = .ok (.iload_n 1, 1) := by decide +kernel
theorem dX6_loft_30 : decode cX6_loft 30 = .ok (.imul, 1) := by decide +kernel
theorem dX6_loft_31 : decode cX6_loft 31 = .ok (.iload_n 2, 1) := by decide +kernel
theorem dX6_loft_32 : decode cX6_loft 32 = .ok (.iadd, 1) := by decide +kernel
theorem dX6_loft_33 : decode cX6_loft 33 = .ok (.iaload, 1) := by decide +kernel
theorem dX6_loft_34 : decode cX6_loft 34 = .ok (.goto 8, 3) := by decide +kernel
theorem dX6_loft_37 : decode cX6_loft 37 = .ok (.aload_n 0, 1) := by decide +kernel
theorem dX6_loft_38 : decode cX6_loft 38 = .ok (.iconst 1, 1) := by decide +kernel
theorem dX6_loft_39 : decode cX6_loft 39 = .ok (.invokevirtual 53, 3) := by decide +kernel
theorem dX6_loft_42 : decode cX6_loft 42 = .ok (.ireturn, 1) := by decide +kernel
set_option maxRecDepth 20000 in
theorem ggX6_counted_X6_free : GoodIn wsX6_counted wsX6_free := goodIn_r _ [7, 1, 8, 9, 10, 6, 11, 12, 13, 14, 15, 16, 22, 23, 24, 25, 26, 27, 28, 29, 30, 31] (by decide +kernel) (by decide +kernel)
set_option maxRecDepth 20000 in
theorem gX6_counted_X6_free : GoodIn wsX6_counted (wsV RX6 80 RX6 yX6_free wsX6_free) := goodIn_app (goodIn_of _ (by decide +kernel)) ggX6_counted_X6_free
set_option maxRecDepth 20000 in
theorem ggX6_counted_X6_va : GoodIn wsX6_counted wsX6_va := goodIn_r _ [20, 21, 22, 23, 24, 25, 26, 27, 28, 29, 30, 31] (by decide +kernel) (by decide +kernel)
set_option maxRecDepth 20000 in
theorem gX6_counted_X6_va : GoodIn wsX6_counted (wsV RX6 64 RX6 yX6_va wsX6_va) := goodIn_app (goodIn_of _ (by decide +kernel)) ggX6_counted_X6_va
theorem dX6_counted_0 : decode cX6_counted 0 = .ok (.iconst 0, 1) := by decide +kernel
theorem dX6_counted_1 : decode cX6_counted 1 = .ok (.istore_n 2, 1) := by decide +kernel
theorem dX6_counted_2 : decode cX6_counted 2 = .ok (.iload_n 1, 1) := by decide +kernel
theorem dX6_counted_3 : decode cX6_counted 3 = .ok (.tableswitch 158 0 8 #[49, 56, 63, 70, 75, 82, 89, 96, 134], 49) := by decide +kernel
theorem dX6_counted_52 : decode cX6_counted 52 = .ok (.aload_n 0, 1) := by decide +kernel
theorem dX6_counted_53 : decode cX6_counted 53 = .ok (.getfield 28, 3) := by decide +kernel
theorem dX6_counted_56 : decode cX6_counted 56 = .ok (.iconst 0, 1) := by decide +kernel
theorem dX6_counted_57 : decode cX6_counted 57 = .ok (.iaload, 1) := by decide +kernel
theorem dX6_counted_58 : decode cX6_counted 58 = .ok (.ireturn, 1) := by decide +kernel
theorem dX6_counted_59 : decode cX6_counted 59 = .ok (.aload_n 0, 1) := by decide +kernel
theorem dX6_counted_60 : decode cX6_counted 60 = .ok (.getfield 28, 3) := by decide +kernel
theorem dX6_counted_63 : decode cX6_counted 63 = .ok (.iconst 1, 1) := by decide +kernel
theorem dX6_counted_64 : decode cX6_counted 64 = .ok (.iaload, 1) := by decide +kernel
theorem dX6_counted_65 : decode cX6_counted 65 = .ok (.ireturn, 1) := by decide +kernel
theorem dX6_counted_66 : decode cX6_counted 66 = .ok (.aload_n 0, 1) := by decide +kernel
theorem dX6_counted_67 : decode cX6_counted 67 = .ok (.getfield 28, 3) := by decide +kernel
theorem dX6_counted_70 : decode cX6_counted 70 = .ok (.iconst 2, 1) := by decide +kernel
theorem dX6_counted_71 : decode cX6_counted 71 = .ok (.iaload, 1) := by decide +kernel
theorem dX6_counted_72 : decode cX6_counted 72 = .ok (.ireturn, 1) := by decide +kernel
theorem dX6_counted_73 : decode cX6_counted 73 = .ok (.aload_n 0, 1) := by decide +kernel
theorem dX6_counted_74 : decode cX6_counted 74 = .ok (.invokevirtual 80, 3) := by decide +kernel
theorem dX6_counted_77 : decode cX6_counted 77 = .ok (.ireturn, 1) := by decide +kernel
theorem dX6_counted_78 : decode cX6_counted 78 = .ok (.aload_n 0, 1) := by decide +kernel
theorem dX6_counted_79 : decode cX6_counted 79 = .ok (.getfield 28, 3) := by decide +kernel
theorem dX6_counted_82 : decode cX6_counted 82 = .ok (.iconst 3, 1) := by decide +kernel
theorem dX6_counted_83 : decode cX6_counted 83 = .ok (.iaload, 1) := by decide +kernel
theorem dX6_counted_84 : decode cX6_counted 84 = .ok (.ireturn, 1) := by decide +kernel
theorem dX6_counted_85 : decode cX6_counted 85 = .ok (.aload_n 0, 1) := by decide +kernel
theorem dX6_counted_86 : decode cX6_counted 86 = .ok (.getfield 28, 3) := by decide +kernel
theorem dX6_counted_89 : decode cX6_counted 89 = .ok (.iconst 4, 1) := by decide +kernel
theorem dX6_counted_90 : decode cX6_counted 90 = .ok (.iaload, 1) := by decide +kernel
theorem dX6_counted_91 : decode cX6_counted 91 = .ok (.ireturn, 1) := by decide +kernel
theorem dX6_counted_92 : decode cX6_counted 92 = .ok (.aload_n 0, 1) := by decide +kernel
theorem dX6_counted_93 : decode cX6_counted 93 = .ok (.getfield 28, 3) := by decide +kernel
theorem dX6_counted_96 : decode cX6_counted 96 = .ok (.iconst 5, 1) := by decide +kernel
theorem dX6_counted_97 : decode cX6_counted 97 = .ok (.iaload, 1) := by decide +kernel
theorem dX6_counted_98 : decode cX6_counted 98 = .ok (.ireturn, 1) := by decide +kernel
theorem dX6_counted_99 : decode cX6_counted 99 = .ok (.aload_n 0, 1) := by decide +kernel
theorem dX6_counted_100 : decode cX6_counted 100 = .ok (.getfield 25, 3) := by decide +kernel
theorem dX6_counted_103 : decode cX6_counted 103 = .ok (.astore_n 3, 1) := by decide +kernel
theorem dX6_counted_104 : decode cX6_counted 104 = .ok (.aload_n 3, 1) := by decide +kernel
theorem dX6_counted_105 : decode cX6_counted 105 = .ok (.arraylength, 1) := by decide +kernel
theorem dX6_counted_106 : decode cX6_counted 106 = .ok (.istore 4, 2) := by decide +kernel
theorem dX6_counted_108 : decode cX6_counted 108 = .ok (.iconst 0, 1) := by decide +kernel
theorem dX6_counted_109 : decode cX6_counted 109 = .ok (.istore 5, 2) := by decide +kernel
theorem dX6_counted_111 : decode cX6_counted 111 = .ok (.iload 5, 2) := by decide +kernel
theorem dX6_counted_113 : decode cX6_counted 113 = .ok (.iload 4, 2) := by decide +kernel
theorem dX6_counted_115 : decode cX6_counted 115 = .ok (.if_icmp .ge 20, 3) := by decide +kernel
theorem dX6_counted_118 : decode cX6_counted 118 = .ok (.aload_n 3, 1) := by decide +kernel
theorem dX6_counted_119 : decode cX6_counted 119 = .ok (.iload 5, 2) := by decide +kernel
theorem dX6_counted_121 : decode cX6_counted 121 = .ok (.iaload, 1) := by decide +kernel
theorem dX6_counted_122 : decode cX6_counted 122 = .ok (.istore 6, 2) := by decide +kernel
theorem dX6_counted_124 : decode cX6_counted 124 = .ok (.iload_n 2, 1) := by decide +kernel
theorem dX6_counted_125 : decode cX6_counted 125 = .ok (.iload 6, 2) := by decide +kernel
theorem dX6_counted_127 : decode cX6_counted 127 = .ok (.iadd, 1) := by decide +kernel
theorem dX6_counted_128 : decode cX6_counted 128 = .ok (.istore_n 2, 1) := by decide +kernel
theorem dX6_counted_129 : decode cX6_counted 129 = .ok (.iinc 5 1, 3) := by decide +kernel
theorem dX6_counted_132 : decode cX6_counted 132 = .ok (.goto (-21), 3) := by decide +kernel
theorem dX6_counted_135 : decode cX6_counted 135 = .ok (.iload_n 2, 1) := by decide +kernel
theorem dX6_counted_136 : decode cX6_counted 136 = .ok (.ireturn, 1) := by decide +kernel
theorem dX6_counted_137 : decode cX6_counted 137 = .ok (.iconst 0, 1) := by decide +kernel
theorem dX6_counted_138 : decode cX6_counted 138 = .ok (.istore_n 3, 1) := by decide +kernel
theorem dX6_counted_139 : decode cX6_counted 139 = .ok (.iload_n 3, 1) := by decide +kernel
theorem dX6_counted_140 : decode cX6_counted 140 = .ok (.iconst 4, 1) := by decide +kernel
theorem dX6_counted_141 : decode cX6_counted 141 = .ok (.if_icmp .ge 18, 3) := by decide +kernel
theorem dX6_counted_144 : decode cX6_counted 144 = .ok (.iload_n 2, 1) := by decide +kernel
theorem dX6_counted_145 : decode cX6_counted 145 = .ok (.aload_n 0, 1) := by decide +kernel
theorem dX6_counted_146 : decode cX6_counted 146 = .ok (.iload_n 3, 1) := by decide +kernel
theorem dX6_counted_147 : decode cX6_counted 147 = .ok (.iconst 0, 1) := by decide +kernel
theorem dX6_counted_148 : decode cX6_counted 148 = .ok (.invokevirtual 64, 3) := by decide +kernel
theorem dX6_counted_151 : decode cX6_counted 151 = .ok (.iadd, 1) := by decide +kernel
theorem dX6_counted_152 : decode cX6_counted 152 = .ok (.istore_n 2, 1) := by decide +kernel
theorem dX6_counted_153 : decode cX6_counted 153 = .ok (.iinc 3 1, 3) := by decide +kernel
theorem dX6_counted_156 : decode cX6_counted 156 = .ok (.goto (-17), 3) := by decide +kernel
theorem dX6_counted_159 : decode cX6_counted 159 = .ok (.iload_n 2, 1) := by decide +kernel
theorem dX6_counted_160 : decode cX6_counted 160 = .ok (.ireturn, 1) := by decide +kernel
theorem dX6_counted_161 : decode cX6_counted 161 = .ok (.aload_n 0, 1) := by decide +kernel
theorem dX6_counted_162 : decode cX6_counted 162 = .ok (.getfield 28, 3) := by decide +kernel
theorem dX6_counted_165 : decode cX6_counted 165 = .ok (.bipush 6, 2) := by decide +kernel
theorem dX6_counted_167 : decode cX6_counted 167 = .ok (.iload_n 1, 1) := by decide +kernel
theorem dX6_counted_168 : decode cX6_counted 168 = .ok (.iadd, 1) := by decide +kernel
theorem dX6_counted_169 : decode cX6_counted 169 = .ok (.bipush 9, 2) := by decide +kernel
theorem dX6_counted_171 : decode cX6_counted 171 = .ok (.isub, 1) := by decide +kernel
theorem dX6_counted_172 : decode cX6_counted 172 = .ok (.iaload, 1) := by decide +kernel
theorem dX6_counted_173 : decode cX6_counted 173 = .ok (.ireturn, 1) := by decide +kernel
set_option maxRecDepth 20000 in
theorem ggX6_count_X6_isIn : GoodIn wsX6_count wsX6_isIn := goodIn_r _ [5] (by decide +kernel) (by decide +kernel)
set_option maxRecDepth 20000 in
theorem gX6_count_X6_isIn : GoodIn wsX6_count (va_wsS RX6 35 yX6_isIn wsX6_isIn) := goodIn_app (goodIn_of _ (by decide +kernel)) ggX6_count_X6_isIn
set_option maxRecDepth 20000 in
theorem ggX6_count_X6_counted : GoodIn wsX6_count wsX6_counted := goodIn_r _ [9, 10, 11, 12, 13, 14, 4, 15, 16, 17, 18, 19, 20, 21, 22, 23, 24, 25, 26, 27, 28, 29, 34, 35, 36, 37, 38, 39, 40, 41, 42, 43] (by decide +kernel) (by decide +kernel)
set_option maxRecDepth 20000 in
theorem gX6_count_X6_counted : GoodIn wsX6_count (wsV RX6 103 RX6 yX6_counted wsX6_counted) := goodIn_app (goodIn_of _ (by decide +kernel)) ggX6_count_X6_counted
set_option maxRecDepth 20000 in
theorem ggX6_count_X6_fail : GoodIn wsX6_count wsX6_fail := goodIn_r _ [33, 1, 34, 35, 36, 37, 38, 39, 40, 41, 42, 43] (by decide +kernel) (by decide +kernel)
set_option maxRecDepth 20000 in
theorem gX6_count_X6_fail : GoodIn wsX6_count (wsV RX6 53 RX6 yX6_fail wsX6_fail) := goodIn_app (goodIn_of _ (by decide +kernel)) ggX6_count_X6_fail
theorem dX6_count_0 : decode cX6_count 0 = .ok (.aload_n 0, 1) := by decide +kernel
theorem dX6_count_1 : decode cX6_count 1 = .ok (.iconst 0, 1) := by decide +kernel
theorem dX6_count_2 : decode cX6_count 2 = .ok (.putfield 31, 3) := by decide +kernel
theorem dX6_count_5 : decode cX6_count 5 = .ok (.iload_n 1, 1) := by decide +kernel
theorem dX6_count_6 : decode cX6_count 6 = .ok (.iconst 0, 1) := by decide +kernel
theorem dX6_count_7 : decode cX6_count 7 = .ok (.bipush 11, 2) := by decide +kernel
theorem dX6_count_9 : decode cX6_count 9 = .ok (.invokestatic 35, 3) := by decide +kernel
theorem dX6_count_12 : decode cX6_count 12 = .ok (.ifCond .eq 11, 3) := by decide +kernel
theorem dX6_count_15 : decode cX6_count 15 = .ok (.aload_n 0, 1) := by decide +kernel
theorem dX6_count_16 : decode cX6_count 16 = .ok (.iload_n 1, 1) := by decide +kernel
theorem dX6_count_17 : decode cX6_count 17 = .ok (.invokevirtual 103, 3) := by decide +kernel
theorem dX6_count_20 : decode cX6_count 20 = .ok (.goto 8, 3) := by decide +kernel
theorem dX6_count_23 : decode cX6_count 23 = .ok (.aload_n 0, 1) := by decide +kernel
theorem dX6_count_24 : decode cX6_count 24 = .ok (.iconst 1, 1) := by decide +kernel
theorem dX6_count_25 : decode cX6_count 25 = .ok (.invokevirtual 53, 3) := by decide +kernel
theorem dX6_count_28 : decode cX6_count 28 = .ok (.ireturn, 1) := by decide +kernel
set_option maxRecDepth 20000 in
theorem ggX6_beat_X6_va : GoodIn wsX6_beat wsX6_va := goodIn_r _ [11, 12, 17, 18, 19, 20, 21, 22, 23, 24, 25, 26] (by decide +kernel) (by decide +kernel)
set_option maxRecDepth 20000 in
theorem gX6_beat_X6_va : GoodIn wsX6_beat (wsV RX6 64 RX6 yX6_va wsX6_va) := goodIn_app (goodIn_of _ (by decide +kernel)) ggX6_beat_X6_va
set_option maxRecDepth 20000 in
theorem ggX6_beat_X6_let : GoodIn wsX6_beat wsX6_let := goodIn_r _ [16, 12, 17, 18, 19, 20, 21, 22, 23, 24, 25, 26] (by decide +kernel) (by decide +kernel)
set_option maxRecDepth 20000 in
theorem gX6_beat_X6_let : GoodIn wsX6_beat (wsV RX6 67 RX6 yX6_let wsX6_let) := goodIn_app (goodIn_of _ (by decide +kernel)) ggX6_beat_X6_let
theorem dX6_beat_0 : decode cX6_beat 0 = .ok (.iconst 0, 1) := by decide +kernel
theorem dX6_beat_1 : decode cX6_beat 1 = .ok (.istore_n 1, 1) := by decide +kernel
theorem dX6_beat_2 : decode cX6_beat 2 = .ok (.iconst 0, 1) := by decide +kernel
theorem dX6_beat_3 : decode cX6_beat 3 = .ok (.istore_n 2, 1) := by decide +kernel
theorem dX6_beat_4 : decode cX6_beat 4 = .ok (.iload_n 2, 1) := by decide +kernel
theorem dX6_beat_5 : decode cX6_beat 5 = .ok (.iconst 4, 1) := by decide +kernel
theorem dX6_beat_6 : decode cX6_beat 6 = .ok (.if_icmp .ge 26, 3) := by decide +kernel
theorem dX6_beat_9 : decode cX6_beat 9 = .ok (.iload_n 1, 1) := by decide +kernel
theorem dX6_beat_10 : decode cX6_beat 10 = .ok (.aload_n 0, 1) := by decide +kernel
theorem dX6_beat_11 : decode cX6_beat 11 = .ok (.iload_n 2, 1) := by decide +kernel
theorem dX6_beat_12 : decode cX6_beat 12 = .ok (.iconst 0, 1) := by decide +kernel
theorem dX6_beat_13 : decode cX6_beat 13 = .ok (.invokevirtual 64, 3) := by decide +kernel
theorem dX6_beat_16 : decode cX6_beat 16 = .ok (.ifCond .le 7, 3) := by decide +kernel
theorem dX6_beat_19 : decode cX6_beat 19 = .ok (.iconst 1, 1) := by decide +kernel
theorem dX6_beat_20 : decode cX6_beat 20 = .ok (.goto 4, 3) := by decide +kernel
theorem dX6_beat_23 : decode cX6_beat 23 = .ok (.iconst 0, 1) := by decide +kernel
theorem dX6_beat_24 : decode cX6_beat 24 = .ok (.iadd, 1) := by decide +kernel
theorem dX6_beat_25 : decode cX6_beat 25 = .ok (.istore_n 1, 1) := by decide +kernel
theorem dX6_beat_26 : decode cX6_beat 26 = .ok (.iinc 2 1, 3) := by decide +kernel
theorem dX6_beat_29 : decode cX6_beat 29 = .ok (.goto (-25), 3) := by decide +kernel
theorem dX6_beat_32 : decode cX6_beat 32 = .ok (.iconst 0, 1) := by decide +kernel
theorem dX6_beat_33 : decode cX6_beat 33 = .ok (.istore_n 2, 1) := by decide +kernel
theorem dX6_beat_34 : decode cX6_beat 34 = .ok (.iload_n 2, 1) := by decide +kernel
theorem dX6_beat_35 : decode cX6_beat 35 = .ok (.iconst 4, 1) := by decide +kernel
theorem dX6_beat_36 : decode cX6_beat 36 = .ok (.if_icmp .ge 65, 3) := by decide +kernel
theorem dX6_beat_39 : decode cX6_beat 39 = .ok (.aload_n 0, 1) := by decide +kernel
theorem dX6_beat_40 : decode cX6_beat 40 = .ok (.iload_n 2, 1) := by decide +kernel
theorem dX6_beat_41 : decode cX6_beat 41 = .ok (.iconst 0, 1) := by decide +kernel
theorem dX6_beat_42 : decode cX6_beat 42 = .ok (.invokevirtual 64, 3) := by decide +kernel
theorem dX6_beat_45 : decode cX6_beat 45 = .ok (.ifCond .le 50, 3) := by decide +kernel
theorem dX6_beat_48 : decode cX6_beat 48 = .ok (.aload_n 0, 1) := by decide +kernel
theorem dX6_beat_49 : decode cX6_beat 49 = .ok (.iload_n 2, 1) := by decide +kernel
theorem dX6_beat_50 : decode cX6_beat 50 = .ok (.aload_n 0, 1) := by decide +kernel
theorem dX6_beat_51 : decode cX6_beat 51 = .ok (.iload_n 2, 1) := by decide +kernel
theorem dX6_beat_52 : decode cX6_beat 52 = .ok (.iconst 0, 1) := by decide +kernel
theorem dX6_beat_53 : decode cX6_beat 53 = .ok (.invokevirtual 64, 3) := by decide +kernel
theorem dX6_beat_56 : decode cX6_beat 56 = .ok (.bipush 99, 2) := by decide +kernel
theorem dX6_beat_58 : decode cX6_beat 58 = .ok (.aload_n 0, 1) := by decide +kernel
theorem dX6_beat_59 : decode cX6_beat 59 = .ok (.iload_n 2, 1) := by decide +kernel
theorem dX6_beat_60 : decode cX6_beat 60 = .ok (.iconst 1, 1) := by decide +kernel
theorem dX6_beat_61 : decode cX6_beat 61 = .ok (.invokevirtual 64, 3) := by decide +kernel
theorem dX6_beat_64 : decode cX6_beat 64 = .ok (.iconst 3, 1) := by decide +kernel
theorem dX6_beat_65 : decode cX6_beat 65 = .ok (.aload_n 0, 1) := by decide +kernel
theorem dX6_beat_66 : decode cX6_beat 66 = .ok (.getfield 7, 3) := by decide +kernel
theorem dX6_beat_69 : decode cX6_beat 69 = .ok (.aload_n 0, 1) := by decide +kernel
theorem dX6_beat_70 : decode cX6_beat 70 = .ok (.getfield 28, 3) := by decide +kernel
theorem dX6_beat_73 : decode cX6_beat 73 = .ok (.iconst 0, 1) := by decide +kernel
theorem dX6_beat_74 : decode cX6_beat 74 = .ok (.iaload, 1) := by decide +kernel
theorem dX6_beat_75 : decode cX6_beat 75 = .ok (.bipush 7, 2) := by decide +kernel
theorem dX6_beat_77 : decode cX6_beat 77 = .ok (.irem, 1) := by decide +kernel
theorem dX6_beat_78 : decode cX6_beat 78 = .ok (.iaload, 1) := by decide +kernel
theorem dX6_beat_79 : decode cX6_beat 79 = .ok (.imul, 1) := by decide +kernel
theorem dX6_beat_80 : decode cX6_beat 80 = .ok (.iload_n 1, 1) := by decide +kernel
theorem dX6_beat_81 : decode cX6_beat 81 = .ok (.idiv, 1) := by decide +kernel
theorem dX6_beat_82 : decode cX6_beat 82 = .ok (.iadd, 1) := by decide +kernel
theorem dX6_beat_83 : decode cX6_beat 83 = .ok (.invokestatic 83, 3) := by decide +kernel
theorem dX6_beat_86 : decode cX6_beat 86 = .ok (.aload_n 0, 1) := by decide +kernel
theorem dX6_beat_87 : decode cX6_beat 87 = .ok (.iload_n 2, 1) := by decide +kernel
theorem dX6_beat_88 : decode cX6_beat 88 = .ok (.iconst 2, 1) := by decide +kernel
theorem dX6_beat_89 : decode cX6_beat 89 = .ok (.invokevirtual 64, 3) := by decide +kernel
theorem dX6_beat_92 : decode cX6_beat 92 = .ok (.invokevirtual 67, 3) := by decide +kernel
theorem dX6_beat_95 : decode cX6_beat 95 = .ok (.iinc 2 1, 3) := by decide +kernel
theorem dX6_beat_98 : decode cX6_beat 98 = .ok (.goto (-64), 3) := by decide +kernel
theorem dX6_beat_101 : decode cX6_beat 101 = .ok (.return_, 1) := by decide +kernel
set_option maxRecDepth 20000 in
theorem ggX6_grade_X6_va : GoodIn wsX6_grade wsX6_va := goodIn_r _ [5, 6, 12, 13, 14, 15, 16, 17, 18, 19, 20, 21] (by decide +kernel) (by decide +kernel)
set_option maxRecDepth 20000 in
theorem gX6_grade_X6_va : GoodIn wsX6_grade (wsV RX6 64 RX6 yX6_va wsX6_va) := goodIn_app (goodIn_of _ (by decide +kernel)) ggX6_grade_X6_va
set_option maxRecDepth 20000 in
theorem ggX6_grade_X6_mo : GoodIn wsX6_grade wsX6_mo := goodIn_r _ [10, 11, 12, 13, 14, 15, 16, 17, 18, 19, 20, 21] (by decide +kernel) (by decide +kernel)
set_option maxRecDepth 20000 in
theorem gX6_grade_X6_mo : GoodIn wsX6_grade (wsV RX6 74 RX6 yX6_mo wsX6_mo) := goodIn_app (goodIn_of _ (by decide +kernel)) ggX6_grade_X6_mo
theorem dX6_grade_0 : decode cX6_grade 0 = .ok (.aload_n 0, 1) := by decide +kernel
theorem dX6_grade_1 : decode cX6_grade 1 = .ok (.iload_n 1, 1) := by decide +kernel
theorem dX6_grade_2 : decode cX6_grade 2 = .ok (.iconst 2, 1) := by decide +kernel
theorem dX6_grade_3 : decode cX6_grade 3 = .ok (.invokevirtual 64, 3) := by decide +kernel
theorem dX6_grade_6 : decode cX6_grade 6 = .ok (.istore_n 3, 1) := by decide +kernel
theorem dX6_grade_7 : decode cX6_grade 7 = .ok (.aload_n 0, 1) := by decide +kernel
theorem dX6_grade_8 : decode cX6_grade 8 = .ok (.iload_n 1, 1) := by decide +kernel
theorem dX6_grade_9 : decode cX6_grade 9 = .ok (.iconst 1, 1) := by decide +kernel
theorem dX6_grade_10 : decode cX6_grade 10 = .ok (.invokevirtual 64, 3) := by decide +kernel
theorem dX6_grade_13 : decode cX6_grade 13 = .ok (.bipush 10, 2) := by decide +kernel
theorem dX6_grade_15 : decode cX6_grade 15 = .ok (.idiv, 1) := by decide +kernel
theorem dX6_grade_16 : decode cX6_grade 16 = .ok (.iload_n 3, 1) := by decide +kernel
theorem dX6_grade_17 : decode cX6_grade 17 = .ok (.ifCond .ne 8, 3) := by decide +kernel
theorem dX6_grade_20 : decode cX6_grade 20 = .ok (.bipush 6, 2) := by decide +kernel
theorem dX6_grade_22 : decode cX6_grade 22 = .ok (.goto 13, 3) := by decide +kernel
theorem dX6_grade_25 : decode cX6_grade 25 = .ok (.iload_n 3, 1) := by decide +kernel
theorem dX6_grade_26 : decode cX6_grade 26 = .ok (.iconst 1, 1) := by decide +kernel
theorem dX6_grade_27 : decode cX6_grade 27 = .ok (.if_icmp .ne 7, 3) := by decide +kernel
theorem dX6_grade_30 : decode cX6_grade 30 = .ok (.iconst 3, 1) := by decide +kernel
theorem dX6_grade_31 : decode cX6_grade 31 = .ok (.goto 4, 3) := by decide +kernel
theorem dX6_grade_34 : decode cX6_grade 34 = .ok (.iconst 0, 1) := by decide +kernel
theorem dX6_grade_35 : decode cX6_grade 35 = .ok (.iadd, 1) := by decide +kernel
theorem dX6_grade_36 : decode cX6_grade 36 = .ok (.aload_n 0, 1) := by decide +kernel
theorem dX6_grade_37 : decode cX6_grade 37 = .ok (.iload_n 2, 1) := by decide +kernel
theorem dX6_grade_38 : decode cX6_grade 38 = .ok (.iconst 2, 1) := by decide +kernel
theorem dX6_grade_39 : decode cX6_grade 39 = .ok (.invokevirtual 74, 3) := by decide +kernel
theorem dX6_grade_42 : decode cX6_grade 42 = .ok (.bipush 10, 2) := by decide +kernel
theorem dX6_grade_44 : decode cX6_grade 44 = .ok (.idiv, 1) := by decide +kernel
theorem dX6_grade_45 : decode cX6_grade 45 = .ok (.isub, 1) := by decide +kernel
theorem dX6_grade_46 : decode cX6_grade 46 = .ok (.istore 4, 2) := by decide +kernel
theorem dX6_grade_48 : decode cX6_grade 48 = .ok (.iload 4, 2) := by decide +kernel
theorem dX6_grade_50 : decode cX6_grade 50 = .ok (.bipush 12, 2) := by decide +kernel
theorem dX6_grade_52 : decode cX6_grade 52 = .ok (.if_icmp .lt 7, 3) := by decide +kernel
theorem dX6_grade_55 : decode cX6_grade 55 = .ok (.iconst 0, 1) := by decide +kernel
theorem dX6_grade_56 : decode cX6_grade 56 = .ok (.goto 15, 3) := by decide +kernel
theorem dX6_grade_59 : decode cX6_grade 59 = .ok (.iload 4, 2) := by decide +kernel
theorem dX6_grade_61 : decode cX6_grade 61 = .ok (.bipush 7, 2) := by decide +kernel
theorem dX6_grade_63 : decode cX6_grade 63 = .ok (.if_icmp .lt 7, 3) := by decide +kernel
theorem dX6_grade_66 : decode cX6_grade 66 = .ok (.iconst 1, 1) := by decide +kernel
theorem dX6_grade_67 : decode cX6_grade 67 = .ok (.goto 4, 3) := by decide +kernel
theorem dX6_grade_70 : decode cX6_grade 70 = .ok (.iconst 2, 1) := by decide +kernel
theorem dX6_grade_71 : decode cX6_grade 71 = .ok (.ireturn, 1) := by decide +kernel
set_option maxRecDepth 20000 in
theorem ggX6_make_X6_makes : GoodIn wsX6_make wsX6_makes := goodIn_r _ [17, 9, 10, 11, 12, 18, 19, 20, 16, 21, 22, 23, 24, 25, 26, 27, 28, 29, 30, 31, 3, 32, 33, 34, 35, 36, 37, 38, 39, 2, 40, 41, 42, 43, 8, 55, 56, 57, 58, 59, 60, 61, 62, 63, 64] (by decide +kernel) (by decide +kernel)
set_option maxRecDepth 20000 in
theorem gX6_make_X6_makes : GoodIn wsX6_make (wsV RX6 94 RX6 yX6_makes wsX6_makes) := goodIn_app (goodIn_of _ (by decide +kernel)) ggX6_make_X6_makes
set_option maxRecDepth 20000 in
theorem ggX6_make_X6_cr : GoodIn wsX6_make wsX6_cr := goodIn_r _ [21, 22, 55, 56, 57, 58, 59, 60, 61, 62, 63, 64] (by decide +kernel) (by decide +kernel)
set_option maxRecDepth 20000 in
theorem gX6_make_X6_cr : GoodIn wsX6_make (wsV RX6 77 RX6 yX6_cr wsX6_cr) := goodIn_app (goodIn_of _ (by decide +kernel)) ggX6_make_X6_cr
set_option maxRecDepth 20000 in
theorem ggX6_make_X6_grade : GoodIn wsX6_make wsX6_grade := goodIn_r _ [47, 23, 24, 25, 16, 26, 27, 40, 41, 42, 43, 8, 55, 56, 57, 58, 59, 60, 61, 62, 63, 64] (by decide +kernel) (by decide +kernel)
set_option maxRecDepth 20000 in
theorem gX6_make_X6_grade : GoodIn wsX6_make (wsV RX6 106 RX6 yX6_grade wsX6_grade) := goodIn_app (goodIn_of _ (by decide +kernel)) ggX6_make_X6_grade
set_option maxRecDepth 20000 in
theorem ggX6_make_X6_mo : GoodIn wsX6_make wsX6_mo := goodIn_r _ [43, 8, 55, 56, 57, 58, 59, 60, 61, 62, 63, 64] (by decide +kernel) (by decide +kernel)
set_option maxRecDepth 20000 in
theorem gX6_make_X6_mo : GoodIn wsX6_make (wsV RX6 74 RX6 yX6_mo wsX6_mo) := goodIn_app (goodIn_of _ (by decide +kernel)) ggX6_make_X6_mo
set_option maxRecDepth 20000 in
theorem ggX6_make_X6_va : GoodIn wsX6_make wsX6_va := goodIn_r _ [26, 27, 55, 56, 57, 58, 59, 60, 61, 62, 63, 64] (by decide +kernel) (by decide +kernel)
set_option maxRecDepth 20000 in
theorem gX6_make_X6_va : GoodIn wsX6_make (wsV RX6 64 RX6 yX6_va wsX6_va) := goodIn_app (goodIn_of _ (by decide +kernel)) ggX6_make_X6_va
set_option maxRecDepth 20000 in
theorem ggX6_make_X6_let : GoodIn wsX6_make wsX6_let := goodIn_r _ [51, 27, 55, 56, 57, 58, 59, 60, 61, 62, 63, 64] (by decide +kernel) (by decide +kernel)
set_option maxRecDepth 20000 in
theorem gX6_make_X6_let : GoodIn wsX6_make (wsV RX6 67 RX6 yX6_let wsX6_let) := goodIn_app (goodIn_of _ (by decide +kernel)) ggX6_make_X6_let
set_option maxRecDepth 20000 in
theorem ggX6_make_X6_worth : GoodIn wsX6_make wsX6_worth := goodIn_r _ [54] (by decide +kernel) (by decide +kernel)
set_option maxRecDepth 20000 in
theorem gX6_make_X6_worth : GoodIn wsX6_make (va_wsS RX6 57 yX6_worth wsX6_worth) := goodIn_app (goodIn_of _ (by decide +kernel)) ggX6_make_X6_worth
theorem dX6_make_0 : decode cX6_make 0 = .ok (.aload_n 0, 1) := by decide +kernel
theorem dX6_make_1 : decode cX6_make 1 = .ok (.iload_n 1, 1) := by decide +kernel
theorem dX6_make_2 : decode cX6_make 2 = .ok (.invokevirtual 94, 3) := by decide +kernel
theorem dX6_make_5 : decode cX6_make 5 = .ok (.istore_n 2, 1) := by decide +kernel
theorem dX6_make_6 : decode cX6_make 6 = .ok (.iload_n 2, 1) := by decide +kernel
theorem dX6_make_7 : decode cX6_make 7 = .ok (.ifCond .ne 5, 3) := by decide +kernel
theorem dX6_make_10 : decode cX6_make 10 = .ok (.iconst 0, 1) := by decide +kernel
theorem dX6_make_11 : decode cX6_make 11 = .ok (.ireturn, 1) := by decide +kernel
theorem dX6_make_12 : decode cX6_make 12 = .ok (.aload_n 0, 1) := by decide +kernel
theorem dX6_make_13 : decode cX6_make 13 = .ok (.iload_n 1, 1) := by decide +kernel
theorem dX6_make_14 : decode cX6_make 14 = .ok (.iconst 1, 1) := by decide +kernel
theorem dX6_make_15 : decode cX6_make 15 = .ok (.invokevirtual 77, 3) := by decide +kernel
theorem dX6_make_18 : decode cX6_make 18 = .ok (.istore_n 3, 1) := by decide +kernel
theorem dX6_make_19 : decode cX6_make 19 = .ok (.aload_n 0, 1) := by decide +kernel
theorem dX6_make_20 : decode cX6_make 20 = .ok (.iload_n 1, 1) := by decide +kernel
theorem dX6_make_21 : decode cX6_make 21 = .ok (.iconst 2, 1) := by decide +kernel
theorem dX6_make_22 : decode cX6_make 22 = .ok (.invokevirtual 77, 3) := by decide +kernel
theorem dX6_make_25 : decode cX6_make 25 = .ok (.istore 4, 2) := by decide +kernel
theorem dX6_make_27 : decode cX6_make 27 = .ok (.aload_n 0, 1) := by decide +kernel
theorem dX6_make_28 : decode cX6_make 28 = .ok (.iload_n 3, 1) := by decide +kernel
theorem dX6_make_29 : decode cX6_make 29 = .ok (.iload 4, 2) := by decide +kernel
theorem dX6_make_31 : decode cX6_make 31 = .ok (.invokevirtual 106, 3) := by decide +kernel
theorem dX6_make_34 : decode cX6_make 34 = .ok (.istore 5, 2) := by decide +kernel
theorem dX6_make_36 : decode cX6_make 36 = .ok (.iconst 3, 1) := by decide +kernel
theorem dX6_make_37 : decode cX6_make 37 = .ok (.newarray .int, 2) := by decide +kernel
theorem dX6_make_39 : decode cX6_make 39 = .ok (.dup, 1) := by decide +kernel
theorem dX6_make_40 : decode cX6_make 40 = .ok (.iconst 0, 1) := by decide +kernel
theorem dX6_make_41 : decode cX6_make 41 = .ok (.aload_n 0, 1) := by decide +kernel
theorem dX6_make_42 : decode cX6_make 42 = .ok (.iload 4, 2) := by decide +kernel
theorem dX6_make_44 : decode cX6_make 44 = .ok (.iconst 0, 1) := by decide +kernel
theorem dX6_make_45 : decode cX6_make 45 = .ok (.invokevirtual 74, 3) := by decide +kernel
theorem dX6_make_48 : decode cX6_make 48 = .ok (.iastore, 1) := by decide +kernel
theorem dX6_make_49 : decode cX6_make 49 = .ok (.dup, 1) := by decide +kernel
theorem dX6_make_50 : decode cX6_make 50 = .ok (.iconst 1, 1) := by decide +kernel
theorem dX6_make_51 : decode cX6_make 51 = .ok (.iload 5, 2) := by decide +kernel
theorem dX6_make_53 : decode cX6_make 53 = .ok (.iastore, 1) := by decide +kernel
theorem dX6_make_54 : decode cX6_make 54 = .ok (.dup, 1) := by decide +kernel
theorem dX6_make_55 : decode cX6_make 55 = .ok (.iconst 2, 1) := by decide +kernel
theorem dX6_make_56 : decode cX6_make 56 = .ok (.iload_n 2, 1) := by decide +kernel
theorem dX6_make_57 : decode cX6_make 57 = .ok (.iastore, 1) := by decide +kernel
theorem dX6_make_58 : decode cX6_make 58 = .ok (.astore 6, 2) := by decide +kernel
theorem dX6_make_60 : decode cX6_make 60 = .ok (.aload 6, 2) := by decide +kernel
theorem dX6_make_62 : decode cX6_make 62 = .ok (.iconst 0, 1) := by decide +kernel
theorem dX6_make_63 : decode cX6_make 63 = .ok (.aload_n 0, 1) := by decide +kernel
theorem dX6_make_64 : decode cX6_make 64 = .ok (.getfield 22, 3) := by decide +kernel
theorem dX6_make_67 : decode cX6_make 67 = .ok (.iconst 3, 1) := by decide +kernel
theorem dX6_make_68 : decode cX6_make 68 = .ok (.aload_n 0, 1) := by decide +kernel
theorem dX6_make_69 : decode cX6_make 69 = .ok (.getfield 28, 3) := by decide +kernel
theorem dX6_make_72 : decode cX6_make 72 = .ok (.iconst 5, 1) := by decide +kernel
theorem dX6_make_73 : decode cX6_make 73 = .ok (.iaload, 1) := by decide +kernel
theorem dX6_make_74 : decode cX6_make 74 = .ok (.imul, 1) := by decide +kernel
theorem dX6_make_75 : decode cX6_make 75 = .ok (.iconst 3, 1) := by decide +kernel
theorem dX6_make_76 : decode cX6_make 76 = .ok (.invokestatic 109, 3) := by decide +kernel
theorem dX6_make_79 : decode cX6_make 79 = .ok (.aload_n 0, 1) := by decide +kernel
theorem dX6_make_80 : decode cX6_make 80 = .ok (.getfield 28, 3) := by decide +kernel
theorem dX6_make_83 : decode cX6_make 83 = .ok (.iconst 5, 1) := by decide +kernel
theorem dX6_make_84 : decode cX6_make 84 = .ok (.dup2, 1) := by decide +kernel
theorem dX6_make_85 : decode cX6_make 85 = .ok (.iaload, 1) := by decide +kernel
theorem dX6_make_86 : decode cX6_make 86 = .ok (.iconst 1, 1) := by decide +kernel
theorem dX6_make_87 : decode cX6_make 87 = .ok (.iadd, 1) := by decide +kernel
theorem dX6_make_88 : decode cX6_make 88 = .ok (.iastore, 1) := by decide +kernel
theorem dX6_make_89 : decode cX6_make 89 = .ok (.aload_n 0, 1) := by decide +kernel
theorem dX6_make_90 : decode cX6_make 90 = .ok (.iload_n 3, 1) := by decide +kernel
theorem dX6_make_91 : decode cX6_make 91 = .ok (.aload_n 0, 1) := by decide +kernel
theorem dX6_make_92 : decode cX6_make 92 = .ok (.iload_n 3, 1) := by decide +kernel
theorem dX6_make_93 : decode cX6_make 93 = .ok (.iconst 0, 1) := by decide +kernel
theorem dX6_make_94 : decode cX6_make 94 = .ok (.invokevirtual 64, 3) := by decide +kernel
theorem dX6_make_97 : decode cX6_make 97 = .ok (.iload_n 2, 1) := by decide +kernel
theorem dX6_make_98 : decode cX6_make 98 = .ok (.aload_n 0, 1) := by decide +kernel
theorem dX6_make_99 : decode cX6_make 99 = .ok (.iload 4, 2) := by decide +kernel
theorem dX6_make_101 : decode cX6_make 101 = .ok (.iconst 1, 1) := by decide +kernel
theorem dX6_make_102 : decode cX6_make 102 = .ok (.invokevirtual 74, 3) := by decide +kernel
theorem dX6_make_105 : decode cX6_make 105 = .ok (.imul, 1) := by decide +kernel
theorem dX6_make_106 : decode cX6_make 106 = .ok (.isub, 1) := by decide +kernel
theorem dX6_make_107 : decode cX6_make 107 = .ok (.aload_n 0, 1) := by decide +kernel
theorem dX6_make_108 : decode cX6_make 108 = .ok (.iload_n 3, 1) := by decide +kernel
theorem dX6_make_109 : decode cX6_make 109 = .ok (.iconst 1, 1) := by decide +kernel
theorem dX6_make_110 : decode cX6_make 110 = .ok (.invokevirtual 64, 3) := by decide +kernel
theorem dX6_make_113 : decode cX6_make 113 = .ok (.aload_n 0, 1) := by decide +kernel
theorem dX6_make_114 : decode cX6_make 114 = .ok (.iload_n 3, 1) := by decide +kernel
theorem dX6_make_115 : decode cX6_make 115 = .ok (.iconst 2, 1) := by decide +kernel
theorem dX6_make_116 : decode cX6_make 116 = .ok (.invokevirtual 64, 3) := by decide +kernel
theorem dX6_make_119 : decode cX6_make 119 = .ok (.invokevirtual 67, 3) := by decide +kernel
theorem dX6_make_122 : decode cX6_make 122 = .ok (.aload_n 0, 1) := by decide +kernel
theorem dX6_make_123 : decode cX6_make 123 = .ok (.getfield 16, 3) := by decide +kernel
theorem dX6_make_126 : decode cX6_make 126 = .ok (.iconst 3, 1) := by decide +kernel
theorem dX6_make_127 : decode cX6_make 127 = .ok (.iload 4, 2) := by decide +kernel
theorem dX6_make_129 : decode cX6_make 129 = .ok (.imul, 1) := by decide +kernel
theorem dX6_make_130 : decode cX6_make 130 = .ok (.iconst 2, 1) := by decide +kernel
theorem dX6_make_131 : decode cX6_make 131 = .ok (.iadd, 1) := by decide +kernel
theorem dX6_make_132 : decode cX6_make 132 = .ok (.bipush 50, 2) := by decide +kernel
theorem dX6_make_134 : decode cX6_make 134 = .ok (.aload_n 0, 1) := by decide +kernel
theorem dX6_make_135 : decode cX6_make 135 = .ok (.iload 4, 2) := by decide +kernel
theorem dX6_make_137 : decode cX6_make 137 = .ok (.iconst 2, 1) := by decide +kernel
theorem dX6_make_138 : decode cX6_make 138 = .ok (.invokevirtual 74, 3) := by decide +kernel
theorem dX6_make_141 : decode cX6_make 141 = .ok (.iload_n 2, 1) := by decide +kernel
theorem dX6_make_142 : decode cX6_make 142 = .ok (.iconst 1, 1) := by decide +kernel
theorem dX6_make_143 : decode cX6_make 143 = .ok (.iadd, 1) := by decide +kernel
theorem dX6_make_144 : decode cX6_make 144 = .ok (.iconst 2, 1) := by decide +kernel
theorem dX6_make_145 : decode cX6_make 145 = .ok (.idiv, 1) := by decide +kernel
theorem dX6_make_146 : decode cX6_make 146 = .ok (.iadd, 1) := by decide +kernel
theorem dX6_make_147 : decode cX6_make 147 = .ok (.invokestatic 83, 3) := by decide +kernel
theorem dX6_make_150 : decode cX6_make 150 = .ok (.iastore, 1) := by decide +kernel
theorem dX6_make_151 : decode cX6_make 151 = .ok (.aload_n 0, 1) := by decide +kernel
theorem dX6_make_152 : decode cX6_make 152 = .ok (.getfield 28, 3) := by decide +kernel
theorem dX6_make_155 : decode cX6_make 155 = .ok (.iconst 3, 1) := by decide +kernel
theorem dX6_make_156 : decode cX6_make 156 = .ok (.dup2, 1) := by decide +kernel
theorem dX6_make_157 : decode cX6_make 157 = .ok (.iaload, 1) := by decide +kernel
theorem dX6_make_158 : decode cX6_make 158 = .ok (.iload_n 2, 1) := by decide +kernel
theorem dX6_make_159 : decode cX6_make 159 = .ok (.iadd, 1) := by decide +kernel
theorem dX6_make_160 : decode cX6_make 160 = .ok (.iastore, 1) := by decide +kernel
theorem dX6_make_161 : decode cX6_make 161 = .ok (.aload_n 0, 1) := by decide +kernel
theorem dX6_make_162 : decode cX6_make 162 = .ok (.getfield 28, 3) := by decide +kernel
theorem dX6_make_165 : decode cX6_make 165 = .ok (.iconst 4, 1) := by decide +kernel
theorem dX6_make_166 : decode cX6_make 166 = .ok (.dup2, 1) := by decide +kernel
theorem dX6_make_167 : decode cX6_make 167 = .ok (.iaload, 1) := by decide +kernel
theorem dX6_make_168 : decode cX6_make 168 = .ok (.iload_n 2, 1) := by decide +kernel
theorem dX6_make_169 : decode cX6_make 169 = .ok (.iload 5, 2) := by decide +kernel
theorem dX6_make_171 : decode cX6_make 171 = .ok (.invokestatic 57, 3) := by decide +kernel
theorem dX6_make_174 : decode cX6_make 174 = .ok (.imul, 1) := by decide +kernel
theorem dX6_make_175 : decode cX6_make 175 = .ok (.iadd, 1) := by decide +kernel
theorem dX6_make_176 : decode cX6_make 176 = .ok (.iastore, 1) := by decide +kernel
theorem dX6_make_177 : decode cX6_make 177 = .ok (.iload_n 2, 1) := by decide +kernel
theorem dX6_make_178 : decode cX6_make 178 = .ok (.ireturn, 1) := by decide +kernel
set_option maxRecDepth 20000 in
theorem ggX6_press_X6_ps : GoodIn wsX6_press wsX6_ps := goodIn_r _ [16, 7, 17, 18, 19, 20, 21, 22, 23, 24, 25, 26] (by decide +kernel) (by decide +kernel)
set_option maxRecDepth 20000 in
theorem gX6_press_X6_ps : GoodIn wsX6_press (wsV RX6 45 RX6 yX6_ps wsX6_ps) := goodIn_app (goodIn_of _ (by decide +kernel)) ggX6_press_X6_ps
theorem dX6_press_0 : decode cX6_press 0 = .ok (.bipush 24, 2) := by decide +kernel
theorem dX6_press_2 : decode cX6_press 2 = .ok (.istore_n 1, 1) := by decide +kernel
theorem dX6_press_3 : decode cX6_press 3 = .ok (.iload_n 1, 1) := by decide +kernel
theorem dX6_press_4 : decode cX6_press 4 = .ok (.ifCond .le 107, 3) := by decide +kernel
theorem dX6_press_7 : decode cX6_press 7 = .ok (.aload_n 0, 1) := by decide +kernel
theorem dX6_press_8 : decode cX6_press 8 = .ok (.getfield 28, 3) := by decide +kernel
theorem dX6_press_11 : decode cX6_press 11 = .ok (.iconst 5, 1) := by decide +kernel
theorem dX6_press_12 : decode cX6_press 12 = .ok (.iaload, 1) := by decide +kernel
theorem dX6_press_13 : decode cX6_press 13 = .ok (.ifCond .le 98, 3) := by decide +kernel
theorem dX6_press_16 : decode cX6_press 16 = .ok (.iload_n 1, 1) := by decide +kernel
theorem dX6_press_17 : decode cX6_press 17 = .ok (.aload_n 0, 1) := by decide +kernel
theorem dX6_press_18 : decode cX6_press 18 = .ok (.iconst 0, 1) := by decide +kernel
theorem dX6_press_19 : decode cX6_press 19 = .ok (.iconst 2, 1) := by decide +kernel
theorem dX6_press_20 : decode cX6_press 20 = .ok (.invokevirtual 45, 3) := by decide +kernel
theorem dX6_press_23 : decode cX6_press 23 = .ok (.invokestatic 83, 3) := by decide +kernel
theorem dX6_press_26 : decode cX6_press 26 = .ok (.istore_n 2, 1) := by decide +kernel
theorem dX6_press_27 : decode cX6_press 27 = .ok (.aload_n 0, 1) := by decide +kernel
theorem dX6_press_28 : decode cX6_press 28 = .ok (.getfield 25, 3) := by decide +kernel
theorem dX6_press_31 : decode cX6_press 31 = .ok (.iconst 3, 1) := by decide +kernel
theorem dX6_press_32 : decode cX6_press 32 = .ok (.aload_n 0, 1) := by decide +kernel
theorem dX6_press_33 : decode cX6_press 33 = .ok (.iconst 0, 1) := by decide +kernel
theorem dX6_press_34 : decode cX6_press 34 = .ok (.iconst 0, 1) := by decide +kernel
theorem dX6_press_35 : decode cX6_press 35 = .ok (.invokevirtual 45, 3) := by decide +kernel
theorem dX6_press_38 : decode cX6_press 38 = .ok (.imul, 1) := by decide +kernel
theorem dX6_press_39 : decode cX6_press 39 = .ok (.aload_n 0, 1) := by decide +kernel
theorem dX6_press_40 : decode cX6_press 40 = .ok (.iconst 0, 1) := by decide +kernel
theorem dX6_press_41 : decode cX6_press 41 = .ok (.iconst 1, 1) := by decide +kernel
theorem dX6_press_42 : decode cX6_press 42 = .ok (.invokevirtual 45, 3) := by decide +kernel
theorem dX6_press_45 : decode cX6_press 45 = .ok (.iadd, 1) := by decide +kernel
theorem dX6_press_46 : decode cX6_press 46 = .ok (.dup2, 1) := by decide +kernel
theorem dX6_press_47 : decode cX6_press 47 = .ok (.iaload, 1) := by decide +kernel
theorem dX6_press_48 : decode cX6_press 48 = .ok (.iload_n 2, 1) := by decide +kernel
theorem dX6_press_49 : decode cX6_press 49 = .ok (.iadd, 1) := by decide +kernel
theorem dX6_press_50 : decode cX6_press 50 = .ok (.iastore, 1) := by decide +kernel
theorem dX6_press_51 : decode cX6_press 51 = .ok (.aload_n 0, 1) := by decide +kernel
theorem dX6_press_52 : decode cX6_press 52 = .ok (.getfield 22, 3) := by decide +kernel
theorem dX6_press_55 : decode cX6_press 55 = .ok (.iconst 2, 1) := by decide +kernel
theorem dX6_press_56 : decode cX6_press 56 = .ok (.dup2, 1) := by decide +kernel
theorem dX6_press_57 : decode cX6_press 57 = .ok (.iaload, 1) := by decide +kernel
theorem dX6_press_58 : decode cX6_press 58 = .ok (.iload_n 2, 1) := by decide +kernel
theorem dX6_press_59 : decode cX6_press 59 = .ok (.isub, 1) := by decide +kernel
theorem dX6_press_60 : decode cX6_press 60 = .ok (.iastore, 1) := by decide +kernel
theorem dX6_press_61 : decode cX6_press 61 = .ok (.iload_n 1, 1) := by decide +kernel
theorem dX6_press_62 : decode cX6_press 62 = .ok (.iload_n 2, 1) := by decide +kernel
theorem dX6_press_63 : decode cX6_press 63 = .ok (.isub, 1) := by decide +kernel
theorem dX6_press_64 : decode cX6_press 64 = .ok (.istore_n 1, 1) := by decide +kernel
theorem dX6_press_65 : decode cX6_press 65 = .ok (.aload_n 0, 1) := by decide +kernel
theorem dX6_press_66 : decode cX6_press 66 = .ok (.iconst 0, 1) := by decide +kernel
theorem dX6_press_67 : decode cX6_press 67 = .ok (.iconst 2, 1) := by decide +kernel
theorem dX6_press_68 : decode cX6_press 68 = .ok (.invokevirtual 45, 3) := by decide +kernel
theorem dX6_press_71 : decode cX6_press 71 = .ok (.ifCond .le 6, 3) := by decide +kernel
theorem dX6_press_74 : decode cX6_press 74 = .ok (.goto (-71), 3) := by decide +kernel
theorem dX6_press_77 : decode cX6_press 77 = .ok (.aload_n 0, 1) := by decide +kernel
theorem dX6_press_78 : decode cX6_press 78 = .ok (.getfield 28, 3) := by decide +kernel
theorem dX6_press_81 : decode cX6_press 81 = .ok (.iconst 5, 1) := by decide +kernel
theorem dX6_press_82 : decode cX6_press 82 = .ok (.dup2, 1) := by decide +kernel
theorem dX6_press_83 : decode cX6_press 83 = .ok (.iaload, 1) := by decide +kernel
theorem dX6_press_84 : decode cX6_press 84 = .ok (.iconst 1, 1) := by decide +kernel
theorem dX6_press_85 : decode cX6_press 85 = .ok (.isub, 1) := by decide +kernel
theorem dX6_press_86 : decode cX6_press 86 = .ok (.iastore, 1) := by decide +kernel
theorem dX6_press_87 : decode cX6_press 87 = .ok (.aload_n 0, 1) := by decide +kernel
theorem dX6_press_88 : decode cX6_press 88 = .ok (.getfield 22, 3) := by decide +kernel
theorem dX6_press_91 : decode cX6_press 91 = .ok (.iconst 3, 1) := by decide +kernel
theorem dX6_press_92 : decode cX6_press 92 = .ok (.aload_n 0, 1) := by decide +kernel
theorem dX6_press_93 : decode cX6_press 93 = .ok (.getfield 22, 3) := by decide +kernel
theorem dX6_press_96 : decode cX6_press 96 = .ok (.iconst 0, 1) := by decide +kernel
theorem dX6_press_97 : decode cX6_press 97 = .ok (.iconst 3, 1) := by decide +kernel
theorem dX6_press_98 : decode cX6_press 98 = .ok (.aload_n 0, 1) := by decide +kernel
theorem dX6_press_99 : decode cX6_press 99 = .ok (.getfield 28, 3) := by decide +kernel
theorem dX6_press_102 : decode cX6_press 102 = .ok (.iconst 5, 1) := by decide +kernel
theorem dX6_press_103 : decode cX6_press 103 = .ok (.iaload, 1) := by decide +kernel
theorem dX6_press_104 : decode cX6_press 104 = .ok (.imul, 1) := by decide +kernel
theorem dX6_press_105 : decode cX6_press 105 = .ok (.invokestatic 109, 3) := by decide +kernel
theorem dX6_press_108 : decode cX6_press 108 = .ok (.goto (-105), 3) := by decide +kernel
theorem dX6_press_111 : decode cX6_press 111 = .ok (.return_, 1) := by decide +kernel
set_option maxRecDepth 20000 in
theorem ggX6_dayOn_X6_beat : GoodIn wsX6_dayOn wsX6_beat := goodIn_r _ [7, 8, 2, 9, 10, 11, 12, 13, 14, 15, 6, 16, 17, 18, 19, 20, 21, 70, 71, 72, 73, 74, 75, 76, 77, 78, 79] (by decide +kernel) (by decide +kernel)
set_option maxRecDepth 20000 in
theorem gX6_dayOn_X6_beat : GoodIn wsX6_dayOn (wsV RX6 115 RX6 yX6_beat wsX6_beat) := goodIn_app (goodIn_of _ (by decide +kernel)) ggX6_dayOn_X6_beat
set_option maxRecDepth 20000 in
theorem ggX6_dayOn_X6_make : GoodIn wsX6_dayOn wsX6_make := goodIn_r _ [25, 26, 27, 2, 28, 29, 30, 31, 32, 9, 10, 11, 12, 33, 34, 35, 6, 36, 37, 38, 39, 40, 41, 13, 14, 15, 16, 17, 42, 43, 44, 45, 46, 47, 48, 49, 50, 51, 52, 53, 54, 55, 56, 57, 58, 59, 60, 61, 18, 19, 20, 21, 62, 63, 64, 70, 71, 72, 73, 74, 75, 76, 77, 78, 79] (by decide +kernel) (by decide +kernel)
set_option maxRecDepth 20000 in
theorem gX6_dayOn_X6_make : GoodIn wsX6_dayOn (wsV RX6 118 RX6 yX6_make wsX6_make) := goodIn_app (goodIn_of _ (by decide +kernel)) ggX6_dayOn_X6_make
set_option maxRecDepth 20000 in
theorem ggX6_dayOn_X6_press : GoodIn wsX6_dayOn wsX6_press := goodIn_r _ [68, 2, 9, 10, 11, 12, 69, 27, 28, 29, 30, 31, 50, 51, 52, 6, 53, 70, 71, 72, 73, 74, 75, 76, 77, 78, 79] (by decide +kernel) (by decide +kernel)
set_option maxRecDepth 20000 in
theorem gX6_dayOn_X6_press : GoodIn wsX6_dayOn (wsV RX6 121 RX6 yX6_press wsX6_press) := goodIn_app (goodIn_of _ (by decide +kernel)) ggX6_dayOn_X6_press
theorem dX6_dayOn_0 : decode cX6_dayOn 0 = .ok (.aload_n 0, 1) := by decide +kernel
theorem dX6_dayOn_1 : decode cX6_dayOn 1 = .ok (.invokevirtual 115, 3) := by decide +kernel
theorem dX6_dayOn_4 : decode cX6_dayOn 4 = .ok (.iconst 0, 1) := by decide +kernel
theorem dX6_dayOn_5 : decode cX6_dayOn 5 = .ok (.istore_n 1, 1) := by decide +kernel
theorem dX6_dayOn_6 : decode cX6_dayOn 6 = .ok (.iconst 0, 1) := by decide +kernel
theorem dX6_dayOn_7 : decode cX6_dayOn 7 = .ok (.istore_n 2, 1) := by decide +kernel
theorem dX6_dayOn_8 : decode cX6_dayOn 8 = .ok (.iload_n 2, 1) := by decide +kernel
theorem dX6_dayOn_9 : decode cX6_dayOn 9 = .ok (.aload_n 0, 1) := by decide +kernel
theorem dX6_dayOn_10 : decode cX6_dayOn 10 = .ok (.getfield 42, 3) := by decide +kernel
theorem dX6_dayOn_13 : decode cX6_dayOn 13 = .ok (.if_icmp .ge 17, 3) := by decide +kernel
theorem dX6_dayOn_16 : decode cX6_dayOn 16 = .ok (.iload_n 1, 1) := by decide +kernel
theorem dX6_dayOn_17 : decode cX6_dayOn 17 = .ok (.aload_n 0, 1) := by decide +kernel
theorem dX6_dayOn_18 : decode cX6_dayOn 18 = .ok (.iload_n 2, 1) := by decide +kernel
theorem dX6_dayOn_19 : decode cX6_dayOn 19 = .ok (.invokevirtual 118, 3) := by decide +kernel
theorem dX6_dayOn_22 : decode cX6_dayOn 22 = .ok (.iadd, 1) := by decide +kernel
theorem dX6_dayOn_23 : decode cX6_dayOn 23 = .ok (.istore_n 1, 1) := by decide +kernel
theorem dX6_dayOn_24 : decode cX6_dayOn 24 = .ok (.iinc 2 1, 3) := by decide +kernel
theorem dX6_dayOn_27 : decode cX6_dayOn 27 = .ok (.goto (-19), 3) := by decide +kernel
theorem dX6_dayOn_30 : decode cX6_dayOn 30 = .ok (.aload_n 0, 1) := by decide +kernel
theorem dX6_dayOn_31 : decode cX6_dayOn 31 = .ok (.invokevirtual 121, 3) := by decide +kernel
theorem dX6_dayOn_34 : decode cX6_dayOn 34 = .ok (.aload_n 0, 1) := by decide +kernel
theorem dX6_dayOn_35 : decode cX6_dayOn 35 = .ok (.getfield 28, 3) := by decide +kernel
theorem dX6_dayOn_38 : decode cX6_dayOn 38 = .ok (.iconst 0, 1) := by decide +kernel
theorem dX6_dayOn_39 : decode cX6_dayOn 39 = .ok (.dup2, 1) := by decide +kernel
theorem dX6_dayOn_40 : decode cX6_dayOn 40 = .ok (.iaload, 1) := by decide +kernel
theorem dX6_dayOn_41 : decode cX6_dayOn 41 = .ok (.iconst 1, 1) := by decide +kernel
theorem dX6_dayOn_42 : decode cX6_dayOn 42 = .ok (.iadd, 1) := by decide +kernel
theorem dX6_dayOn_43 : decode cX6_dayOn 43 = .ok (.iastore, 1) := by decide +kernel
theorem dX6_dayOn_44 : decode cX6_dayOn 44 = .ok (.iload_n 1, 1) := by decide +kernel
theorem dX6_dayOn_45 : decode cX6_dayOn 45 = .ok (.ireturn, 1) := by decide +kernel
set_option maxRecDepth 20000 in
theorem ggX6_daysOn_X6_dayOn : GoodIn wsX6_daysOn wsX6_dayOn := goodIn_r _ [5, 6, 7, 8, 9, 10, 4, 11, 12, 13, 14, 15, 16, 17, 18, 19, 20, 21, 22, 23, 24, 25, 26, 27, 28, 29, 30, 31, 32, 33, 34, 35, 36, 37, 38, 39, 40, 41, 42, 43, 44, 45, 46, 47, 48, 49, 50, 51, 52, 53, 54, 55, 56, 57, 58, 59, 60, 61, 62, 63, 64, 65, 66, 67, 68, 69, 70, 71, 72, 73, 74, 75, 76, 77, 78, 79, 80, 81, 82, 83] (by decide +kernel) (by decide +kernel)
set_option maxRecDepth 20000 in
theorem gX6_daysOn_X6_dayOn : GoodIn wsX6_daysOn (wsV RX6 124 RX6 yX6_dayOn wsX6_dayOn) := goodIn_app (goodIn_of _ (by decide +kernel)) ggX6_daysOn_X6_dayOn
theorem dX6_daysOn_0 : decode cX6_daysOn 0 = .ok (.iconst 0, 1) := by decide +kernel
theorem dX6_daysOn_1 : decode cX6_daysOn 1 = .ok (.istore_n 2, 1) := by decide +kernel
theorem dX6_daysOn_2 : decode cX6_daysOn 2 = .ok (.iconst 0, 1) := by decide +kernel
theorem dX6_daysOn_3 : decode cX6_daysOn 3 = .ok (.istore_n 3, 1) := by decide +kernel
theorem dX6_daysOn_4 : decode cX6_daysOn 4 = .ok (.iload_n 3, 1) := by decide +kernel
theorem dX6_daysOn_5 : decode cX6_daysOn 5 = .ok (.iload_n 1, 1) := by decide +kernel
theorem dX6_daysOn_6 : decode cX6_daysOn 6 = .ok (.if_icmp .ge 16, 3) := by decide +kernel
theorem dX6_daysOn_9 : decode cX6_daysOn 9 = .ok (.iload_n 2, 1) := by decide +kernel
theorem dX6_daysOn_10 : decode cX6_daysOn 10 = .ok (.aload_n 0, 1) := by decide +kernel
theorem dX6_daysOn_11 : decode cX6_daysOn 11 = .ok (.invokevirtual 124, 3) := by decide +kernel
theorem dX6_daysOn_14 : decode cX6_daysOn 14 = .ok (.iadd, 1) := by decide +kernel
theorem dX6_daysOn_15 : decode cX6_daysOn 15 = .ok (.istore_n 2, 1) := by decide +kernel
theorem dX6_daysOn_16 : decode cX6_daysOn 16 = .ok (.iinc 3 1, 3) := by decide +kernel
theorem dX6_daysOn_19 : decode cX6_daysOn 19 = .ok (.goto (-15), 3) := by decide +kernel
theorem dX6_daysOn_22 : decode cX6_daysOn 22 = .ok (.iload_n 2, 1) := by decide +kernel
theorem dX6_daysOn_23 : decode cX6_daysOn 23 = .ok (.ireturn, 1) := by decide +kernel
set_option maxRecDepth 20000 in
theorem ggX6_pass_X6_isIn : GoodIn wsX6_pass wsX6_isIn := goodIn_r _ [5] (by decide +kernel) (by decide +kernel)
set_option maxRecDepth 20000 in
theorem gX6_pass_X6_isIn : GoodIn wsX6_pass (va_wsS RX6 35 yX6_isIn wsX6_isIn) := goodIn_app (goodIn_of _ (by decide +kernel)) ggX6_pass_X6_isIn
set_option maxRecDepth 20000 in
theorem ggX6_pass_X6_daysOn : GoodIn wsX6_pass wsX6_daysOn := goodIn_r _ [9, 10, 11, 12, 4, 13, 14, 15, 16, 17, 18, 19, 20, 21, 22, 23, 24, 25, 26, 27, 28, 29, 30, 31, 32, 33, 34, 35, 36, 37, 38, 39, 40, 41, 42, 43, 44, 45, 46, 47, 48, 49, 50, 51, 52, 53, 54, 55, 56, 57, 58, 59, 60, 61, 62, 63, 64, 65, 66, 67, 68, 69, 70, 71, 72, 73, 74, 75, 76, 77, 78, 79, 80, 81, 86, 87, 88, 89, 90, 91, 92, 93, 94, 95] (by decide +kernel) (by decide +kernel)
set_option maxRecDepth 20000 in
theorem gX6_pass_X6_daysOn : GoodIn wsX6_pass (wsV RX6 127 RX6 yX6_daysOn wsX6_daysOn) := goodIn_app (goodIn_of _ (by decide +kernel)) ggX6_pass_X6_daysOn
set_option maxRecDepth 20000 in
theorem ggX6_pass_X6_fail : GoodIn wsX6_pass wsX6_fail := goodIn_r _ [85, 1, 86, 87, 88, 89, 90, 91, 92, 93, 94, 95] (by decide +kernel) (by decide +kernel)
set_option maxRecDepth 20000 in
theorem gX6_pass_X6_fail : GoodIn wsX6_pass (wsV RX6 53 RX6 yX6_fail wsX6_fail) := goodIn_app (goodIn_of _ (by decide +kernel)) ggX6_pass_X6_fail
theorem dX6_pass_0 : decode cX6_pass 0 = .ok (.aload_n 0, 1) := by decide +kernel
theorem dX6_pass_1 : decode cX6_pass 1 = .ok (.iconst 0, 1) := by decide +kernel
theorem dX6_pass_2 : decode cX6_pass 2 = .ok (.putfield 31, 3) := by decide +kernel
theorem dX6_pass_5 : decode cX6_pass 5 = .ok (.iload_n 1, 1) := by decide +kernel
theorem dX6_pass_6 : decode cX6_pass 6 = .ok (.iconst 1, 1) := by decide +kernel
theorem dX6_pass_7 : decode cX6_pass 7 = .ok (.bipush 40, 2) := by decide +kernel
theorem dX6_pass_9 : decode cX6_pass 9 = .ok (.invokestatic 35, 3) := by decide +kernel
theorem dX6_pass_12 : decode cX6_pass 12 = .ok (.ifCond .eq 11, 3) := by decide +kernel
theorem dX6_pass_15 : decode cX6_pass 15 = .ok (.aload_n 0, 1) := by decide +kernel
theorem dX6_pass_16 : decode cX6_pass 16 = .ok (.iload_n 1, 1) := by decide +kernel
theorem dX6_pass_17 : decode cX6_pass 17 = .ok (.invokevirtual 127, 3) := by decide +kernel
theorem dX6_pass_20 : decode cX6_pass 20 = .ok (.goto 8, 3) := by decide +kernel
theorem dX6_pass_23 : decode cX6_pass 23 = .ok (.aload_n 0, 1) := by decide +kernel
theorem dX6_pass_24 : decode cX6_pass 24 = .ok (.iconst 1, 1) := by decide +kernel
theorem dX6_pass_25 : decode cX6_pass 25 = .ok (.invokevirtual 53, 3) := by decide +kernel
theorem dX6_pass_28 : decode cX6_pass 28 = .ok (.ireturn, 1) := by decide +kernel
theorem dX6_kept_0 : decode cX6_kept 0 = .ok (.bipush 6, 2) := by decide +kernel
theorem dX6_kept_2 : decode cX6_kept 2 = .ok (.anewarray 130, 3) := by decide +kernel
theorem dX6_kept_5 : decode cX6_kept 5 = .ok (.dup, 1) := by decide +kernel
theorem dX6_kept_6 : decode cX6_kept 6 = .ok (.iconst 0, 1) := by decide +kernel
theorem dX6_kept_7 : decode cX6_kept 7 = .ok (.aload_n 0, 1) := by decide +kernel
theorem dX6_kept_8 : decode cX6_kept 8 = .ok (.getfield 13, 3) := by decide +kernel
theorem dX6_kept_11 : decode cX6_kept 11 = .ok (.invokevirtual 131, 3) := by decide +kernel
theorem dX6_kept_14 : decode cX6_kept 14 = .ok (.checkcast 130, 3) := by decide +kernel
theorem dX6_kept_17 : decode cX6_kept 17 = .ok (.aastore, 1) := by decide +kernel
theorem dX6_kept_18 : decode cX6_kept 18 = .ok (.dup, 1) := by decide +kernel
theorem dX6_kept_19 : decode cX6_kept 19 = .ok (.iconst 1, 1) := by decide +kernel
theorem dX6_kept_20 : decode cX6_kept 20 = .ok (.aload_n 0, 1) := by decide +kernel
theorem dX6_kept_21 : decode cX6_kept 21 = .ok (.getfield 16, 3) := by decide +kernel
theorem dX6_kept_24 : decode cX6_kept 24 = .ok (.invokevirtual 131, 3) := by decide +kernel
theorem dX6_kept_27 : decode cX6_kept 27 = .ok (.checkcast 130, 3) := by decide +kernel
theorem dX6_kept_30 : decode cX6_kept 30 = .ok (.aastore, 1) := by decide +kernel
theorem dX6_kept_31 : decode cX6_kept 31 = .ok (.dup, 1) := by decide +kernel
theorem dX6_kept_32 : decode cX6_kept 32 = .ok (.iconst 2, 1) := by decide +kernel
theorem dX6_kept_33 : decode cX6_kept 33 = .ok (.aload_n 0, 1) := by decide +kernel
theorem dX6_kept_34 : decode cX6_kept 34 = .ok (.getfield 19, 3) := by decide +kernel
theorem dX6_kept_37 : decode cX6_kept 37 = .ok (.invokevirtual 131, 3) := by decide +kernel
theorem dX6_kept_40 : decode cX6_kept 40 = .ok (.checkcast 130, 3) := by decide +kernel
theorem dX6_kept_43 : decode cX6_kept 43 = .ok (.aastore, 1) := by decide +kernel
theorem dX6_kept_44 : decode cX6_kept 44 = .ok (.dup, 1) := by decide +kernel
theorem dX6_kept_45 : decode cX6_kept 45 = .ok (.iconst 3, 1) := by decide +kernel
theorem dX6_kept_46 : decode cX6_kept 46 = .ok (.aload_n 0, 1) := by decide +kernel
theorem dX6_kept_47 : decode cX6_kept 47 = .ok (.getfield 22, 3) := by decide +kernel
theorem dX6_kept_50 : decode cX6_kept 50 = .ok (.invokevirtual 131, 3) := by decide +kernel
theorem dX6_kept_53 : decode cX6_kept 53 = .ok (.checkcast 130, 3) := by decide +kernel
theorem dX6_kept_56 : decode cX6_kept 56 = .ok (.aastore, 1) := by decide +kernel
theorem dX6_kept_57 : decode cX6_kept 57 = .ok (.dup, 1) := by decide +kernel
theorem dX6_kept_58 : decode cX6_kept 58 = .ok (.iconst 4, 1) := by decide +kernel
theorem dX6_kept_59 : decode cX6_kept 59 = .ok (.aload_n 0, 1) := by decide +kernel
theorem dX6_kept_60 : decode cX6_kept 60 = .ok (.getfield 25, 3) := by decide +kernel
theorem dX6_kept_63 : decode cX6_kept 63 = .ok (.invokevirtual 131, 3) := by decide +kernel
theorem dX6_kept_66 : decode cX6_kept 66 = .ok (.checkcast 130, 3) := by decide +kernel
theorem dX6_kept_69 : decode cX6_kept 69 = .ok (.aastore, 1) := by decide +kernel
theorem dX6_kept_70 : decode cX6_kept 70 = .ok (.dup, 1) := by decide +kernel
theorem dX6_kept_71 : decode cX6_kept 71 = .ok (.iconst 5, 1) := by decide +kernel
theorem dX6_kept_72 : decode cX6_kept 72 = .ok (.aload_n 0, 1) := by decide +kernel
theorem dX6_kept_73 : decode cX6_kept 73 = .ok (.getfield 28, 3) := by decide +kernel
theorem dX6_kept_76 : decode cX6_kept 76 = .ok (.invokevirtual 131, 3) := by decide +kernel
theorem dX6_kept_79 : decode cX6_kept 79 = .ok (.checkcast 130, 3) := by decide +kernel
theorem dX6_kept_82 : decode cX6_kept 82 = .ok (.aastore, 1) := by decide +kernel
theorem dX6_kept_83 : decode cX6_kept 83 = .ok (.areturn, 1) := by decide +kernel
theorem dX6_bringBack_0 : decode cX6_bringBack 0 = .ok (.bipush 6, 2) := by decide +kernel
theorem dX6_bringBack_2 : decode cX6_bringBack 2 = .ok (.anewarray 130, 3) := by decide +kernel
theorem dX6_bringBack_5 : decode cX6_bringBack 5 = .ok (.dup, 1) := by decide +kernel
theorem dX6_bringBack_6 : decode cX6_bringBack 6 = .ok (.iconst 0, 1) := by decide +kernel
theorem dX6_bringBack_7 : decode cX6_bringBack 7 = .ok (.aload_n 0, 1) := by decide +kernel
theorem dX6_bringBack_8 : decode cX6_bringBack 8 = .ok (.getfield 13, 3) := by decide +kernel
theorem dX6_bringBack_11 : decode cX6_bringBack 11 = .ok (.aastore, 1) := by decide +kernel
theorem dX6_bringBack_12 : decode cX6_bringBack 12 = .ok (.dup, 1) := by decide +kernel
theorem dX6_bringBack_13 : decode cX6_bringBack 13 = .ok (.iconst 1, 1) := by decide +kernel
theorem dX6_bringBack_14 : decode cX6_bringBack 14 = .ok (.aload_n 0, 1) := by decide +kernel
theorem dX6_bringBack_15 : decode cX6_bringBack 15 = .ok (.getfield 16, 3) := by decide +kernel
theorem dX6_bringBack_18 : decode cX6_bringBack 18 = .ok (.aastore, 1) := by decide +kernel
theorem dX6_bringBack_19 : decode cX6_bringBack 19 = .ok (.dup, 1) := by decide +kernel
theorem dX6_bringBack_20 : decode cX6_bringBack 20 = .ok (.iconst 2, 1) := by decide +kernel
theorem dX6_bringBack_21 : decode cX6_bringBack 21 = .ok (.aload_n 0, 1) := by decide +kernel
theorem dX6_bringBack_22 : decode cX6_bringBack 22 = .ok (.getfield 19, 3) := by decide +kernel
theorem dX6_bringBack_25 : decode cX6_bringBack 25 = .ok (.aastore, 1) := by decide +kernel
theorem dX6_bringBack_26 : decode cX6_bringBack 26 = .ok (.dup, 1) := by decide +kernel
theorem dX6_bringBack_27 : decode cX6_bringBack 27 = .ok (.iconst 3, 1) := by decide +kernel
theorem dX6_bringBack_28 : decode cX6_bringBack 28 = .ok (.aload_n 0, 1) := by decide +kernel
theorem dX6_bringBack_29 : decode cX6_bringBack 29 = .ok (.getfield 22, 3) := by decide +kernel
theorem dX6_bringBack_32 : decode cX6_bringBack 32 = .ok (.aastore, 1) := by decide +kernel
theorem dX6_bringBack_33 : decode cX6_bringBack 33 = .ok (.dup, 1) := by decide +kernel
theorem dX6_bringBack_34 : decode cX6_bringBack 34 = .ok (.iconst 4, 1) := by decide +kernel
theorem dX6_bringBack_35 : decode cX6_bringBack 35 = .ok (.aload_n 0, 1) := by decide +kernel
theorem dX6_bringBack_36 : decode cX6_bringBack 36 = .ok (.getfield 25, 3) := by decide +kernel
theorem dX6_bringBack_39 : decode cX6_bringBack 39 = .ok (.aastore, 1) := by decide +kernel
theorem dX6_bringBack_40 : decode cX6_bringBack 40 = .ok (.dup, 1) := by decide +kernel
theorem dX6_bringBack_41 : decode cX6_bringBack 41 = .ok (.iconst 5, 1) := by decide +kernel
theorem dX6_bringBack_42 : decode cX6_bringBack 42 = .ok (.aload_n 0, 1) := by decide +kernel
theorem dX6_bringBack_43 : decode cX6_bringBack 43 = .ok (.getfield 28, 3) := by decide +kernel
theorem dX6_bringBack_46 : decode cX6_bringBack 46 = .ok (.aastore, 1) := by decide +kernel
theorem dX6_bringBack_47 : decode cX6_bringBack 47 = .ok (.astore_n 2, 1) := by decide +kernel
theorem dX6_bringBack_48 : decode cX6_bringBack 48 = .ok (.iconst 0, 1) := by decide +kernel
theorem dX6_bringBack_49 : decode cX6_bringBack 49 = .ok (.istore_n 3, 1) := by decide +kernel
theorem dX6_bringBack_50 : decode cX6_bringBack 50 = .ok (.iload_n 3, 1) := by decide +kernel
theorem dX6_bringBack_51 : decode cX6_bringBack 51 = .ok (.aload_n 2, 1) := by decide +kernel
theorem dX6_bringBack_52 : decode cX6_bringBack 52 = .ok (.arraylength, 1) := by decide +kernel
theorem dX6_bringBack_53 : decode cX6_bringBack 53 = .ok (.if_icmp .ge 24, 3) := by decide +kernel
theorem dX6_bringBack_56 : decode cX6_bringBack 56 = .ok (.aload_n 1, 1) := by decide +kernel
theorem dX6_bringBack_57 : decode cX6_bringBack 57 = .ok (.iload_n 3, 1) := by decide +kernel
theorem dX6_bringBack_58 : decode cX6_bringBack 58 = .ok (.aaload, 1) := by decide +kernel
theorem dX6_bringBack_59 : decode cX6_bringBack 59 = .ok (.iconst 0, 1) := by decide +kernel
theorem dX6_bringBack_60 : decode cX6_bringBack 60 = .ok (.aload_n 2, 1) := by decide +kernel
theorem dX6_bringBack_61 : decode cX6_bringBack 61 = .ok (.iload_n 3, 1) := by decide +kernel
theorem dX6_bringBack_62 : decode cX6_bringBack 62 = .ok (.aaload, 1) := by decide +kernel
theorem dX6_bringBack_63 : decode cX6_bringBack 63 = .ok (.iconst 0, 1) := by decide +kernel
theorem dX6_bringBack_64 : decode cX6_bringBack 64 = .ok (.aload_n 2, 1) := by decide +kernel
theorem dX6_bringBack_65 : decode cX6_bringBack 65 = .ok (.iload_n 3, 1) := by decide +kernel
theorem dX6_bringBack_66 : decode cX6_bringBack 66 = .ok (.aaload, 1) := by decide +kernel
theorem dX6_bringBack_67 : decode cX6_bringBack 67 = .ok (.arraylength, 1) := by decide +kernel
theorem dX6_bringBack_68 : decode cX6_bringBack 68 = .ok (.invokestatic 109, 3) := by decide +kernel
theorem dX6_bringBack_71 : decode cX6_bringBack 71 = .ok (.iinc 3 1, 3) := by decide +kernel
theorem dX6_bringBack_74 : decode cX6_bringBack 74 = .ok (.goto (-24), 3) := by decide +kernel
theorem dX6_bringBack_77 : decode cX6_bringBack 77 = .ok (.return_, 1) := by decide +kernel
set_option maxRecDepth 20000 in
theorem ggX6_ripe_X6_isVat : GoodIn wsX6_ripe wsX6_isVat := goodIn_r _ [5, 6, 7, 4, 8] (by decide +kernel) (by decide +kernel)
set_option maxRecDepth 20000 in
theorem gX6_ripe_X6_isVat : GoodIn wsX6_ripe (va_wsS RX6 60 yX6_isVat wsX6_isVat) := goodIn_app (goodIn_of _ (by decide +kernel)) ggX6_ripe_X6_isVat
set_option maxRecDepth 20000 in
theorem ggX6_ripe_X6_fail : GoodIn wsX6_ripe wsX6_fail := goodIn_r _ [12, 1, 99, 100, 101, 102, 103, 104, 105, 106, 107, 108] (by decide +kernel) (by decide +kernel)
set_option maxRecDepth 20000 in
theorem gX6_ripe_X6_fail : GoodIn wsX6_ripe (wsV RX6 53 RX6 yX6_fail wsX6_fail) := goodIn_app (goodIn_of _ (by decide +kernel)) ggX6_ripe_X6_fail
set_option maxRecDepth 20000 in
theorem ggX6_ripe_X6_isIn : GoodIn wsX6_ripe wsX6_isIn := goodIn_r _ [8] (by decide +kernel) (by decide +kernel)
set_option maxRecDepth 20000 in
theorem gX6_ripe_X6_isIn : GoodIn wsX6_ripe (va_wsS RX6 35 yX6_isIn wsX6_isIn) := goodIn_app (goodIn_of _ (by decide +kernel)) ggX6_ripe_X6_isIn
set_option maxRecDepth 20000 in
theorem ggX6_ripe_X6_kept : GoodIn wsX6_ripe wsX6_kept := goodIn_r _ [16, 17, 18, 19, 20, 21, 22, 23, 24, 25, 26, 27, 28, 99, 100, 101, 102, 103, 104, 105, 106, 107, 108] (by decide +kernel) (by decide +kernel)
set_option maxRecDepth 20000 in
theorem gX6_ripe_X6_kept : GoodIn wsX6_ripe (wsV RX6 135 RX6 yX6_kept wsX6_kept) := goodIn_app (goodIn_of _ (by decide +kernel)) ggX6_ripe_X6_kept
set_option maxRecDepth 20000 in
theorem ggX6_ripe_X6_va : GoodIn wsX6_ripe wsX6_va := goodIn_r _ [32, 18, 99, 100, 101, 102, 103, 104, 105, 106, 107, 108] (by decide +kernel) (by decide +kernel)
set_option maxRecDepth 20000 in
theorem gX6_ripe_X6_va : GoodIn wsX6_ripe (wsV RX6 64 RX6 yX6_va wsX6_va) := goodIn_app (goodIn_of _ (by decide +kernel)) ggX6_ripe_X6_va
set_option maxRecDepth 20000 in
theorem ggX6_ripe_X6_dayOn : GoodIn wsX6_ripe wsX6_dayOn := goodIn_r _ [36, 37, 28, 38, 39, 40, 4, 41, 42, 43, 44, 45, 46, 29, 30, 31, 32, 18, 47, 48, 49, 50, 51, 52, 53, 54, 55, 26, 56, 57, 58, 59, 24, 60, 61, 62, 63, 64, 65, 66, 67, 25, 68, 69, 70, 71, 72, 73, 74, 75, 76, 77, 78, 79, 80, 81, 82, 83, 84, 85, 86, 87, 88, 89, 90, 91, 92, 93, 94, 27, 99, 100, 101, 102, 103, 104, 105, 106, 107, 108] (by decide +kernel) (by decide +kernel)
set_option maxRecDepth 20000 in
theorem gX6_ripe_X6_dayOn : GoodIn wsX6_ripe (wsV RX6 124 RX6 yX6_dayOn wsX6_dayOn) := goodIn_app (goodIn_of _ (by decide +kernel)) ggX6_ripe_X6_dayOn
set_option maxRecDepth 20000 in
theorem ggX6_ripe_X6_bringBack : GoodIn wsX6_ripe wsX6_bringBack := goodIn_r _ [98, 17, 18, 24, 25, 26, 27, 28, 56, 57, 58, 59, 99, 100, 101, 102, 103, 104, 105, 106, 107, 108] (by decide +kernel) (by decide +kernel)
set_option maxRecDepth 20000 in
theorem gX6_ripe_X6_bringBack : GoodIn wsX6_ripe (wsV RX6 139 RX6 yX6_bringBack wsX6_bringBack) := goodIn_app (goodIn_of _ (by decide +kernel)) ggX6_ripe_X6_bringBack
theorem dX6_ripe_0 : decode cX6_ripe 0 = .ok (.aload_n 0, 1) := by decide +kernel
theorem dX6_ripe_1 : decode cX6_ripe 1 = .ok (.iconst 0, 1) := by decide +kernel
theorem dX6_ripe_2 : decode cX6_ripe 2 = .ok (.putfield 31, 3) := by decide +kernel
theorem dX6_ripe_5 : decode cX6_ripe 5 = .ok (.iload_n 1, 1) := by decide +kernel
theorem dX6_ripe_6 : decode cX6_ripe 6 = .ok (.invokestatic 60, 3) := by decide +kernel
theorem dX6_ripe_9 : decode cX6_ripe 9 = .ok (.ifCond .ne 9, 3) := by decide +kernel
theorem dX6_ripe_12 : decode cX6_ripe 12 = .ok (.aload_n 0, 1) := by decide +kernel
theorem dX6_ripe_13 : decode cX6_ripe 13 = .ok (.iconst 1, 1) := by decide +kernel
theorem dX6_ripe_14 : decode cX6_ripe 14 = .ok (.invokevirtual 53, 3) := by decide +kernel
theorem dX6_ripe_17 : decode cX6_ripe 17 = .ok (.ireturn, 1) := by decide +kernel
theorem dX6_ripe_18 : decode cX6_ripe 18 = .ok (.iload_n 2, 1) := by decide +kernel
theorem dX6_ripe_19 : decode cX6_ripe 19 = .ok (.iconst 1, 1) := by decide +kernel
theorem dX6_ripe_20 : decode cX6_ripe 20 = .ok (.bipush 99, 2) := by decide +kernel
theorem dX6_ripe_22 : decode cX6_ripe 22 = .ok (.invokestatic 35, 3) := by decide +kernel
theorem dX6_ripe_25 : decode cX6_ripe 25 = .ok (.ifCond .ne 9, 3) := by decide +kernel
theorem dX6_ripe_28 : decode cX6_ripe 28 = .ok (.aload_n 0, 1) := by decide +kernel
theorem dX6_ripe_29 : decode cX6_ripe 29 = .ok (.iconst 2, 1) := by decide +kernel
theorem dX6_ripe_30 : decode cX6_ripe 30 = .ok (.invokevirtual 53, 3) := by decide +kernel
theorem dX6_ripe_33 : decode cX6_ripe 33 = .ok (.ireturn, 1) := by decide +kernel
theorem dX6_ripe_34 : decode cX6_ripe 34 = .ok (.aload_n 0, 1) := by decide +kernel
theorem dX6_ripe_35 : decode cX6_ripe 35 = .ok (.invokevirtual 135, 3) := by decide +kernel
theorem dX6_ripe_38 : decode cX6_ripe 38 = .ok (.astore_n 3, 1) := by decide +kernel
theorem dX6_ripe_39 : decode cX6_ripe 39 = .ok (.iconst 0, 1) := by decide +kernel
theorem dX6_ripe_40 : decode cX6_ripe 40 = .ok (.istore 4, 2) := by decide +kernel
theorem dX6_ripe_42 : decode cX6_ripe 42 = .ok (.iload 4, 2) := by decide +kernel
theorem dX6_ripe_44 : decode cX6_ripe 44 = .ok (.bipush 60, 2) := by decide +kernel
theorem dX6_ripe_46 : decode cX6_ripe 46 = .ok (.if_icmp .gt 24, 3) := by decide +kernel
theorem dX6_ripe_49 : decode cX6_ripe 49 = .ok (.aload_n 0, 1) := by decide +kernel
theorem dX6_ripe_50 : decode cX6_ripe 50 = .ok (.iload_n 1, 1) := by decide +kernel
theorem dX6_ripe_51 : decode cX6_ripe 51 = .ok (.iconst 1, 1) := by decide +kernel
theorem dX6_ripe_52 : decode cX6_ripe 52 = .ok (.invokevirtual 64, 3) := by decide +kernel
theorem dX6_ripe_55 : decode cX6_ripe 55 = .ok (.iload_n 2, 1) := by decide +kernel
theorem dX6_ripe_56 : decode cX6_ripe 56 = .ok (.if_icmp .ge 14, 3) := by decide +kernel
theorem dX6_ripe_59 : decode cX6_ripe 59 = .ok (.aload_n 0, 1) := by decide +kernel
theorem dX6_ripe_60 : decode cX6_ripe 60 = .ok (.invokevirtual 124, 3) := by decide +kernel
theorem dX6_ripe_63 : decode cX6_ripe 63 = .ok (.pop, 1) := by decide +kernel
theorem dX6_ripe_64 : decode cX6_ripe 64 = .ok (.iinc 4 1, 3) := by decide +kernel
theorem dX6_ripe_67 : decode cX6_ripe 67 = .ok (.goto (-25), 3) := by decide +kernel
theorem dX6_ripe_70 : decode cX6_ripe 70 = .ok (.aload_n 0, 1) := by decide +kernel
theorem dX6_ripe_71 : decode cX6_ripe 71 = .ok (.aload_n 3, 1) := by decide +kernel
theorem dX6_ripe_72 : decode cX6_ripe 72 = .ok (.invokevirtual 139, 3) := by decide +kernel
theorem dX6_ripe_75 : decode cX6_ripe 75 = .ok (.iload 4, 2) := by decide +kernel
theorem dX6_ripe_77 : decode cX6_ripe 77 = .ok (.bipush 60, 2) := by decide +kernel
theorem dX6_ripe_79 : decode cX6_ripe 79 = .ok (.if_icmp .le 7, 3) := by decide +kernel
theorem dX6_ripe_82 : decode cX6_ripe 82 = .ok (.iconst (-1), 1) := by decide +kernel
theorem dX6_ripe_83 : decode cX6_ripe 83 = .ok (.goto 5, 3) := by decide +kernel
theorem dX6_ripe_86 : decode cX6_ripe 86 = .ok (.iload 4, 2) := by decide +kernel
theorem dX6_ripe_88 : decode cX6_ripe 88 = .ok (.ireturn, 1) := by decide +kernel
set_option maxRecDepth 20000 in
theorem ggX6_foresee_X6_isIn : GoodIn wsX6_foresee wsX6_isIn := goodIn_r _ [5] (by decide +kernel) (by decide +kernel)
set_option maxRecDepth 20000 in
theorem gX6_foresee_X6_isIn : GoodIn wsX6_foresee (va_wsS RX6 35 yX6_isIn wsX6_isIn) := goodIn_app (goodIn_of _ (by decide +kernel)) ggX6_foresee_X6_isIn
set_option maxRecDepth 20000 in
theorem ggX6_foresee_X6_fail : GoodIn wsX6_foresee wsX6_fail := goodIn_r _ [9, 1, 104, 105, 106, 107, 108, 109, 110, 111, 112, 113] (by decide +kernel) (by decide +kernel)
set_option maxRecDepth 20000 in
theorem gX6_foresee_X6_fail : GoodIn wsX6_foresee (wsV RX6 53 RX6 yX6_fail wsX6_fail) := goodIn_app (goodIn_of _ (by decide +kernel)) ggX6_foresee_X6_fail
set_option maxRecDepth 20000 in
theorem ggX6_foresee_X6_kept : GoodIn wsX6_foresee wsX6_kept := goodIn_r _ [13, 14, 15, 16, 17, 18, 19, 20, 21, 22, 23, 24, 25, 104, 105, 106, 107, 108, 109, 110, 111, 112, 113] (by decide +kernel) (by decide +kernel)
set_option maxRecDepth 20000 in
theorem gX6_foresee_X6_kept : GoodIn wsX6_foresee (wsV RX6 135 RX6 yX6_kept wsX6_kept) := goodIn_app (goodIn_of _ (by decide +kernel)) ggX6_foresee_X6_kept
set_option maxRecDepth 20000 in
theorem ggX6_foresee_X6_daysOn : GoodIn wsX6_foresee wsX6_daysOn := goodIn_r _ [29, 30, 31, 32, 4, 33, 34, 25, 35, 36, 37, 38, 39, 40, 41, 42, 43, 44, 45, 46, 47, 15, 48, 49, 50, 51, 52, 53, 54, 55, 56, 23, 57, 58, 59, 60, 21, 61, 62, 63, 64, 65, 66, 67, 68, 22, 69, 70, 71, 72, 73, 74, 75, 76, 77, 78, 79, 80, 81, 82, 83, 84, 85, 86, 87, 88, 89, 90, 91, 92, 93, 94, 95, 24, 104, 105, 106, 107, 108, 109, 110, 111, 112, 113] (by decide +kernel) (by decide +kernel)
set_option maxRecDepth 20000 in
theorem gX6_foresee_X6_daysOn : GoodIn wsX6_foresee (wsV RX6 127 RX6 yX6_daysOn wsX6_daysOn) := goodIn_app (goodIn_of _ (by decide +kernel)) ggX6_foresee_X6_daysOn
set_option maxRecDepth 20000 in
theorem ggX6_foresee_X6_counted : GoodIn wsX6_foresee wsX6_counted := goodIn_r _ [99, 25, 24, 69, 70, 71, 4, 72, 73, 74, 75, 76, 77, 78, 79, 80, 23, 44, 45, 46, 47, 15, 104, 105, 106, 107, 108, 109, 110, 111, 112, 113] (by decide +kernel) (by decide +kernel)
set_option maxRecDepth 20000 in
theorem gX6_foresee_X6_counted : GoodIn wsX6_foresee (wsV RX6 103 RX6 yX6_counted wsX6_counted) := goodIn_app (goodIn_of _ (by decide +kernel)) ggX6_foresee_X6_counted
set_option maxRecDepth 20000 in
theorem ggX6_foresee_X6_bringBack : GoodIn wsX6_foresee wsX6_bringBack := goodIn_r _ [103, 14, 15, 21, 22, 23, 24, 25, 57, 58, 59, 60, 104, 105, 106, 107, 108, 109, 110, 111, 112, 113] (by decide +kernel) (by decide +kernel)
set_option maxRecDepth 20000 in
theorem gX6_foresee_X6_bringBack : GoodIn wsX6_foresee (wsV RX6 139 RX6 yX6_bringBack wsX6_bringBack) := goodIn_app (goodIn_of _ (by decide +kernel)) ggX6_foresee_X6_bringBack
theorem dX6_foresee_0 : decode cX6_foresee 0 = .ok (.aload_n 0, 1) := by decide +kernel
theorem dX6_foresee_1 : decode cX6_foresee 1 = .ok (.iconst 0, 1) := by decide +kernel
theorem dX6_foresee_2 : decode cX6_foresee 2 = .ok (.putfield 31, 3) := by decide +kernel
theorem dX6_foresee_5 : decode cX6_foresee 5 = .ok (.iload_n 1, 1) := by decide +kernel
theorem dX6_foresee_6 : decode cX6_foresee 6 = .ok (.iconst 1, 1) := by decide +kernel
theorem dX6_foresee_7 : decode cX6_foresee 7 = .ok (.bipush 40, 2) := by decide +kernel
theorem dX6_foresee_9 : decode cX6_foresee 9 = .ok (.invokestatic 35, 3) := by decide +kernel
theorem dX6_foresee_12 : decode cX6_foresee 12 = .ok (.ifCond .ne 9, 3) := by decide +kernel
theorem dX6_foresee_15 : decode cX6_foresee 15 = .ok (.aload_n 0, 1) := by decide +kernel
theorem dX6_foresee_16 : decode cX6_foresee 16 = .ok (.iconst 1, 1) := by decide +kernel
theorem dX6_foresee_17 : decode cX6_foresee 17 = .ok (.invokevirtual 53, 3) := by decide +kernel
theorem dX6_foresee_20 : decode cX6_foresee 20 = .ok (.ireturn, 1) := by decide +kernel
theorem dX6_foresee_21 : decode cX6_foresee 21 = .ok (.iload_n 2, 1) := by decide +kernel
theorem dX6_foresee_22 : decode cX6_foresee 22 = .ok (.iconst 0, 1) := by decide +kernel
theorem dX6_foresee_23 : decode cX6_foresee 23 = .ok (.bipush 11, 2) := by decide +kernel
theorem dX6_foresee_25 : decode cX6_foresee 25 = .ok (.invokestatic 35, 3) := by decide +kernel
theorem dX6_foresee_28 : decode cX6_foresee 28 = .ok (.ifCond .ne 9, 3) := by decide +kernel
theorem dX6_foresee_31 : decode cX6_foresee 31 = .ok (.aload_n 0, 1) := by decide +kernel
theorem dX6_foresee_32 : decode cX6_foresee 32 = .ok (.iconst 2, 1) := by decide +kernel
theorem dX6_foresee_33 : decode cX6_foresee 33 = .ok (.invokevirtual 53, 3) := by decide +kernel
theorem dX6_foresee_36 : decode cX6_foresee 36 = .ok (.ireturn, 1) := by decide +kernel
theorem dX6_foresee_37 : decode cX6_foresee 37 = .ok (.aload_n 0, 1) := by decide +kernel
theorem dX6_foresee_38 : decode cX6_foresee 38 = .ok (.invokevirtual 135, 3) := by decide +kernel
theorem dX6_foresee_41 : decode cX6_foresee 41 = .ok (.astore_n 3, 1) := by decide +kernel
theorem dX6_foresee_42 : decode cX6_foresee 42 = .ok (.aload_n 0, 1) := by decide +kernel
theorem dX6_foresee_43 : decode cX6_foresee 43 = .ok (.iload_n 1, 1) := by decide +kernel
theorem dX6_foresee_44 : decode cX6_foresee 44 = .ok (.invokevirtual 127, 3) := by decide +kernel
theorem dX6_foresee_47 : decode cX6_foresee 47 = .ok (.pop, 1) := by decide +kernel
theorem dX6_foresee_48 : decode cX6_foresee 48 = .ok (.aload_n 0, 1) := by decide +kernel
theorem dX6_foresee_49 : decode cX6_foresee 49 = .ok (.iload_n 2, 1) := by decide +kernel
theorem dX6_foresee_50 : decode cX6_foresee 50 = .ok (.invokevirtual 103, 3) := by decide +kernel
theorem dX6_foresee_53 : decode cX6_foresee 53 = .ok (.istore 4, 2) := by decide +kernel
theorem dX6_foresee_55 : decode cX6_foresee 55 = .ok (.aload_n 0, 1) := by decide +kernel
theorem dX6_foresee_56 : decode cX6_foresee 56 = .ok (.aload_n 3, 1) := by decide +kernel
theorem dX6_foresee_57 : decode cX6_foresee 57 = .ok (.invokevirtual 139, 3) := by decide +kernel
theorem dX6_foresee_60 : decode cX6_foresee 60 = .ok (.iload 4, 2) := by decide +kernel
theorem dX6_foresee_62 : decode cX6_foresee 62 = .ok (.ireturn, 1) := by decide +kernel
set_option maxRecDepth 20000 in
theorem ggX6_advise_X6_isTeam : GoodIn wsX6_advise wsX6_isTeam := goodIn_r _ [8, 9, 10, 11, 7, 12, 100, 101, 102, 103, 104, 105, 106, 107, 108, 109] (by decide +kernel) (by decide +kernel)
set_option maxRecDepth 20000 in
theorem gX6_advise_X6_isTeam : GoodIn wsX6_advise (wsV RX6 88 RX6 yX6_isTeam wsX6_isTeam) := goodIn_app (goodIn_of _ (by decide +kernel)) ggX6_advise_X6_isTeam
set_option maxRecDepth 20000 in
theorem ggX6_advise_X6_fail : GoodIn wsX6_advise wsX6_fail := goodIn_r _ [16, 1, 100, 101, 102, 103, 104, 105, 106, 107, 108, 109] (by decide +kernel) (by decide +kernel)
set_option maxRecDepth 20000 in
theorem gX6_advise_X6_fail : GoodIn wsX6_advise (wsV RX6 53 RX6 yX6_fail wsX6_fail) := goodIn_app (goodIn_of _ (by decide +kernel)) ggX6_advise_X6_fail
set_option maxRecDepth 20000 in
theorem ggX6_advise_X6_cr : GoodIn wsX6_advise wsX6_cr := goodIn_r _ [20, 2, 100, 101, 102, 103, 104, 105, 106, 107, 108, 109] (by decide +kernel) (by decide +kernel)
set_option maxRecDepth 20000 in
theorem gX6_advise_X6_cr : GoodIn wsX6_advise (wsV RX6 77 RX6 yX6_cr wsX6_cr) := goodIn_app (goodIn_of _ (by decide +kernel)) ggX6_advise_X6_cr
set_option maxRecDepth 20000 in
theorem ggX6_advise_X6_kept : GoodIn wsX6_advise wsX6_kept := goodIn_r _ [24, 25, 26, 27, 28, 29, 30, 31, 32, 2, 33, 34, 3, 100, 101, 102, 103, 104, 105, 106, 107, 108, 109] (by decide +kernel) (by decide +kernel)
set_option maxRecDepth 20000 in
theorem gX6_advise_X6_kept : GoodIn wsX6_advise (wsV RX6 135 RX6 yX6_kept wsX6_kept) := goodIn_app (goodIn_of _ (by decide +kernel)) ggX6_advise_X6_kept
set_option maxRecDepth 20000 in
theorem ggX6_advise_X6_dayOn : GoodIn wsX6_advise wsX6_dayOn := goodIn_r _ [38, 9, 3, 39, 40, 41, 7, 42, 43, 44, 45, 46, 47, 48, 49, 50, 51, 26, 52, 53, 54, 55, 56, 57, 58, 59, 60, 33, 61, 62, 63, 64, 32, 65, 66, 67, 68, 17, 18, 19, 20, 2, 69, 70, 71, 72, 73, 74, 75, 76, 77, 78, 79, 80, 81, 82, 83, 84, 85, 86, 87, 88, 89, 90, 91, 92, 93, 94, 95, 34, 100, 101, 102, 103, 104, 105, 106, 107, 108, 109] (by decide +kernel) (by decide +kernel)
set_option maxRecDepth 20000 in
theorem gX6_advise_X6_dayOn : GoodIn wsX6_advise (wsV RX6 124 RX6 yX6_dayOn wsX6_dayOn) := goodIn_app (goodIn_of _ (by decide +kernel)) ggX6_advise_X6_dayOn
set_option maxRecDepth 20000 in
theorem ggX6_advise_X6_bringBack : GoodIn wsX6_advise wsX6_bringBack := goodIn_r _ [99, 25, 26, 32, 2, 33, 34, 3, 61, 62, 63, 64, 100, 101, 102, 103, 104, 105, 106, 107, 108, 109] (by decide +kernel) (by decide +kernel)
set_option maxRecDepth 20000 in
theorem gX6_advise_X6_bringBack : GoodIn wsX6_advise (wsV RX6 139 RX6 yX6_bringBack wsX6_bringBack) := goodIn_app (goodIn_of _ (by decide +kernel)) ggX6_advise_X6_bringBack
theorem dX6_advise_0 : decode cX6_advise 0 = .ok (.aload_n 0, 1) := by decide +kernel
theorem dX6_advise_1 : decode cX6_advise 1 = .ok (.iconst 0, 1) := by decide +kernel
theorem dX6_advise_2 : decode cX6_advise 2 = .ok (.putfield 31, 3) := by decide +kernel
theorem dX6_advise_5 : decode cX6_advise 5 = .ok (.aload_n 0, 1) := by decide +kernel
theorem dX6_advise_6 : decode cX6_advise 6 = .ok (.iload_n 1, 1) := by decide +kernel
theorem dX6_advise_7 : decode cX6_advise 7 = .ok (.invokevirtual 88, 3) := by decide +kernel
theorem dX6_advise_10 : decode cX6_advise 10 = .ok (.ifCond .ne 9, 3) := by decide +kernel
theorem dX6_advise_13 : decode cX6_advise 13 = .ok (.aload_n 0, 1) := by decide +kernel
theorem dX6_advise_14 : decode cX6_advise 14 = .ok (.iconst 1, 1) := by decide +kernel
theorem dX6_advise_15 : decode cX6_advise 15 = .ok (.invokevirtual 53, 3) := by decide +kernel
theorem dX6_advise_18 : decode cX6_advise 18 = .ok (.ireturn, 1) := by decide +kernel
theorem dX6_advise_19 : decode cX6_advise 19 = .ok (.aload_n 0, 1) := by decide +kernel
theorem dX6_advise_20 : decode cX6_advise 20 = .ok (.iload_n 1, 1) := by decide +kernel
theorem dX6_advise_21 : decode cX6_advise 21 = .ok (.iconst 2, 1) := by decide +kernel
theorem dX6_advise_22 : decode cX6_advise 22 = .ok (.invokevirtual 77, 3) := by decide +kernel
theorem dX6_advise_25 : decode cX6_advise 25 = .ok (.iconst (-1), 1) := by decide +kernel
theorem dX6_advise_26 : decode cX6_advise 26 = .ok (.if_icmp .ne 5, 3) := by decide +kernel
theorem dX6_advise_29 : decode cX6_advise 29 = .ok (.iconst (-1), 1) := by decide +kernel
theorem dX6_advise_30 : decode cX6_advise 30 = .ok (.ireturn, 1) := by decide +kernel
theorem dX6_advise_31 : decode cX6_advise 31 = .ok (.aload_n 0, 1) := by decide +kernel
theorem dX6_advise_32 : decode cX6_advise 32 = .ok (.invokevirtual 135, 3) := by decide +kernel
theorem dX6_advise_35 : decode cX6_advise 35 = .ok (.astore_n 2, 1) := by decide +kernel
theorem dX6_advise_36 : decode cX6_advise 36 = .ok (.iconst (-1), 1) := by decide +kernel
theorem dX6_advise_37 : decode cX6_advise 37 = .ok (.istore_n 3, 1) := by decide +kernel
theorem dX6_advise_38 : decode cX6_advise 38 = .ok (.iconst (-1), 1) := by decide +kernel
theorem dX6_advise_39 : decode cX6_advise 39 = .ok (.istore 4, 2) := by decide +kernel
theorem dX6_advise_41 : decode cX6_advise 41 = .ok (.iconst 0, 1) := by decide +kernel
theorem dX6_advise_42 : decode cX6_advise 42 = .ok (.istore 5, 2) := by decide +kernel
theorem dX6_advise_44 : decode cX6_advise 44 = .ok (.iload 5, 2) := by decide +kernel
theorem dX6_advise_46 : decode cX6_advise 46 = .ok (.iconst 4, 1) := by decide +kernel
theorem dX6_advise_47 : decode cX6_advise 47 = .ok (.if_icmp .ge 56, 3) := by decide +kernel
theorem dX6_advise_50 : decode cX6_advise 50 = .ok (.aload_n 0, 1) := by decide +kernel
theorem dX6_advise_51 : decode cX6_advise 51 = .ok (.getfield 19, 3) := by decide +kernel
theorem dX6_advise_54 : decode cX6_advise 54 = .ok (.iconst 3, 1) := by decide +kernel
theorem dX6_advise_55 : decode cX6_advise 55 = .ok (.iload_n 1, 1) := by decide +kernel
theorem dX6_advise_56 : decode cX6_advise 56 = .ok (.imul, 1) := by decide +kernel
theorem dX6_advise_57 : decode cX6_advise 57 = .ok (.iconst 1, 1) := by decide +kernel
theorem dX6_advise_58 : decode cX6_advise 58 = .ok (.iadd, 1) := by decide +kernel
theorem dX6_advise_59 : decode cX6_advise 59 = .ok (.iload 5, 2) := by decide +kernel
theorem dX6_advise_61 : decode cX6_advise 61 = .ok (.iastore, 1) := by decide +kernel
theorem dX6_advise_62 : decode cX6_advise 62 = .ok (.aload_n 0, 1) := by decide +kernel
theorem dX6_advise_63 : decode cX6_advise 63 = .ok (.invokevirtual 124, 3) := by decide +kernel
theorem dX6_advise_66 : decode cX6_advise 66 = .ok (.pop, 1) := by decide +kernel
theorem dX6_advise_67 : decode cX6_advise 67 = .ok (.aload_n 0, 1) := by decide +kernel
theorem dX6_advise_68 : decode cX6_advise 68 = .ok (.getfield 28, 3) := by decide +kernel
theorem dX6_advise_71 : decode cX6_advise 71 = .ok (.iconst 4, 1) := by decide +kernel
theorem dX6_advise_72 : decode cX6_advise 72 = .ok (.iaload, 1) := by decide +kernel
theorem dX6_advise_73 : decode cX6_advise 73 = .ok (.istore 6, 2) := by decide +kernel
theorem dX6_advise_75 : decode cX6_advise 75 = .ok (.aload_n 0, 1) := by decide +kernel
theorem dX6_advise_76 : decode cX6_advise 76 = .ok (.aload_n 2, 1) := by decide +kernel
theorem dX6_advise_77 : decode cX6_advise 77 = .ok (.invokevirtual 139, 3) := by decide +kernel
theorem dX6_advise_80 : decode cX6_advise 80 = .ok (.iload 6, 2) := by decide +kernel
theorem dX6_advise_82 : decode cX6_advise 82 = .ok (.iload 4, 2) := by decide +kernel
theorem dX6_advise_84 : decode cX6_advise 84 = .ok (.if_icmp .gt 6, 3) := by decide +kernel
theorem dX6_advise_87 : decode cX6_advise 87 = .ok (.goto 10, 3) := by decide +kernel
theorem dX6_advise_90 : decode cX6_advise 90 = .ok (.iload 5, 2) := by decide +kernel
theorem dX6_advise_92 : decode cX6_advise 92 = .ok (.istore_n 3, 1) := by decide +kernel
theorem dX6_advise_93 : decode cX6_advise 93 = .ok (.iload 6, 2) := by decide +kernel
theorem dX6_advise_95 : decode cX6_advise 95 = .ok (.istore 4, 2) := by decide +kernel
theorem dX6_advise_97 : decode cX6_advise 97 = .ok (.iinc 5 1, 3) := by decide +kernel
theorem dX6_advise_100 : decode cX6_advise 100 = .ok (.goto (-56), 3) := by decide +kernel
theorem dX6_advise_103 : decode cX6_advise 103 = .ok (.iload_n 3, 1) := by decide +kernel
theorem dX6_advise_104 : decode cX6_advise 104 = .ok (.ireturn, 1) := by decide +kernel
set_option maxRecDepth 20000 in
theorem ggX6_mean_X6_mo : GoodIn wsX6_mean wsX6_mo := goodIn_r _ [7, 8, 9, 10, 11, 12, 13, 14, 15, 16, 17, 18] (by decide +kernel) (by decide +kernel)
set_option maxRecDepth 20000 in
theorem gX6_mean_X6_mo : GoodIn wsX6_mean (wsV RX6 74 RX6 yX6_mo wsX6_mo) := goodIn_app (goodIn_of _ (by decide +kernel)) ggX6_mean_X6_mo
theorem dX6_mean_0 : decode cX6_mean 0 = .ok (.aload_n 0, 1) := by decide +kernel
theorem dX6_mean_1 : decode cX6_mean 1 = .ok (.iconst 0, 1) := by decide +kernel
theorem dX6_mean_2 : decode cX6_mean 2 = .ok (.putfield 31, 3) := by decide +kernel
theorem dX6_mean_5 : decode cX6_mean 5 = .ok (.iconst 0, 1) := by decide +kernel
theorem dX6_mean_6 : decode cX6_mean 6 = .ok (.istore_n 1, 1) := by decide +kernel
theorem dX6_mean_7 : decode cX6_mean 7 = .ok (.iconst 0, 1) := by decide +kernel
theorem dX6_mean_8 : decode cX6_mean 8 = .ok (.istore_n 2, 1) := by decide +kernel
theorem dX6_mean_9 : decode cX6_mean 9 = .ok (.iload_n 2, 1) := by decide +kernel
theorem dX6_mean_10 : decode cX6_mean 10 = .ok (.aload_n 0, 1) := by decide +kernel
theorem dX6_mean_11 : decode cX6_mean 11 = .ok (.getfield 39, 3) := by decide +kernel
theorem dX6_mean_14 : decode cX6_mean 14 = .ok (.if_icmp .ge 18, 3) := by decide +kernel
theorem dX6_mean_17 : decode cX6_mean 17 = .ok (.iload_n 1, 1) := by decide +kernel
theorem dX6_mean_18 : decode cX6_mean 18 = .ok (.aload_n 0, 1) := by decide +kernel
theorem dX6_mean_19 : decode cX6_mean 19 = .ok (.iload_n 2, 1) := by decide +kernel
theorem dX6_mean_20 : decode cX6_mean 20 = .ok (.iconst 2, 1) := by decide +kernel
theorem dX6_mean_21 : decode cX6_mean 21 = .ok (.invokevirtual 74, 3) := by decide +kernel
theorem dX6_mean_24 : decode cX6_mean 24 = .ok (.iadd, 1) := by decide +kernel
theorem dX6_mean_25 : decode cX6_mean 25 = .ok (.istore_n 1, 1) := by decide +kernel
theorem dX6_mean_26 : decode cX6_mean 26 = .ok (.iinc 2 1, 3) := by decide +kernel
theorem dX6_mean_29 : decode cX6_mean 29 = .ok (.goto (-20), 3) := by decide +kernel
theorem dX6_mean_32 : decode cX6_mean 32 = .ok (.aload_n 0, 1) := by decide +kernel
theorem dX6_mean_33 : decode cX6_mean 33 = .ok (.getfield 39, 3) := by decide +kernel
theorem dX6_mean_36 : decode cX6_mean 36 = .ok (.ifCond .ne 7, 3) := by decide +kernel
theorem dX6_mean_39 : decode cX6_mean 39 = .ok (.dconst 0, 1) := by decide +kernel
theorem dX6_mean_40 : decode cX6_mean 40 = .ok (.goto 11, 3) := by decide +kernel
theorem dX6_mean_43 : decode cX6_mean 43 = .ok (.iload_n 1, 1) := by decide +kernel
theorem dX6_mean_44 : decode cX6_mean 44 = .ok (.i2d, 1) := by decide +kernel
theorem dX6_mean_45 : decode cX6_mean 45 = .ok (.aload_n 0, 1) := by decide +kernel
theorem dX6_mean_46 : decode cX6_mean 46 = .ok (.getfield 39, 3) := by decide +kernel
theorem dX6_mean_49 : decode cX6_mean 49 = .ok (.i2d, 1) := by decide +kernel
theorem dX6_mean_50 : decode cX6_mean 50 = .ok (.ddiv, 1) := by decide +kernel
theorem dX6_mean_51 : decode cX6_mean 51 = .ok (.dreturn, 1) := by decide +kernel
set_option maxRecDepth 20000 in
theorem ggX6_digest_X6_counted : GoodIn wsX6_digest wsX6_counted := goodIn_r _ [15, 8, 10, 16, 17, 18, 14, 19, 20, 21, 22, 23, 24, 25, 26, 27, 9, 28, 29, 30, 31, 5, 62, 63, 64, 65, 66, 67, 68, 69, 70, 71] (by decide +kernel) (by decide +kernel)
set_option maxRecDepth 20000 in
theorem gX6_digest_X6_counted : GoodIn wsX6_digest (wsV RX6 103 RX6 yX6_counted wsX6_counted) := goodIn_app (goodIn_of _ (by decide +kernel)) ggX6_digest_X6_counted
set_option maxRecDepth 20000 in
theorem ggX6_digest_X6_pairTold : GoodIn wsX6_digest wsX6_pairTold := goodIn_r _ [35, 36, 37, 38, 14, 39, 40, 41, 42, 43, 44, 7, 45, 46, 47, 48, 49, 62, 63, 64, 65, 66, 67, 68, 69, 70, 71] (by decide +kernel) (by decide +kernel)
set_option maxRecDepth 20000 in
theorem gX6_digest_X6_pairTold : GoodIn wsX6_digest (wsV RX6 97 RX6 yX6_pairTold wsX6_pairTold) := goodIn_app (goodIn_of _ (by decide +kernel)) ggX6_digest_X6_pairTold
set_option maxRecDepth 20000 in
theorem ggX6_digest_X6_teamTold : GoodIn wsX6_digest wsX6_teamTold := goodIn_r _ [53, 45, 46, 47, 14, 48, 49, 54, 55, 56, 57, 58, 59, 60, 61, 28, 29, 30, 31, 5, 16, 17, 18, 19, 8, 20, 21, 22, 23, 24, 25, 26, 27, 9, 36, 37, 38, 39, 40, 62, 63, 64, 65, 66, 67, 68, 69, 70, 71] (by decide +kernel) (by decide +kernel)
set_option maxRecDepth 20000 in
theorem gX6_digest_X6_teamTold : GoodIn wsX6_digest (wsV RX6 100 RX6 yX6_teamTold wsX6_teamTold) := goodIn_app (goodIn_of _ (by decide +kernel)) ggX6_digest_X6_teamTold
theorem dX6_digest_0 : decode cX6_digest 0 = .ok (.aload_n 0, 1) := by decide +kernel
theorem dX6_digest_1 : decode cX6_digest 1 = .ok (.iconst 0, 1) := by decide +kernel
theorem dX6_digest_2 : decode cX6_digest 2 = .ok (.putfield 31, 3) := by decide +kernel
theorem dX6_digest_5 : decode cX6_digest 5 = .ok (.ldc2_w 143, 3) := by decide +kernel
theorem dX6_digest_8 : decode cX6_digest 8 = .ok (.lstore_n 1, 1) := by decide +kernel
theorem dX6_digest_9 : decode cX6_digest 9 = .ok (.iconst 0, 1) := by decide +kernel
theorem dX6_digest_10 : decode cX6_digest 10 = .ok (.istore_n 3, 1) := by decide +kernel
theorem dX6_digest_11 : decode cX6_digest 11 = .ok (.iload_n 3, 1) := by decide +kernel
theorem dX6_digest_12 : decode cX6_digest 12 = .ok (.bipush 12, 2) := by decide +kernel
theorem dX6_digest_14 : decode cX6_digest 14 = .ok (.if_icmp .ge 22, 3) := by decide +kernel
theorem dX6_digest_17 : decode cX6_digest 17 = .ok (.lload_n 1, 1) := by decide +kernel
theorem dX6_digest_18 : decode cX6_digest 18 = .ok (.ldc2_w 145, 3) := by decide +kernel
theorem dX6_digest_21 : decode cX6_digest 21 = .ok (.lmul, 1) := by decide +kernel
theorem dX6_digest_22 : decode cX6_digest 22 = .ok (.aload_n 0, 1) := by decide +kernel
theorem dX6_digest_23 : decode cX6_digest 23 = .ok (.iload_n 3, 1) := by decide +kernel
theorem dX6_digest_24 : decode cX6_digest 24 = .ok (.invokevirtual 103, 3) := by decide +kernel
theorem dX6_digest_27 : decode cX6_digest 27 = .ok (.i2l, 1) := by decide +kernel
theorem dX6_digest_28 : decode cX6_digest 28 = .ok (.ladd, 1) := by decide +kernel
theorem dX6_digest_29 : decode cX6_digest 29 = .ok (.lstore_n 1, 1) := by decide +kernel
theorem dX6_digest_30 : decode cX6_digest 30 = .ok (.iinc 3 1, 3) := by decide +kernel
theorem dX6_digest_33 : decode cX6_digest 33 = .ok (.goto (-22), 3) := by decide +kernel
theorem dX6_digest_36 : decode cX6_digest 36 = .ok (.aload_n 0, 1) := by decide +kernel
theorem dX6_digest_37 : decode cX6_digest 37 = .ok (.getfield 7, 3) := by decide +kernel
theorem dX6_digest_40 : decode cX6_digest 40 = .ok (.astore_n 3, 1) := by decide +kernel
theorem dX6_digest_41 : decode cX6_digest 41 = .ok (.aload_n 3, 1) := by decide +kernel
theorem dX6_digest_42 : decode cX6_digest 42 = .ok (.arraylength, 1) := by decide +kernel
theorem dX6_digest_43 : decode cX6_digest 43 = .ok (.istore 4, 2) := by decide +kernel
theorem dX6_digest_45 : decode cX6_digest 45 = .ok (.iconst 0, 1) := by decide +kernel
theorem dX6_digest_46 : decode cX6_digest 46 = .ok (.istore 5, 2) := by decide +kernel
theorem dX6_digest_48 : decode cX6_digest 48 = .ok (.iload 5, 2) := by decide +kernel
theorem dX6_digest_50 : decode cX6_digest 50 = .ok (.iload 4, 2) := by decide +kernel
theorem dX6_digest_52 : decode cX6_digest 52 = .ok (.if_icmp .ge 25, 3) := by decide +kernel
theorem dX6_digest_55 : decode cX6_digest 55 = .ok (.aload_n 3, 1) := by decide +kernel
theorem dX6_digest_56 : decode cX6_digest 56 = .ok (.iload 5, 2) := by decide +kernel
theorem dX6_digest_58 : decode cX6_digest 58 = .ok (.iaload, 1) := by decide +kernel
theorem dX6_digest_59 : decode cX6_digest 59 = .ok (.istore 6, 2) := by decide +kernel
theorem dX6_digest_61 : decode cX6_digest 61 = .ok (.lload_n 1, 1) := by decide +kernel
theorem dX6_digest_62 : decode cX6_digest 62 = .ok (.ldc2_w 145, 3) := by decide +kernel
theorem dX6_digest_65 : decode cX6_digest 65 = .ok (.lmul, 1) := by decide +kernel
theorem dX6_digest_66 : decode cX6_digest 66 = .ok (.iload 6, 2) := by decide +kernel
theorem dX6_digest_68 : decode cX6_digest 68 = .ok (.i2l, 1) := by decide +kernel
theorem dX6_digest_69 : decode cX6_digest 69 = .ok (.ladd, 1) := by decide +kernel
theorem dX6_digest_70 : decode cX6_digest 70 = .ok (.lstore_n 1, 1) := by decide +kernel
theorem dX6_digest_71 : decode cX6_digest 71 = .ok (.iinc 5 1, 3) := by decide +kernel
theorem dX6_digest_74 : decode cX6_digest 74 = .ok (.goto (-26), 3) := by decide +kernel
theorem dX6_digest_77 : decode cX6_digest 77 = .ok (.aload_n 0, 1) := by decide +kernel
theorem dX6_digest_78 : decode cX6_digest 78 = .ok (.getfield 13, 3) := by decide +kernel
theorem dX6_digest_81 : decode cX6_digest 81 = .ok (.astore_n 3, 1) := by decide +kernel
theorem dX6_digest_82 : decode cX6_digest 82 = .ok (.aload_n 3, 1) := by decide +kernel
theorem dX6_digest_83 : decode cX6_digest 83 = .ok (.arraylength, 1) := by decide +kernel
theorem dX6_digest_84 : decode cX6_digest 84 = .ok (.istore 4, 2) := by decide +kernel
theorem dX6_digest_86 : decode cX6_digest 86 = .ok (.iconst 0, 1) := by decide +kernel
theorem dX6_digest_87 : decode cX6_digest 87 = .ok (.istore 5, 2) := by decide +kernel
theorem dX6_digest_89 : decode cX6_digest 89 = .ok (.iload 5, 2) := by decide +kernel
theorem dX6_digest_91 : decode cX6_digest 91 = .ok (.iload 4, 2) := by decide +kernel
theorem dX6_digest_93 : decode cX6_digest 93 = .ok (.if_icmp .ge 25, 3) := by decide +kernel
theorem dX6_digest_96 : decode cX6_digest 96 = .ok (.aload_n 3, 1) := by decide +kernel
theorem dX6_digest_97 : decode cX6_digest 97 = .ok (.iload 5, 2) := by decide +kernel
theorem dX6_digest_99 : decode cX6_digest 99 = .ok (.iaload, 1) := by decide +kernel
theorem dX6_digest_100 : decode cX6_digest 100 = .ok (.istore 6, 2) := by decide +kernel
theorem dX6_digest_102 : decode cX6_digest 102 = .ok (.lload_n 1, 1) := by decide +kernel
theorem dX6_digest_103 : decode cX6_digest 103 = .ok (.ldc2_w 145, 3) := by decide +kernel
theorem dX6_digest_106 : decode cX6_digest 106 = .ok (.lmul, 1) := by decide +kernel
theorem dX6_digest_107 : decode cX6_digest 107 = .ok (.iload 6, 2) := by decide +kernel
theorem dX6_digest_109 : decode cX6_digest 109 = .ok (.i2l, 1) := by decide +kernel
theorem dX6_digest_110 : decode cX6_digest 110 = .ok (.ladd, 1) := by decide +kernel
theorem dX6_digest_111 : decode cX6_digest 111 = .ok (.lstore_n 1, 1) := by decide +kernel
theorem dX6_digest_112 : decode cX6_digest 112 = .ok (.iinc 5 1, 3) := by decide +kernel
theorem dX6_digest_115 : decode cX6_digest 115 = .ok (.goto (-26), 3) := by decide +kernel
theorem dX6_digest_118 : decode cX6_digest 118 = .ok (.iconst 0, 1) := by decide +kernel
theorem dX6_digest_119 : decode cX6_digest 119 = .ok (.istore_n 3, 1) := by decide +kernel
theorem dX6_digest_120 : decode cX6_digest 120 = .ok (.iload_n 3, 1) := by decide +kernel
theorem dX6_digest_121 : decode cX6_digest 121 = .ok (.aload_n 0, 1) := by decide +kernel
theorem dX6_digest_122 : decode cX6_digest 122 = .ok (.getfield 39, 3) := by decide +kernel
theorem dX6_digest_125 : decode cX6_digest 125 = .ok (.if_icmp .ge 39, 3) := by decide +kernel
theorem dX6_digest_128 : decode cX6_digest 128 = .ok (.iconst 0, 1) := by decide +kernel
theorem dX6_digest_129 : decode cX6_digest 129 = .ok (.istore 4, 2) := by decide +kernel
theorem dX6_digest_131 : decode cX6_digest 131 = .ok (.iload 4, 2) := by decide +kernel
theorem dX6_digest_133 : decode cX6_digest 133 = .ok (.iconst 4, 1) := by decide +kernel
theorem dX6_digest_134 : decode cX6_digest 134 = .ok (.if_icmp .ge 24, 3) := by decide +kernel
theorem dX6_digest_137 : decode cX6_digest 137 = .ok (.lload_n 1, 1) := by decide +kernel
theorem dX6_digest_138 : decode cX6_digest 138 = .ok (.ldc2_w 145, 3) := by decide +kernel
theorem dX6_digest_141 : decode cX6_digest 141 = .ok (.lmul, 1) := by decide +kernel
theorem dX6_digest_142 : decode cX6_digest 142 = .ok (.aload_n 0, 1) := by decide +kernel
theorem dX6_digest_143 : decode cX6_digest 143 = .ok (.iload_n 3, 1) := by decide +kernel
theorem dX6_digest_144 : decode cX6_digest 144 = .ok (.iload 4, 2) := by decide +kernel
theorem dX6_digest_146 : decode cX6_digest 146 = .ok (.invokevirtual 97, 3) := by decide +kernel
theorem dX6_digest_149 : decode cX6_digest 149 = .ok (.i2l, 1) := by decide +kernel
theorem dX6_digest_150 : decode cX6_digest 150 = .ok (.ladd, 1) := by decide +kernel
theorem dX6_digest_151 : decode cX6_digest 151 = .ok (.lstore_n 1, 1) := by decide +kernel
theorem dX6_digest_152 : decode cX6_digest 152 = .ok (.iinc 4 1, 3) := by decide +kernel
theorem dX6_digest_155 : decode cX6_digest 155 = .ok (.goto (-24), 3) := by decide +kernel
theorem dX6_digest_158 : decode cX6_digest 158 = .ok (.iinc 3 1, 3) := by decide +kernel
theorem dX6_digest_161 : decode cX6_digest 161 = .ok (.goto (-41), 3) := by decide +kernel
theorem dX6_digest_164 : decode cX6_digest 164 = .ok (.iconst 0, 1) := by decide +kernel
theorem dX6_digest_165 : decode cX6_digest 165 = .ok (.istore_n 3, 1) := by decide +kernel
theorem dX6_digest_166 : decode cX6_digest 166 = .ok (.iload_n 3, 1) := by decide +kernel
theorem dX6_digest_167 : decode cX6_digest 167 = .ok (.aload_n 0, 1) := by decide +kernel
theorem dX6_digest_168 : decode cX6_digest 168 = .ok (.getfield 42, 3) := by decide +kernel
theorem dX6_digest_171 : decode cX6_digest 171 = .ok (.if_icmp .ge 39, 3) := by decide +kernel
theorem dX6_digest_174 : decode cX6_digest 174 = .ok (.iconst 0, 1) := by decide +kernel
theorem dX6_digest_175 : decode cX6_digest 175 = .ok (.istore 4, 2) := by decide +kernel
theorem dX6_digest_177 : decode cX6_digest 177 = .ok (.iload 4, 2) := by decide +kernel
theorem dX6_digest_179 : decode cX6_digest 179 = .ok (.iconst 4, 1) := by decide +kernel
theorem dX6_digest_180 : decode cX6_digest 180 = .ok (.if_icmp .ge 24, 3) := by decide +kernel
theorem dX6_digest_183 : decode cX6_digest 183 = .ok (.lload_n 1, 1) := by decide +kernel
theorem dX6_digest_184 : decode cX6_digest 184 = .ok (.ldc2_w 145, 3) := by decide +kernel
theorem dX6_digest_187 : decode cX6_digest 187 = .ok (.lmul, 1) := by decide +kernel
theorem dX6_digest_188 : decode cX6_digest 188 = .ok (.aload_n 0, 1) := by decide +kernel
theorem dX6_digest_189 : decode cX6_digest 189 = .ok (.iload_n 3, 1) := by decide +kernel
theorem dX6_digest_190 : decode cX6_digest 190 = .ok (.iload 4, 2) := by decide +kernel
theorem dX6_digest_192 : decode cX6_digest 192 = .ok (.invokevirtual 100, 3) := by decide +kernel
theorem dX6_digest_195 : decode cX6_digest 195 = .ok (.i2l, 1) := by decide +kernel
theorem dX6_digest_196 : decode cX6_digest 196 = .ok (.ladd, 1) := by decide +kernel
theorem dX6_digest_197 : decode cX6_digest 197 = .ok (.lstore_n 1, 1) := by decide +kernel
theorem dX6_digest_198 : decode cX6_digest 198 = .ok (.iinc 4 1, 3) := by decide +kernel
theorem dX6_digest_201 : decode cX6_digest 201 = .ok (.goto (-24), 3) := by decide +kernel
theorem dX6_digest_204 : decode cX6_digest 204 = .ok (.iinc 3 1, 3) := by decide +kernel
theorem dX6_digest_207 : decode cX6_digest 207 = .ok (.goto (-41), 3) := by decide +kernel
theorem dX6_digest_210 : decode cX6_digest 210 = .ok (.iconst 0, 1) := by decide +kernel
theorem dX6_digest_211 : decode cX6_digest 211 = .ok (.istore_n 3, 1) := by decide +kernel
theorem dX6_digest_212 : decode cX6_digest 212 = .ok (.iload_n 3, 1) := by decide +kernel
theorem dX6_digest_213 : decode cX6_digest 213 = .ok (.iconst 3, 1) := by decide +kernel
theorem dX6_digest_214 : decode cX6_digest 214 = .ok (.aload_n 0, 1) := by decide +kernel
theorem dX6_digest_215 : decode cX6_digest 215 = .ok (.getfield 28, 3) := by decide +kernel
theorem dX6_digest_218 : decode cX6_digest 218 = .ok (.iconst 5, 1) := by decide +kernel
theorem dX6_digest_219 : decode cX6_digest 219 = .ok (.iaload, 1) := by decide +kernel
theorem dX6_digest_220 : decode cX6_digest 220 = .ok (.imul, 1) := by decide +kernel
theorem dX6_digest_221 : decode cX6_digest 221 = .ok (.if_icmp .ge 23, 3) := by decide +kernel
theorem dX6_digest_224 : decode cX6_digest 224 = .ok (.lload_n 1, 1) := by decide +kernel
theorem dX6_digest_225 : decode cX6_digest 225 = .ok (.ldc2_w 145, 3) := by decide +kernel
theorem dX6_digest_228 : decode cX6_digest 228 = .ok (.lmul, 1) := by decide +kernel
theorem dX6_digest_229 : decode cX6_digest 229 = .ok (.aload_n 0, 1) := by decide +kernel
theorem dX6_digest_230 : decode cX6_digest 230 = .ok (.getfield 22, 3) := by decide +kernel
theorem dX6_digest_233 : decode cX6_digest 233 = .ok (.iload_n 3, 1) := by decide +kernel
theorem dX6_digest_234 : decode cX6_digest 234 = .ok (.iaload, 1) := by decide +kernel
theorem dX6_digest_235 : decode cX6_digest 235 = .ok (.i2l, 1) := by decide +kernel
theorem dX6_digest_236 : decode cX6_digest 236 = .ok (.ladd, 1) := by decide +kernel
theorem dX6_digest_237 : decode cX6_digest 237 = .ok (.lstore_n 1, 1) := by decide +kernel
theorem dX6_digest_238 : decode cX6_digest 238 = .ok (.iinc 3 1, 3) := by decide +kernel
theorem dX6_digest_241 : decode cX6_digest 241 = .ok (.goto (-29), 3) := by decide +kernel
theorem dX6_digest_244 : decode cX6_digest 244 = .ok (.aload_n 0, 1) := by decide +kernel
theorem dX6_digest_245 : decode cX6_digest 245 = .ok (.getfield 25, 3) := by decide +kernel
theorem dX6_digest_248 : decode cX6_digest 248 = .ok (.astore_n 3, 1) := by decide +kernel
theorem dX6_digest_249 : decode cX6_digest 249 = .ok (.aload_n 3, 1) := by decide +kernel
theorem dX6_digest_250 : decode cX6_digest 250 = .ok (.arraylength, 1) := by decide +kernel
theorem dX6_digest_251 : decode cX6_digest 251 = .ok (.istore 4, 2) := by decide +kernel
theorem dX6_digest_253 : decode cX6_digest 253 = .ok (.iconst 0, 1) := by decide +kernel
theorem dX6_digest_254 : decode cX6_digest 254 = .ok (.istore 5, 2) := by decide +kernel
theorem dX6_digest_256 : decode cX6_digest 256 = .ok (.iload 5, 2) := by decide +kernel
theorem dX6_digest_258 : decode cX6_digest 258 = .ok (.iload 4, 2) := by decide +kernel
theorem dX6_digest_260 : decode cX6_digest 260 = .ok (.if_icmp .ge 25, 3) := by decide +kernel
theorem dX6_digest_263 : decode cX6_digest 263 = .ok (.aload_n 3, 1) := by decide +kernel
theorem dX6_digest_264 : decode cX6_digest 264 = .ok (.iload 5, 2) := by decide +kernel
theorem dX6_digest_266 : decode cX6_digest 266 = .ok (.iaload, 1) := by decide +kernel
theorem dX6_digest_267 : decode cX6_digest 267 = .ok (.istore 6, 2) := by decide +kernel
theorem dX6_digest_269 : decode cX6_digest 269 = .ok (.lload_n 1, 1) := by decide +kernel
theorem dX6_digest_270 : decode cX6_digest 270 = .ok (.ldc2_w 145, 3) := by decide +kernel
theorem dX6_digest_273 : decode cX6_digest 273 = .ok (.lmul, 1) := by decide +kernel
theorem dX6_digest_274 : decode cX6_digest 274 = .ok (.iload 6, 2) := by decide +kernel
theorem dX6_digest_276 : decode cX6_digest 276 = .ok (.i2l, 1) := by decide +kernel
theorem dX6_digest_277 : decode cX6_digest 277 = .ok (.ladd, 1) := by decide +kernel
theorem dX6_digest_278 : decode cX6_digest 278 = .ok (.lstore_n 1, 1) := by decide +kernel
theorem dX6_digest_279 : decode cX6_digest 279 = .ok (.iinc 5 1, 3) := by decide +kernel
theorem dX6_digest_282 : decode cX6_digest 282 = .ok (.goto (-26), 3) := by decide +kernel
theorem dX6_digest_285 : decode cX6_digest 285 = .ok (.lload_n 1, 1) := by decide +kernel
theorem dX6_digest_286 : decode cX6_digest 286 = .ok (.lreturn, 1) := by decide +kernel
