theorem nmX6 : ∀ a, a < 12 → ∀ b, b < 12 → a ≠ b → (TX6 a).2.1 ≠ (TX6 b).2.1 := by decide +kernel
theorem tyX6_ok : ∀ k, k < 12 → parseFieldDescriptor (TX6 k).2.2.1 = some (tyX6 k) := by decide +kernel
theorem inlX6 : ∀ w ∈ wsX60, w ∈ wsL_law := fun _ h => List.mem_append_left _ (List.mem_append_left _ (List.mem_append_left _ (List.mem_append_left _ (List.mem_append_left _ (List.mem_append_left _ (List.mem_append_left _ (List.mem_append_left _ (List.mem_append_left _ (List.mem_append_right _ h)))))))))
theorem dX6_init_0 : decode cX6_init 0 = .ok (.aload_n 0, 1) := by decide +kernel
theorem dX6_init_1 : decode cX6_init 1 = .ok (.invokespecial 1, 3) := by decide +kernel
theorem dX6_init_4 : decode cX6_init 4 = .ok (.aload_n 0, 1) := by decide +kernel
theorem dX6_init_5 : decode cX6_init 5 = .ok (.bipush 40, 2) := by decide +kernel
theorem dX6_init_7 : decode cX6_init 7 = .ok (.putfield 7, 3) := by decide +kernel
theorem dX6_init_10 : decode cX6_init 10 = .ok (.aload_n 0, 1) := by decide +kernel
theorem dX6_init_11 : decode cX6_init 11 = .ok (.bipush 30, 2) := by decide +kernel
theorem dX6_init_13 : decode cX6_init 13 = .ok (.putfield 13, 3) := by decide +kernel
theorem dX6_init_16 : decode cX6_init 16 = .ok (.aload_n 0, 1) := by decide +kernel
theorem dX6_init_17 : decode cX6_init 17 = .ok (.bipush 7, 2) := by decide +kernel
theorem dX6_init_19 : decode cX6_init 19 = .ok (.newarray .int, 2) := by decide +kernel
theorem dX6_init_21 : decode cX6_init 21 = .ok (.dup, 1) := by decide +kernel
theorem dX6_init_22 : decode cX6_init 22 = .ok (.iconst 0, 1) := by decide +kernel
theorem dX6_init_23 : decode cX6_init 23 = .ok (.iconst 4, 1) := by decide +kernel
theorem dX6_init_24 : decode cX6_init 24 = .ok (.iastore, 1) := by decide +kernel
theorem dX6_init_25 : decode cX6_init 25 = .ok (.dup, 1) := by decide +kernel
theorem dX6_init_26 : decode cX6_init 26 = .ok (.iconst 1, 1) := by decide +kernel
theorem dX6_init_27 : decode cX6_init 27 = .ok (.iconst 4, 1) := by decide +kernel
theorem dX6_init_28 : decode cX6_init 28 = .ok (.iastore, 1) := by decide +kernel
theorem dX6_init_29 : decode cX6_init 29 = .ok (.dup, 1) := by decide +kernel
theorem dX6_init_30 : decode cX6_init 30 = .ok (.iconst 2, 1) := by decide +kernel
theorem dX6_init_31 : decode cX6_init 31 = .ok (.iconst 4, 1) := by decide +kernel
theorem dX6_init_32 : decode cX6_init 32 = .ok (.iastore, 1) := by decide +kernel
theorem dX6_init_33 : decode cX6_init 33 = .ok (.dup, 1) := by decide +kernel
theorem dX6_init_34 : decode cX6_init 34 = .ok (.iconst 3, 1) := by decide +kernel
theorem dX6_init_35 : decode cX6_init 35 = .ok (.iconst 4, 1) := by decide +kernel
theorem dX6_init_36 : decode cX6_init 36 = .ok (.iastore, 1) := by decide +kernel
theorem dX6_init_37 : decode cX6_init 37 = .ok (.dup, 1) := by decide +kernel
theorem dX6_init_38 : decode cX6_init 38 = .ok (.iconst 4, 1) := by decide +kernel
theorem dX6_init_39 : decode cX6_init 39 = .ok (.iconst 4, 1) := by decide +kernel
theorem dX6_init_40 : decode cX6_init 40 = .ok (.iastore, 1) := by decide +kernel
theorem dX6_init_41 : decode cX6_init 41 = .ok (.dup, 1) := by decide +kernel
theorem dX6_init_42 : decode cX6_init 42 = .ok (.iconst 5, 1) := by decide +kernel
theorem dX6_init_43 : decode cX6_init 43 = .ok (.iconst 4, 1) := by decide +kernel
theorem dX6_init_44 : decode cX6_init 44 = .ok (.iastore, 1) := by decide +kernel
theorem dX6_init_45 : decode cX6_init 45 = .ok (.dup, 1) := by decide +kernel
theorem dX6_init_46 : decode cX6_init 46 = .ok (.bipush 6, 2) := by decide +kernel
theorem dX6_init_48 : decode cX6_init 48 = .ok (.iconst 4, 1) := by decide +kernel
theorem dX6_init_49 : decode cX6_init 49 = .ok (.iastore, 1) := by decide +kernel
theorem dX6_init_50 : decode cX6_init 50 = .ok (.putfield 16, 3) := by decide +kernel
theorem dX6_init_53 : decode cX6_init 53 = .ok (.aload_n 0, 1) := by decide +kernel
theorem dX6_init_54 : decode cX6_init 54 = .ok (.iconst 3, 1) := by decide +kernel
theorem dX6_init_55 : decode cX6_init 55 = .ok (.newarray .int, 2) := by decide +kernel
theorem dX6_init_57 : decode cX6_init 57 = .ok (.dup, 1) := by decide +kernel
theorem dX6_init_58 : decode cX6_init 58 = .ok (.iconst 0, 1) := by decide +kernel
theorem dX6_init_59 : decode cX6_init 59 = .ok (.bipush 60, 2) := by decide +kernel
theorem dX6_init_61 : decode cX6_init 61 = .ok (.iastore, 1) := by decide +kernel
theorem dX6_init_62 : decode cX6_init 62 = .ok (.dup, 1) := by decide +kernel
theorem dX6_init_63 : decode cX6_init 63 = .ok (.iconst 1, 1) := by decide +kernel
theorem dX6_init_64 : decode cX6_init 64 = .ok (.bipush 60, 2) := by decide +kernel
theorem dX6_init_66 : decode cX6_init 66 = .ok (.iastore, 1) := by decide +kernel
theorem dX6_init_67 : decode cX6_init 67 = .ok (.dup, 1) := by decide +kernel
theorem dX6_init_68 : decode cX6_init 68 = .ok (.iconst 2, 1) := by decide +kernel
theorem dX6_init_69 : decode cX6_init 69 = .ok (.bipush 60, 2) := by decide +kernel
theorem dX6_init_71 : decode cX6_init 71 = .ok (.iastore, 1) := by decide +kernel
theorem dX6_init_72 : decode cX6_init 72 = .ok (.putfield 20, 3) := by decide +kernel
theorem dX6_init_75 : decode cX6_init 75 = .ok (.aload_n 0, 1) := by decide +kernel
theorem dX6_init_76 : decode cX6_init 76 = .ok (.iconst 4, 1) := by decide +kernel
theorem dX6_init_77 : decode cX6_init 77 = .ok (.anewarray 23, 3) := by decide +kernel
theorem dX6_init_80 : decode cX6_init 80 = .ok (.dup, 1) := by decide +kernel
theorem dX6_init_81 : decode cX6_init 81 = .ok (.iconst 0, 1) := by decide +kernel
theorem dX6_init_82 : decode cX6_init 82 = .ok (.iconst 3, 1) := by decide +kernel
theorem dX6_init_83 : decode cX6_init 83 = .ok (.newarray .int, 2) := by decide +kernel
theorem dX6_init_85 : decode cX6_init 85 = .ok (.dup, 1) := by decide +kernel
theorem dX6_init_86 : decode cX6_init 86 = .ok (.iconst 0, 1) := by decide +kernel
theorem dX6_init_87 : decode cX6_init 87 = .ok (.iconst 0, 1) := by decide +kernel
theorem dX6_init_88 : decode cX6_init 88 = .ok (.iastore, 1) := by decide +kernel
theorem dX6_init_89 : decode cX6_init 89 = .ok (.dup, 1) := by decide +kernel
theorem dX6_init_90 : decode cX6_init 90 = .ok (.iconst 1, 1) := by decide +kernel
theorem dX6_init_91 : decode cX6_init 91 = .ok (.iconst 0, 1) := by decide +kernel
theorem dX6_init_92 : decode cX6_init 92 = .ok (.iastore, 1) := by decide +kernel
theorem dX6_init_93 : decode cX6_init 93 = .ok (.dup, 1) := by decide +kernel
theorem dX6_init_94 : decode cX6_init 94 = .ok (.iconst 2, 1) := by decide +kernel
theorem dX6_init_95 : decode cX6_init 95 = .ok (.iconst (-1), 1) := by decide +kernel
theorem dX6_init_96 : decode cX6_init 96 = .ok (.iastore, 1) := by decide +kernel
theorem dX6_init_97 : decode cX6_init 97 = .ok (.aastore, 1) := by decide +kernel
theorem dX6_init_98 : decode cX6_init 98 = .ok (.dup, 1) := by decide +kernel
theorem dX6_init_99 : decode cX6_init 99 = .ok (.iconst 1, 1) := by decide +kernel
theorem dX6_init_100 : decode cX6_init 100 = .ok (.iconst 3, 1) := by decide +kernel
theorem dX6_init_101 : decode cX6_init 101 = .ok (.newarray .int, 2) := by decide +kernel
theorem dX6_init_103 : decode cX6_init 103 = .ok (.dup, 1) := by decide +kernel
theorem dX6_init_104 : decode cX6_init 104 = .ok (.iconst 0, 1) := by decide +kernel
theorem dX6_init_105 : decode cX6_init 105 = .ok (.iconst 0, 1) := by decide +kernel
theorem dX6_init_106 : decode cX6_init 106 = .ok (.iastore, 1) := by decide +kernel
theorem dX6_init_107 : decode cX6_init 107 = .ok (.dup, 1) := by decide +kernel
theorem dX6_init_108 : decode cX6_init 108 = .ok (.iconst 1, 1) := by decide +kernel
theorem dX6_init_109 : decode cX6_init 109 = .ok (.iconst 0, 1) := by decide +kernel
theorem dX6_init_110 : decode cX6_init 110 = .ok (.iastore, 1) := by decide +kernel
theorem dX6_init_111 : decode cX6_init 111 = .ok (.dup, 1) := by decide +kernel
theorem dX6_init_112 : decode cX6_init 112 = .ok (.iconst 2, 1) := by decide +kernel
theorem dX6_init_113 : decode cX6_init 113 = .ok (.iconst (-1), 1) := by decide +kernel
theorem dX6_init_114 : decode cX6_init 114 = .ok (.iastore, 1) := by decide +kernel
theorem dX6_init_115 : decode cX6_init 115 = .ok (.aastore, 1) := by decide +kernel
theorem dX6_init_116 : decode cX6_init 116 = .ok (.dup, 1) := by decide +kernel
theorem dX6_init_117 : decode cX6_init 117 = .ok (.iconst 2, 1) := by decide +kernel
theorem dX6_init_118 : decode cX6_init 118 = .ok (.iconst 3, 1) := by decide +kernel
theorem dX6_init_119 : decode cX6_init 119 = .ok (.newarray .int, 2) := by decide +kernel
theorem dX6_init_121 : decode cX6_init 121 = .ok (.dup, 1) := by decide +kernel
theorem dX6_init_122 : decode cX6_init 122 = .ok (.iconst 0, 1) := by decide +kernel
theorem dX6_init_123 : decode cX6_init 123 = .ok (.iconst 0, 1) := by decide +kernel
theorem dX6_init_124 : decode cX6_init 124 = .ok (.iastore, 1) := by decide +kernel
theorem dX6_init_125 : decode cX6_init 125 = .ok (.dup, 1) := by decide +kernel
theorem dX6_init_126 : decode cX6_init 126 = .ok (.iconst 1, 1) := by decide +kernel
theorem dX6_init_127 : decode cX6_init 127 = .ok (.iconst 0, 1) := by decide +kernel
theorem dX6_init_128 : decode cX6_init 128 = .ok (.iastore, 1) := by decide +kernel
theorem dX6_init_129 : decode cX6_init 129 = .ok (.dup, 1) := by decide +kernel
theorem dX6_init_130 : decode cX6_init 130 = .ok (.iconst 2, 1) := by decide +kernel
theorem dX6_init_131 : decode cX6_init 131 = .ok (.iconst (-1), 1) := by decide +kernel
theorem dX6_init_132 : decode cX6_init 132 = .ok (.iastore, 1) := by decide +kernel
theorem dX6_init_133 : decode cX6_init 133 = .ok (.aastore, 1) := by decide +kernel
theorem dX6_init_134 : decode cX6_init 134 = .ok (.dup, 1) := by decide +kernel
theorem dX6_init_135 : decode cX6_init 135 = .ok (.iconst 3, 1) := by decide +kernel
theorem dX6_init_136 : decode cX6_init 136 = .ok (.iconst 3, 1) := by decide +kernel
theorem dX6_init_137 : decode cX6_init 137 = .ok (.newarray .int, 2) := by decide +kernel
theorem dX6_init_139 : decode cX6_init 139 = .ok (.dup, 1) := by decide +kernel
theorem dX6_init_140 : decode cX6_init 140 = .ok (.iconst 0, 1) := by decide +kernel
theorem dX6_init_141 : decode cX6_init 141 = .ok (.iconst 0, 1) := by decide +kernel
theorem dX6_init_142 : decode cX6_init 142 = .ok (.iastore, 1) := by decide +kernel
theorem dX6_init_143 : decode cX6_init 143 = .ok (.dup, 1) := by decide +kernel
theorem dX6_init_144 : decode cX6_init 144 = .ok (.iconst 1, 1) := by decide +kernel
theorem dX6_init_145 : decode cX6_init 145 = .ok (.iconst 0, 1) := by decide +kernel
theorem dX6_init_146 : decode cX6_init 146 = .ok (.iastore, 1) := by decide +kernel
theorem dX6_init_147 : decode cX6_init 147 = .ok (.dup, 1) := by decide +kernel
theorem dX6_init_148 : decode cX6_init 148 = .ok (.iconst 2, 1) := by decide +kernel
theorem dX6_init_149 : decode cX6_init 149 = .ok (.iconst (-1), 1) := by decide +kernel
theorem dX6_init_150 : decode cX6_init 150 = .ok (.iastore, 1) := by decide +kernel
theorem dX6_init_151 : decode cX6_init 151 = .ok (.aastore, 1) := by decide +kernel
theorem dX6_init_152 : decode cX6_init 152 = .ok (.putfield 24, 3) := by decide +kernel
theorem dX6_init_155 : decode cX6_init 155 = .ok (.aload_n 0, 1) := by decide +kernel
theorem dX6_init_156 : decode cX6_init 156 = .ok (.iconst 0, 1) := by decide +kernel
theorem dX6_init_157 : decode cX6_init 157 = .ok (.anewarray 23, 3) := by decide +kernel
theorem dX6_init_160 : decode cX6_init 160 = .ok (.putfield 28, 3) := by decide +kernel
theorem dX6_init_163 : decode cX6_init 163 = .ok (.aload_n 0, 1) := by decide +kernel
theorem dX6_init_164 : decode cX6_init 164 = .ok (.iconst 0, 1) := by decide +kernel
theorem dX6_init_165 : decode cX6_init 165 = .ok (.anewarray 23, 3) := by decide +kernel
theorem dX6_init_168 : decode cX6_init 168 = .ok (.putfield 31, 3) := by decide +kernel
theorem dX6_init_171 : decode cX6_init 171 = .ok (.aload_n 0, 1) := by decide +kernel
theorem dX6_init_172 : decode cX6_init 172 = .ok (.iconst 0, 1) := by decide +kernel
theorem dX6_init_173 : decode cX6_init 173 = .ok (.anewarray 23, 3) := by decide +kernel
theorem dX6_init_176 : decode cX6_init 176 = .ok (.putfield 34, 3) := by decide +kernel
theorem dX6_init_179 : decode cX6_init 179 = .ok (.aload_n 0, 1) := by decide +kernel
theorem dX6_init_180 : decode cX6_init 180 = .ok (.bipush 10, 2) := by decide +kernel
theorem dX6_init_182 : decode cX6_init 182 = .ok (.iconst 3, 1) := by decide +kernel
theorem dX6_init_183 : decode cX6_init 183 = .ok (.multianewarray 37 2, 4) := by decide +kernel
theorem dX6_init_187 : decode cX6_init 187 = .ok (.putfield 38, 3) := by decide +kernel
theorem dX6_init_190 : decode cX6_init 190 = .ok (.return_, 1) := by decide +kernel
theorem dX6_more_0 : decode cX6_more 0 = .ok (.aload_n 0, 1) := by decide +kernel
theorem dX6_more_1 : decode cX6_more 1 = .ok (.arraylength, 1) := by decide +kernel
theorem dX6_more_2 : decode cX6_more 2 = .ok (.iconst 1, 1) := by decide +kernel
theorem dX6_more_3 : decode cX6_more 3 = .ok (.iadd, 1) := by decide +kernel
theorem dX6_more_4 : decode cX6_more 4 = .ok (.anewarray 23, 3) := by decide +kernel
theorem dX6_more_7 : decode cX6_more 7 = .ok (.astore_n 2, 1) := by decide +kernel
theorem dX6_more_8 : decode cX6_more 8 = .ok (.iconst 0, 1) := by decide +kernel
theorem dX6_more_9 : decode cX6_more 9 = .ok (.istore_n 3, 1) := by decide +kernel
theorem dX6_more_10 : decode cX6_more 10 = .ok (.iload_n 3, 1) := by decide +kernel
theorem dX6_more_11 : decode cX6_more 11 = .ok (.aload_n 0, 1) := by decide +kernel
theorem dX6_more_12 : decode cX6_more 12 = .ok (.arraylength, 1) := by decide +kernel
theorem dX6_more_13 : decode cX6_more 13 = .ok (.if_icmp .ge 15, 3) := by decide +kernel
theorem dX6_more_16 : decode cX6_more 16 = .ok (.aload_n 2, 1) := by decide +kernel
theorem dX6_more_17 : decode cX6_more 17 = .ok (.iload_n 3, 1) := by decide +kernel
theorem dX6_more_18 : decode cX6_more 18 = .ok (.aload_n 0, 1) := by decide +kernel
theorem dX6_more_19 : decode cX6_more 19 = .ok (.iload_n 3, 1) := by decide +kernel
theorem dX6_more_20 : decode cX6_more 20 = .ok (.aaload, 1) := by decide +kernel
theorem dX6_more_21 : decode cX6_more 21 = .ok (.aastore, 1) := by decide +kernel
theorem dX6_more_22 : decode cX6_more 22 = .ok (.iinc 3 1, 3) := by decide +kernel
theorem dX6_more_25 : decode cX6_more 25 = .ok (.goto (-15), 3) := by decide +kernel
theorem dX6_more_28 : decode cX6_more 28 = .ok (.aload_n 2, 1) := by decide +kernel
theorem dX6_more_29 : decode cX6_more 29 = .ok (.aload_n 0, 1) := by decide +kernel
theorem dX6_more_30 : decode cX6_more 30 = .ok (.arraylength, 1) := by decide +kernel
theorem dX6_more_31 : decode cX6_more 31 = .ok (.aload_n 1, 1) := by decide +kernel
theorem dX6_more_32 : decode cX6_more 32 = .ok (.aastore, 1) := by decide +kernel
theorem dX6_more_33 : decode cX6_more 33 = .ok (.aload_n 2, 1) := by decide +kernel
theorem dX6_more_34 : decode cX6_more 34 = .ok (.areturn, 1) := by decide +kernel
theorem dX6_free_0 : decode cX6_free 0 = .ok (.aload_n 0, 1) := by decide +kernel
theorem dX6_free_1 : decode cX6_free 1 = .ok (.getfield 13, 3) := by decide +kernel
theorem dX6_free_4 : decode cX6_free 4 = .ok (.istore_n 1, 1) := by decide +kernel
theorem dX6_free_5 : decode cX6_free 5 = .ok (.aload_n 0, 1) := by decide +kernel
theorem dX6_free_6 : decode cX6_free 6 = .ok (.getfield 34, 3) := by decide +kernel
theorem dX6_free_9 : decode cX6_free 9 = .ok (.astore_n 2, 1) := by decide +kernel
theorem dX6_free_10 : decode cX6_free 10 = .ok (.aload_n 2, 1) := by decide +kernel
theorem dX6_free_11 : decode cX6_free 11 = .ok (.arraylength, 1) := by decide +kernel
theorem dX6_free_12 : decode cX6_free 12 = .ok (.istore_n 3, 1) := by decide +kernel
theorem dX6_free_13 : decode cX6_free 13 = .ok (.iconst 0, 1) := by decide +kernel
theorem dX6_free_14 : decode cX6_free 14 = .ok (.istore 4, 2) := by decide +kernel
theorem dX6_free_16 : decode cX6_free 16 = .ok (.iload 4, 2) := by decide +kernel
theorem dX6_free_18 : decode cX6_free 18 = .ok (.iload_n 3, 1) := by decide +kernel
theorem dX6_free_19 : decode cX6_free 19 = .ok (.if_icmp .ge 22, 3) := by decide +kernel
theorem dX6_free_22 : decode cX6_free 22 = .ok (.aload_n 2, 1) := by decide +kernel
theorem dX6_free_23 : decode cX6_free 23 = .ok (.iload 4, 2) := by decide +kernel
theorem dX6_free_25 : decode cX6_free 25 = .ok (.aaload, 1) := by decide +kernel
theorem dX6_free_26 : decode cX6_free 26 = .ok (.astore 5, 2) := by decide +kernel
theorem dX6_free_28 : decode cX6_free 28 = .ok (.iload_n 1, 1) := by decide +kernel
theorem dX6_free_29 : decode cX6_free 29 = .ok (.aload 5, 2) := by decide +kernel
theorem dX6_free_31 : decode cX6_free 31 = .ok (.iconst 2, 1) := by decide +kernel
theorem dX6_free_32 : decode cX6_free 32 = .ok (.iaload, 1) := by decide +kernel
theorem dX6_free_33 : decode cX6_free 33 = .ok (.isub, 1) := by decide +kernel
theorem dX6_free_34 : decode cX6_free 34 = .ok (.istore_n 1, 1) := by decide +kernel
theorem dX6_free_35 : decode cX6_free 35 = .ok (.iinc 4 1, 3) := by decide +kernel
theorem dX6_free_38 : decode cX6_free 38 = .ok (.goto (-22), 3) := by decide +kernel
theorem dX6_free_41 : decode cX6_free 41 = .ok (.iload_n 1, 1) := by decide +kernel
theorem dX6_free_42 : decode cX6_free 42 = .ok (.ireturn, 1) := by decide +kernel
set_option maxRecDepth 20000 in
theorem ggX6_makes_X6_free : GoodIn wsX6_makes wsX6_free := goodIn_r _ [7, 8, 9, 10, 11, 12, 13, 14, 15, 16, 17, 18, 19, 20, 21] (by decide +kernel) (by decide +kernel)
set_option maxRecDepth 20000 in
theorem gX6_makes_X6_free : GoodIn wsX6_makes (wsV RX6 59 RX6 yX6_free wsX6_free) := goodIn_app (goodIn_of _ (by decide +kernel)) ggX6_makes_X6_free
theorem dX6_makes_0 : decode cX6_makes 0 = .ok (.aload_n 1, 1) := by decide +kernel
theorem dX6_makes_1 : decode cX6_makes 1 = .ok (.iconst 1, 1) := by decide +kernel
theorem dX6_makes_2 : decode cX6_makes 2 = .ok (.iaload, 1) := by decide +kernel
theorem dX6_makes_3 : decode cX6_makes 3 = .ok (.ifCond .lt 24, 3) := by decide +kernel
theorem dX6_makes_6 : decode cX6_makes 6 = .ok (.aload_n 1, 1) := by decide +kernel
theorem dX6_makes_7 : decode cX6_makes 7 = .ok (.iconst 2, 1) := by decide +kernel
theorem dX6_makes_8 : decode cX6_makes 8 = .ok (.iaload, 1) := by decide +kernel
theorem dX6_makes_9 : decode cX6_makes 9 = .ok (.ifCond .lt 18, 3) := by decide +kernel
theorem dX6_makes_12 : decode cX6_makes 12 = .ok (.aload_n 0, 1) := by decide +kernel
theorem dX6_makes_13 : decode cX6_makes 13 = .ok (.getfield 24, 3) := by decide +kernel
theorem dX6_makes_16 : decode cX6_makes 16 = .ok (.aload_n 1, 1) := by decide +kernel
theorem dX6_makes_17 : decode cX6_makes 17 = .ok (.iconst 1, 1) := by decide +kernel
theorem dX6_makes_18 : decode cX6_makes 18 = .ok (.iaload, 1) := by decide +kernel
theorem dX6_makes_19 : decode cX6_makes 19 = .ok (.aaload, 1) := by decide +kernel
theorem dX6_makes_20 : decode cX6_makes 20 = .ok (.iconst 1, 1) := by decide +kernel
theorem dX6_makes_21 : decode cX6_makes 21 = .ok (.iaload, 1) := by decide +kernel
theorem dX6_makes_22 : decode cX6_makes 22 = .ok (.bipush 30, 2) := by decide +kernel
theorem dX6_makes_24 : decode cX6_makes 24 = .ok (.if_icmp .ge 5, 3) := by decide +kernel
theorem dX6_makes_27 : decode cX6_makes 27 = .ok (.iconst 0, 1) := by decide +kernel
theorem dX6_makes_28 : decode cX6_makes 28 = .ok (.ireturn, 1) := by decide +kernel
theorem dX6_makes_29 : decode cX6_makes 29 = .ok (.aload_n 0, 1) := by decide +kernel
theorem dX6_makes_30 : decode cX6_makes 30 = .ok (.getfield 24, 3) := by decide +kernel
theorem dX6_makes_33 : decode cX6_makes 33 = .ok (.aload_n 1, 1) := by decide +kernel
theorem dX6_makes_34 : decode cX6_makes 34 = .ok (.iconst 1, 1) := by decide +kernel
theorem dX6_makes_35 : decode cX6_makes 35 = .ok (.iaload, 1) := by decide +kernel
theorem dX6_makes_36 : decode cX6_makes 36 = .ok (.aaload, 1) := by decide +kernel
theorem dX6_makes_37 : decode cX6_makes 37 = .ok (.iconst 0, 1) := by decide +kernel
theorem dX6_makes_38 : decode cX6_makes 38 = .ok (.iaload, 1) := by decide +kernel
theorem dX6_makes_39 : decode cX6_makes 39 = .ok (.aload_n 0, 1) := by decide +kernel
theorem dX6_makes_40 : decode cX6_makes 40 = .ok (.getfield 28, 3) := by decide +kernel
theorem dX6_makes_43 : decode cX6_makes 43 = .ok (.aload_n 1, 1) := by decide +kernel
theorem dX6_makes_44 : decode cX6_makes 44 = .ok (.iconst 2, 1) := by decide +kernel
theorem dX6_makes_45 : decode cX6_makes 45 = .ok (.iaload, 1) := by decide +kernel
theorem dX6_makes_46 : decode cX6_makes 46 = .ok (.aaload, 1) := by decide +kernel
theorem dX6_makes_47 : decode cX6_makes 47 = .ok (.iconst 1, 1) := by decide +kernel
theorem dX6_makes_48 : decode cX6_makes 48 = .ok (.iaload, 1) := by decide +kernel
theorem dX6_makes_49 : decode cX6_makes 49 = .ok (.idiv, 1) := by decide +kernel
theorem dX6_makes_50 : decode cX6_makes 50 = .ok (.istore_n 2, 1) := by decide +kernel
theorem dX6_makes_51 : decode cX6_makes 51 = .ok (.aload_n 0, 1) := by decide +kernel
theorem dX6_makes_52 : decode cX6_makes 52 = .ok (.invokevirtual 59, 3) := by decide +kernel
theorem dX6_makes_55 : decode cX6_makes 55 = .ok (.iload_n 2, 1) := by decide +kernel
theorem dX6_makes_56 : decode cX6_makes 56 = .ok (.if_icmp .ge 8, 3) := by decide +kernel
theorem dX6_makes_59 : decode cX6_makes 59 = .ok (.aload_n 0, 1) := by decide +kernel
theorem dX6_makes_60 : decode cX6_makes 60 = .ok (.invokevirtual 59, 3) := by decide +kernel
theorem dX6_makes_63 : decode cX6_makes 63 = .ok (.istore_n 2, 1) := by decide +kernel
theorem dX6_makes_64 : decode cX6_makes 64 = .ok (.aload_n 1, 1) := by decide +kernel
theorem dX6_makes_65 : decode cX6_makes 65 = .ok (.iconst 0, 1) := by decide +kernel
theorem dX6_makes_66 : decode cX6_makes 66 = .ok (.iaload, 1) := by decide +kernel
theorem dX6_makes_67 : decode cX6_makes 67 = .ok (.iload_n 2, 1) := by decide +kernel
theorem dX6_makes_68 : decode cX6_makes 68 = .ok (.if_icmp .ge 9, 3) := by decide +kernel
theorem dX6_makes_71 : decode cX6_makes 71 = .ok (.aload_n 1, 1) := by decide +kernel
theorem dX6_makes_72 : decode cX6_makes 72 = .ok (.iconst 0, 1) := by decide +kernel
theorem dX6_makes_73 : decode cX6_makes 73 = .ok (.iaload, 1) := by decide +kernel
theorem dX6_makes_74 : decode cX6_makes 74 = .ok (.goto 4, 3) := by decide +kernel
theorem dX6_makes_77 : decode cX6_makes 77 = .ok (.iload_n 2, 1) := by decide +kernel
theorem dX6_makes_78 : decode cX6_makes 78 = .ok (.ireturn, 1) := by decide +kernel
theorem dX6_worth_0 : decode cX6_worth 0 = .ok (.iload_n 0, 1) := by decide +kernel
theorem dX6_worth_1 : decode cX6_worth 1 = .ok (.iconst 2, 1) := by decide +kernel
theorem dX6_worth_2 : decode cX6_worth 2 = .ok (.if_icmp .ne 7, 3) := by decide +kernel
theorem dX6_worth_5 : decode cX6_worth 5 = .ok (.iconst 3, 1) := by decide +kernel
theorem dX6_worth_6 : decode cX6_worth 6 = .ok (.goto 9, 3) := by decide +kernel
theorem dX6_worth_9 : decode cX6_worth 9 = .ok (.bipush 12, 2) := by decide +kernel
theorem dX6_worth_11 : decode cX6_worth 11 = .ok (.iconst 5, 1) := by decide +kernel
theorem dX6_worth_12 : decode cX6_worth 12 = .ok (.iload_n 0, 1) := by decide +kernel
theorem dX6_worth_13 : decode cX6_worth 13 = .ok (.imul, 1) := by decide +kernel
theorem dX6_worth_14 : decode cX6_worth 14 = .ok (.isub, 1) := by decide +kernel
theorem dX6_worth_15 : decode cX6_worth 15 = .ok (.ireturn, 1) := by decide +kernel
set_option maxRecDepth 20000 in
theorem ggX6_pass_X6_makes : GoodIn wsX6_pass wsX6_makes := goodIn_r _ [20, 1, 9, 21, 22, 23, 19, 24, 25, 10, 32, 33, 34, 35, 36, 37, 38, 39, 40, 41, 42, 43] (by decide +kernel) (by decide +kernel)
set_option maxRecDepth 20000 in
theorem gX6_pass_X6_makes : GoodIn wsX6_pass (wsV RX6 69 RX6 yX6_makes wsX6_makes) := goodIn_app (goodIn_of _ (by decide +kernel)) ggX6_pass_X6_makes
set_option maxRecDepth 20000 in
theorem ggX6_pass_X6_more : GoodIn wsX6_pass wsX6_more := goodIn_r _ [28, 15] (by decide +kernel) (by decide +kernel)
set_option maxRecDepth 20000 in
theorem gX6_pass_X6_more : GoodIn wsX6_pass (va_wsS RX6 73 yX6_more wsX6_more) := goodIn_app (goodIn_of _ (by decide +kernel)) ggX6_pass_X6_more
set_option maxRecDepth 20000 in
theorem ggX6_pass_X6_worth : GoodIn wsX6_pass wsX6_worth := goodIn_r _ [31] (by decide +kernel) (by decide +kernel)
set_option maxRecDepth 20000 in
theorem gX6_pass_X6_worth : GoodIn wsX6_pass (va_wsS RX6 77 yX6_worth wsX6_worth) := goodIn_app (goodIn_of _ (by decide +kernel)) ggX6_pass_X6_worth
theorem dX6_pass_0 : decode cX6_pass 0 = .ok (.iconst 0, 1) := by decide +kernel
theorem dX6_pass_1 : decode cX6_pass 1 = .ok (.istore_n 1, 1) := by decide +kernel
theorem dX6_pass_2 : decode cX6_pass 2 = .ok (.aload_n 0, 1) := by decide +kernel
theorem dX6_pass_3 : decode cX6_pass 3 = .ok (.getfield 24, 3) := by decide +kernel
theorem dX6_pass_6 : decode cX6_pass 6 = .ok (.astore_n 2, 1) := by decide +kernel
theorem dX6_pass_7 : decode cX6_pass 7 = .ok (.aload_n 2, 1) := by decide +kernel
theorem dX6_pass_8 : decode cX6_pass 8 = .ok (.arraylength, 1) := by decide +kernel
theorem dX6_pass_9 : decode cX6_pass 9 = .ok (.istore_n 3, 1) := by decide +kernel
theorem dX6_pass_10 : decode cX6_pass 10 = .ok (.iconst 0, 1) := by decide +kernel
theorem dX6_pass_11 : decode cX6_pass 11 = .ok (.istore 4, 2) := by decide +kernel
theorem dX6_pass_13 : decode cX6_pass 13 = .ok (.iload 4, 2) := by decide +kernel
theorem dX6_pass_15 : decode cX6_pass 15 = .ok (.iload_n 3, 1) := by decide +kernel
theorem dX6_pass_16 : decode cX6_pass 16 = .ok (.if_icmp .ge 30, 3) := by decide +kernel
theorem dX6_pass_19 : decode cX6_pass 19 = .ok (.aload_n 2, 1) := by decide +kernel
theorem dX6_pass_20 : decode cX6_pass 20 = .ok (.iload 4, 2) := by decide +kernel
theorem dX6_pass_22 : decode cX6_pass 22 = .ok (.aaload, 1) := by decide +kernel
theorem dX6_pass_23 : decode cX6_pass 23 = .ok (.astore 5, 2) := by decide +kernel
theorem dX6_pass_25 : decode cX6_pass 25 = .ok (.iload_n 1, 1) := by decide +kernel
theorem dX6_pass_26 : decode cX6_pass 26 = .ok (.aload 5, 2) := by decide +kernel
theorem dX6_pass_28 : decode cX6_pass 28 = .ok (.iconst 0, 1) := by decide +kernel
theorem dX6_pass_29 : decode cX6_pass 29 = .ok (.iaload, 1) := by decide +kernel
theorem dX6_pass_30 : decode cX6_pass 30 = .ok (.ifCond .le 7, 3) := by decide +kernel
theorem dX6_pass_33 : decode cX6_pass 33 = .ok (.iconst 1, 1) := by decide +kernel
theorem dX6_pass_34 : decode cX6_pass 34 = .ok (.goto 4, 3) := by decide +kernel
theorem dX6_pass_37 : decode cX6_pass 37 = .ok (.iconst 0, 1) := by decide +kernel
theorem dX6_pass_38 : decode cX6_pass 38 = .ok (.iadd, 1) := by decide +kernel
theorem dX6_pass_39 : decode cX6_pass 39 = .ok (.istore_n 1, 1) := by decide +kernel
theorem dX6_pass_40 : decode cX6_pass 40 = .ok (.iinc 4 1, 3) := by decide +kernel
theorem dX6_pass_43 : decode cX6_pass 43 = .ok (.goto (-30), 3) := by decide +kernel
theorem dX6_pass_46 : decode cX6_pass 46 = .ok (.aload_n 0, 1) := by decide +kernel
theorem dX6_pass_47 : decode cX6_pass 47 = .ok (.getfield 24, 3) := by decide +kernel
theorem dX6_pass_50 : decode cX6_pass 50 = .ok (.astore_n 2, 1) := by decide +kernel
theorem dX6_pass_51 : decode cX6_pass 51 = .ok (.aload_n 2, 1) := by decide +kernel
theorem dX6_pass_52 : decode cX6_pass 52 = .ok (.arraylength, 1) := by decide +kernel
theorem dX6_pass_53 : decode cX6_pass 53 = .ok (.istore_n 3, 1) := by decide +kernel
theorem dX6_pass_54 : decode cX6_pass 54 = .ok (.iconst 0, 1) := by decide +kernel
theorem dX6_pass_55 : decode cX6_pass 55 = .ok (.istore 4, 2) := by decide +kernel
theorem dX6_pass_57 : decode cX6_pass 57 = .ok (.iload 4, 2) := by decide +kernel
theorem dX6_pass_59 : decode cX6_pass 59 = .ok (.iload_n 3, 1) := by decide +kernel
theorem dX6_pass_60 : decode cX6_pass 60 = .ok (.if_icmp .ge 52, 3) := by decide +kernel
theorem dX6_pass_63 : decode cX6_pass 63 = .ok (.aload_n 2, 1) := by decide +kernel
theorem dX6_pass_64 : decode cX6_pass 64 = .ok (.iload 4, 2) := by decide +kernel
theorem dX6_pass_66 : decode cX6_pass 66 = .ok (.aaload, 1) := by decide +kernel
theorem dX6_pass_67 : decode cX6_pass 67 = .ok (.astore 5, 2) := by decide +kernel
theorem dX6_pass_69 : decode cX6_pass 69 = .ok (.aload 5, 2) := by decide +kernel
theorem dX6_pass_71 : decode cX6_pass 71 = .ok (.iconst 0, 1) := by decide +kernel
theorem dX6_pass_72 : decode cX6_pass 72 = .ok (.iaload, 1) := by decide +kernel
theorem dX6_pass_73 : decode cX6_pass 73 = .ok (.ifCond .le 33, 3) := by decide +kernel
theorem dX6_pass_76 : decode cX6_pass 76 = .ok (.aload 5, 2) := by decide +kernel
theorem dX6_pass_78 : decode cX6_pass 78 = .ok (.iconst 1, 1) := by decide +kernel
theorem dX6_pass_79 : decode cX6_pass 79 = .ok (.bipush 99, 2) := by decide +kernel
theorem dX6_pass_81 : decode cX6_pass 81 = .ok (.aload 5, 2) := by decide +kernel
theorem dX6_pass_83 : decode cX6_pass 83 = .ok (.iconst 1, 1) := by decide +kernel
theorem dX6_pass_84 : decode cX6_pass 84 = .ok (.iaload, 1) := by decide +kernel
theorem dX6_pass_85 : decode cX6_pass 85 = .ok (.aload_n 0, 1) := by decide +kernel
theorem dX6_pass_86 : decode cX6_pass 86 = .ok (.getfield 16, 3) := by decide +kernel
theorem dX6_pass_89 : decode cX6_pass 89 = .ok (.aload_n 0, 1) := by decide +kernel
theorem dX6_pass_90 : decode cX6_pass 90 = .ok (.getfield 46, 3) := by decide +kernel
theorem dX6_pass_93 : decode cX6_pass 93 = .ok (.bipush 7, 2) := by decide +kernel
theorem dX6_pass_95 : decode cX6_pass 95 = .ok (.irem, 1) := by decide +kernel
theorem dX6_pass_96 : decode cX6_pass 96 = .ok (.iaload, 1) := by decide +kernel
theorem dX6_pass_97 : decode cX6_pass 97 = .ok (.iconst 3, 1) := by decide +kernel
theorem dX6_pass_98 : decode cX6_pass 98 = .ok (.imul, 1) := by decide +kernel
theorem dX6_pass_99 : decode cX6_pass 99 = .ok (.iload_n 1, 1) := by decide +kernel
theorem dX6_pass_100 : decode cX6_pass 100 = .ok (.idiv, 1) := by decide +kernel
theorem dX6_pass_101 : decode cX6_pass 101 = .ok (.iadd, 1) := by decide +kernel
theorem dX6_pass_102 : decode cX6_pass 102 = .ok (.invokestatic 63, 3) := by decide +kernel
theorem dX6_pass_105 : decode cX6_pass 105 = .ok (.iastore, 1) := by decide +kernel
theorem dX6_pass_106 : decode cX6_pass 106 = .ok (.iinc 4 1, 3) := by decide +kernel
theorem dX6_pass_109 : decode cX6_pass 109 = .ok (.goto (-52), 3) := by decide +kernel
theorem dX6_pass_112 : decode cX6_pass 112 = .ok (.iconst 0, 1) := by decide +kernel
theorem dX6_pass_113 : decode cX6_pass 113 = .ok (.istore_n 2, 1) := by decide +kernel
theorem dX6_pass_114 : decode cX6_pass 114 = .ok (.aload_n 0, 1) := by decide +kernel
theorem dX6_pass_115 : decode cX6_pass 115 = .ok (.getfield 31, 3) := by decide +kernel
theorem dX6_pass_118 : decode cX6_pass 118 = .ok (.astore_n 3, 1) := by decide +kernel
theorem dX6_pass_119 : decode cX6_pass 119 = .ok (.aload_n 3, 1) := by decide +kernel
theorem dX6_pass_120 : decode cX6_pass 120 = .ok (.arraylength, 1) := by decide +kernel
theorem dX6_pass_121 : decode cX6_pass 121 = .ok (.istore 4, 2) := by decide +kernel
theorem dX6_pass_123 : decode cX6_pass 123 = .ok (.iconst 0, 1) := by decide +kernel
theorem dX6_pass_124 : decode cX6_pass 124 = .ok (.istore 5, 2) := by decide +kernel
theorem dX6_pass_126 : decode cX6_pass 126 = .ok (.iload 5, 2) := by decide +kernel
theorem dX6_pass_128 : decode cX6_pass 128 = .ok (.iload 4, 2) := by decide +kernel
theorem dX6_pass_130 : decode cX6_pass 130 = .ok (.if_icmp .ge 212, 3) := by decide +kernel
theorem dX6_pass_133 : decode cX6_pass 133 = .ok (.aload_n 3, 1) := by decide +kernel
theorem dX6_pass_134 : decode cX6_pass 134 = .ok (.iload 5, 2) := by decide +kernel
theorem dX6_pass_136 : decode cX6_pass 136 = .ok (.aaload, 1) := by decide +kernel
theorem dX6_pass_137 : decode cX6_pass 137 = .ok (.astore 6, 2) := by decide +kernel
theorem dX6_pass_139 : decode cX6_pass 139 = .ok (.aload_n 0, 1) := by decide +kernel
theorem dX6_pass_140 : decode cX6_pass 140 = .ok (.aload 6, 2) := by decide +kernel
theorem dX6_pass_142 : decode cX6_pass 142 = .ok (.invokevirtual 69, 3) := by decide +kernel
theorem dX6_pass_145 : decode cX6_pass 145 = .ok (.istore 7, 2) := by decide +kernel
theorem dX6_pass_147 : decode cX6_pass 147 = .ok (.iload 7, 2) := by decide +kernel
theorem dX6_pass_149 : decode cX6_pass 149 = .ok (.ifCond .ne 6, 3) := by decide +kernel
theorem dX6_pass_152 : decode cX6_pass 152 = .ok (.goto 184, 3) := by decide +kernel
theorem dX6_pass_155 : decode cX6_pass 155 = .ok (.aload_n 0, 1) := by decide +kernel
theorem dX6_pass_156 : decode cX6_pass 156 = .ok (.getfield 24, 3) := by decide +kernel
theorem dX6_pass_159 : decode cX6_pass 159 = .ok (.aload 6, 2) := by decide +kernel
theorem dX6_pass_161 : decode cX6_pass 161 = .ok (.iconst 1, 1) := by decide +kernel
theorem dX6_pass_162 : decode cX6_pass 162 = .ok (.iaload, 1) := by decide +kernel
theorem dX6_pass_163 : decode cX6_pass 163 = .ok (.aaload, 1) := by decide +kernel
theorem dX6_pass_164 : decode cX6_pass 164 = .ok (.astore 8, 2) := by decide +kernel
theorem dX6_pass_166 : decode cX6_pass 166 = .ok (.aload_n 0, 1) := by decide +kernel
theorem dX6_pass_167 : decode cX6_pass 167 = .ok (.getfield 28, 3) := by decide +kernel
theorem dX6_pass_170 : decode cX6_pass 170 = .ok (.aload 6, 2) := by decide +kernel
theorem dX6_pass_172 : decode cX6_pass 172 = .ok (.iconst 2, 1) := by decide +kernel
theorem dX6_pass_173 : decode cX6_pass 173 = .ok (.iaload, 1) := by decide +kernel
theorem dX6_pass_174 : decode cX6_pass 174 = .ok (.aaload, 1) := by decide +kernel
theorem dX6_pass_175 : decode cX6_pass 175 = .ok (.astore 9, 2) := by decide +kernel
theorem dX6_pass_177 : decode cX6_pass 177 = .ok (.aload 8, 2) := by decide +kernel
theorem dX6_pass_179 : decode cX6_pass 179 = .ok (.iconst 1, 1) := by decide +kernel
theorem dX6_pass_180 : decode cX6_pass 180 = .ok (.iaload, 1) := by decide +kernel
theorem dX6_pass_181 : decode cX6_pass 181 = .ok (.bipush 10, 2) := by decide +kernel
theorem dX6_pass_183 : decode cX6_pass 183 = .ok (.idiv, 1) := by decide +kernel
theorem dX6_pass_184 : decode cX6_pass 184 = .ok (.bipush 6, 2) := by decide +kernel
theorem dX6_pass_186 : decode cX6_pass 186 = .ok (.iadd, 1) := by decide +kernel
theorem dX6_pass_187 : decode cX6_pass 187 = .ok (.iconst 3, 1) := by decide +kernel
theorem dX6_pass_188 : decode cX6_pass 188 = .ok (.aload 8, 2) := by decide +kernel
theorem dX6_pass_190 : decode cX6_pass 190 = .ok (.iconst 2, 1) := by decide +kernel
theorem dX6_pass_191 : decode cX6_pass 191 = .ok (.iaload, 1) := by decide +kernel
theorem dX6_pass_192 : decode cX6_pass 192 = .ok (.imul, 1) := by decide +kernel
theorem dX6_pass_193 : decode cX6_pass 193 = .ok (.isub, 1) := by decide +kernel
theorem dX6_pass_194 : decode cX6_pass 194 = .ok (.aload 9, 2) := by decide +kernel
theorem dX6_pass_196 : decode cX6_pass 196 = .ok (.iconst 2, 1) := by decide +kernel
theorem dX6_pass_197 : decode cX6_pass 197 = .ok (.iaload, 1) := by decide +kernel
theorem dX6_pass_198 : decode cX6_pass 198 = .ok (.bipush 10, 2) := by decide +kernel
theorem dX6_pass_200 : decode cX6_pass 200 = .ok (.idiv, 1) := by decide +kernel
theorem dX6_pass_201 : decode cX6_pass 201 = .ok (.isub, 1) := by decide +kernel
theorem dX6_pass_202 : decode cX6_pass 202 = .ok (.istore 10, 2) := by decide +kernel
theorem dX6_pass_204 : decode cX6_pass 204 = .ok (.iload 10, 2) := by decide +kernel
theorem dX6_pass_206 : decode cX6_pass 206 = .ok (.bipush 7, 2) := by decide +kernel
theorem dX6_pass_208 : decode cX6_pass 208 = .ok (.if_icmp .ge 7, 3) := by decide +kernel
theorem dX6_pass_211 : decode cX6_pass 211 = .ok (.iconst 2, 1) := by decide +kernel
theorem dX6_pass_212 : decode cX6_pass 212 = .ok (.goto 15, 3) := by decide +kernel
theorem dX6_pass_215 : decode cX6_pass 215 = .ok (.iload 10, 2) := by decide +kernel
theorem dX6_pass_217 : decode cX6_pass 217 = .ok (.bipush 12, 2) := by decide +kernel
theorem dX6_pass_219 : decode cX6_pass 219 = .ok (.if_icmp .ge 7, 3) := by decide +kernel
theorem dX6_pass_222 : decode cX6_pass 222 = .ok (.iconst 1, 1) := by decide +kernel
theorem dX6_pass_223 : decode cX6_pass 223 = .ok (.goto 4, 3) := by decide +kernel
theorem dX6_pass_226 : decode cX6_pass 226 = .ok (.iconst 0, 1) := by decide +kernel
theorem dX6_pass_227 : decode cX6_pass 227 = .ok (.istore 11, 2) := by decide +kernel
theorem dX6_pass_229 : decode cX6_pass 229 = .ok (.aload_n 0, 1) := by decide +kernel
theorem dX6_pass_230 : decode cX6_pass 230 = .ok (.aload_n 0, 1) := by decide +kernel
theorem dX6_pass_231 : decode cX6_pass 231 = .ok (.getfield 34, 3) := by decide +kernel
theorem dX6_pass_234 : decode cX6_pass 234 = .ok (.iconst 3, 1) := by decide +kernel
theorem dX6_pass_235 : decode cX6_pass 235 = .ok (.newarray .int, 2) := by decide +kernel
theorem dX6_pass_237 : decode cX6_pass 237 = .ok (.dup, 1) := by decide +kernel
theorem dX6_pass_238 : decode cX6_pass 238 = .ok (.iconst 0, 1) := by decide +kernel
theorem dX6_pass_239 : decode cX6_pass 239 = .ok (.aload 9, 2) := by decide +kernel
theorem dX6_pass_241 : decode cX6_pass 241 = .ok (.iconst 0, 1) := by decide +kernel
theorem dX6_pass_242 : decode cX6_pass 242 = .ok (.iaload, 1) := by decide +kernel
theorem dX6_pass_243 : decode cX6_pass 243 = .ok (.iastore, 1) := by decide +kernel
theorem dX6_pass_244 : decode cX6_pass 244 = .ok (.dup, 1) := by decide +kernel
theorem dX6_pass_245 : decode cX6_pass 245 = .ok (.iconst 1, 1) := by decide +kernel
theorem dX6_pass_246 : decode cX6_pass 246 = .ok (.iload 11, 2) := by decide +kernel
theorem dX6_pass_248 : decode cX6_pass 248 = .ok (.iastore, 1) := by decide +kernel
theorem dX6_pass_249 : decode cX6_pass 249 = .ok (.dup, 1) := by decide +kernel
theorem dX6_pass_250 : decode cX6_pass 250 = .ok (.iconst 2, 1) := by decide +kernel
theorem dX6_pass_251 : decode cX6_pass 251 = .ok (.iload 7, 2) := by decide +kernel
theorem dX6_pass_253 : decode cX6_pass 253 = .ok (.iastore, 1) := by decide +kernel
theorem dX6_pass_254 : decode cX6_pass 254 = .ok (.invokestatic 73, 3) := by decide +kernel
theorem dX6_pass_257 : decode cX6_pass 257 = .ok (.putfield 34, 3) := by decide +kernel
theorem dX6_pass_260 : decode cX6_pass 260 = .ok (.aload 8, 2) := by decide +kernel
theorem dX6_pass_262 : decode cX6_pass 262 = .ok (.iconst 0, 1) := by decide +kernel
theorem dX6_pass_263 : decode cX6_pass 263 = .ok (.dup2, 1) := by decide +kernel
theorem dX6_pass_264 : decode cX6_pass 264 = .ok (.iaload, 1) := by decide +kernel
theorem dX6_pass_265 : decode cX6_pass 265 = .ok (.iload 7, 2) := by decide +kernel
theorem dX6_pass_267 : decode cX6_pass 267 = .ok (.aload 9, 2) := by decide +kernel
theorem dX6_pass_269 : decode cX6_pass 269 = .ok (.iconst 1, 1) := by decide +kernel
theorem dX6_pass_270 : decode cX6_pass 270 = .ok (.iaload, 1) := by decide +kernel
theorem dX6_pass_271 : decode cX6_pass 271 = .ok (.imul, 1) := by decide +kernel
theorem dX6_pass_272 : decode cX6_pass 272 = .ok (.isub, 1) := by decide +kernel
theorem dX6_pass_273 : decode cX6_pass 273 = .ok (.iastore, 1) := by decide +kernel
theorem dX6_pass_274 : decode cX6_pass 274 = .ok (.aload 8, 2) := by decide +kernel
theorem dX6_pass_276 : decode cX6_pass 276 = .ok (.iconst 0, 1) := by decide +kernel
theorem dX6_pass_277 : decode cX6_pass 277 = .ok (.iaload, 1) := by decide +kernel
theorem dX6_pass_278 : decode cX6_pass 278 = .ok (.ifCond .ne 13, 3) := by decide +kernel
theorem dX6_pass_281 : decode cX6_pass 281 = .ok (.aload 8, 2) := by decide +kernel
theorem dX6_pass_283 : decode cX6_pass 283 = .ok (.iconst 1, 1) := by decide +kernel
theorem dX6_pass_284 : decode cX6_pass 284 = .ok (.iconst 0, 1) := by decide +kernel
theorem dX6_pass_285 : decode cX6_pass 285 = .ok (.iastore, 1) := by decide +kernel
theorem dX6_pass_286 : decode cX6_pass 286 = .ok (.aload 8, 2) := by decide +kernel
theorem dX6_pass_288 : decode cX6_pass 288 = .ok (.iconst 2, 1) := by decide +kernel
theorem dX6_pass_289 : decode cX6_pass 289 = .ok (.iconst (-1), 1) := by decide +kernel
theorem dX6_pass_290 : decode cX6_pass 290 = .ok (.iastore, 1) := by decide +kernel
theorem dX6_pass_291 : decode cX6_pass 291 = .ok (.aload 9, 2) := by decide +kernel
theorem dX6_pass_293 : decode cX6_pass 293 = .ok (.iconst 2, 1) := by decide +kernel
theorem dX6_pass_294 : decode cX6_pass 294 = .ok (.bipush 50, 2) := by decide +kernel
theorem dX6_pass_296 : decode cX6_pass 296 = .ok (.aload 9, 2) := by decide +kernel
theorem dX6_pass_298 : decode cX6_pass 298 = .ok (.iconst 2, 1) := by decide +kernel
theorem dX6_pass_299 : decode cX6_pass 299 = .ok (.iaload, 1) := by decide +kernel
theorem dX6_pass_300 : decode cX6_pass 300 = .ok (.iload 7, 2) := by decide +kernel
theorem dX6_pass_302 : decode cX6_pass 302 = .ok (.iconst 2, 1) := by decide +kernel
theorem dX6_pass_303 : decode cX6_pass 303 = .ok (.idiv, 1) := by decide +kernel
theorem dX6_pass_304 : decode cX6_pass 304 = .ok (.iadd, 1) := by decide +kernel
theorem dX6_pass_305 : decode cX6_pass 305 = .ok (.iload 7, 2) := by decide +kernel
theorem dX6_pass_307 : decode cX6_pass 307 = .ok (.iconst 2, 1) := by decide +kernel
theorem dX6_pass_308 : decode cX6_pass 308 = .ok (.irem, 1) := by decide +kernel
theorem dX6_pass_309 : decode cX6_pass 309 = .ok (.iadd, 1) := by decide +kernel
theorem dX6_pass_310 : decode cX6_pass 310 = .ok (.invokestatic 63, 3) := by decide +kernel
theorem dX6_pass_313 : decode cX6_pass 313 = .ok (.iastore, 1) := by decide +kernel
theorem dX6_pass_314 : decode cX6_pass 314 = .ok (.iload_n 2, 1) := by decide +kernel
theorem dX6_pass_315 : decode cX6_pass 315 = .ok (.iload 7, 2) := by decide +kernel
theorem dX6_pass_317 : decode cX6_pass 317 = .ok (.iadd, 1) := by decide +kernel
theorem dX6_pass_318 : decode cX6_pass 318 = .ok (.istore_n 2, 1) := by decide +kernel
theorem dX6_pass_319 : decode cX6_pass 319 = .ok (.aload_n 0, 1) := by decide +kernel
theorem dX6_pass_320 : decode cX6_pass 320 = .ok (.dup, 1) := by decide +kernel
theorem dX6_pass_321 : decode cX6_pass 321 = .ok (.getfield 52, 3) := by decide +kernel
theorem dX6_pass_324 : decode cX6_pass 324 = .ok (.iload 7, 2) := by decide +kernel
