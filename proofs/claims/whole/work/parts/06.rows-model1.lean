theorem dX6_init_0 : decode cX6_init 0 = .ok (.aload_n 0, 1) := by decide +kernel
theorem dX6_init_1 : decode cX6_init 1 = .ok (.invokespecial 1, 3) := by decide +kernel
theorem dX6_init_4 : decode cX6_init 4 = .ok (.aload_n 0, 1) := by decide +kernel
theorem dX6_init_5 : decode cX6_init 5 = .ok (.bipush 7, 2) := by decide +kernel
theorem dX6_init_7 : decode cX6_init 7 = .ok (.newarray .int, 2) := by decide +kernel
theorem dX6_init_9 : decode cX6_init 9 = .ok (.dup, 1) := by decide +kernel
theorem dX6_init_10 : decode cX6_init 10 = .ok (.iconst 0, 1) := by decide +kernel
theorem dX6_init_11 : decode cX6_init 11 = .ok (.iconst 4, 1) := by decide +kernel
theorem dX6_init_12 : decode cX6_init 12 = .ok (.iastore, 1) := by decide +kernel
theorem dX6_init_13 : decode cX6_init 13 = .ok (.dup, 1) := by decide +kernel
theorem dX6_init_14 : decode cX6_init 14 = .ok (.iconst 1, 1) := by decide +kernel
theorem dX6_init_15 : decode cX6_init 15 = .ok (.iconst 4, 1) := by decide +kernel
theorem dX6_init_16 : decode cX6_init 16 = .ok (.iastore, 1) := by decide +kernel
theorem dX6_init_17 : decode cX6_init 17 = .ok (.dup, 1) := by decide +kernel
theorem dX6_init_18 : decode cX6_init 18 = .ok (.iconst 2, 1) := by decide +kernel
theorem dX6_init_19 : decode cX6_init 19 = .ok (.iconst 4, 1) := by decide +kernel
theorem dX6_init_20 : decode cX6_init 20 = .ok (.iastore, 1) := by decide +kernel
theorem dX6_init_21 : decode cX6_init 21 = .ok (.dup, 1) := by decide +kernel
theorem dX6_init_22 : decode cX6_init 22 = .ok (.iconst 3, 1) := by decide +kernel
theorem dX6_init_23 : decode cX6_init 23 = .ok (.iconst 4, 1) := by decide +kernel
theorem dX6_init_24 : decode cX6_init 24 = .ok (.iastore, 1) := by decide +kernel
theorem dX6_init_25 : decode cX6_init 25 = .ok (.dup, 1) := by decide +kernel
theorem dX6_init_26 : decode cX6_init 26 = .ok (.iconst 4, 1) := by decide +kernel
theorem dX6_init_27 : decode cX6_init 27 = .ok (.iconst 4, 1) := by decide +kernel
theorem dX6_init_28 : decode cX6_init 28 = .ok (.iastore, 1) := by decide +kernel
theorem dX6_init_29 : decode cX6_init 29 = .ok (.dup, 1) := by decide +kernel
theorem dX6_init_30 : decode cX6_init 30 = .ok (.iconst 5, 1) := by decide +kernel
theorem dX6_init_31 : decode cX6_init 31 = .ok (.iconst 4, 1) := by decide +kernel
theorem dX6_init_32 : decode cX6_init 32 = .ok (.iastore, 1) := by decide +kernel
theorem dX6_init_33 : decode cX6_init 33 = .ok (.dup, 1) := by decide +kernel
theorem dX6_init_34 : decode cX6_init 34 = .ok (.bipush 6, 2) := by decide +kernel
theorem dX6_init_36 : decode cX6_init 36 = .ok (.iconst 4, 1) := by decide +kernel
theorem dX6_init_37 : decode cX6_init 37 = .ok (.iastore, 1) := by decide +kernel
theorem dX6_init_38 : decode cX6_init 38 = .ok (.putfield 7, 3) := by decide +kernel
theorem dX6_init_41 : decode cX6_init 41 = .ok (.aload_n 0, 1) := by decide +kernel
theorem dX6_init_42 : decode cX6_init 42 = .ok (.bipush 12, 2) := by decide +kernel
theorem dX6_init_44 : decode cX6_init 44 = .ok (.newarray .int, 2) := by decide +kernel
theorem dX6_init_46 : decode cX6_init 46 = .ok (.dup, 1) := by decide +kernel
theorem dX6_init_47 : decode cX6_init 47 = .ok (.iconst 0, 1) := by decide +kernel
theorem dX6_init_48 : decode cX6_init 48 = .ok (.iconst 0, 1) := by decide +kernel
theorem dX6_init_49 : decode cX6_init 49 = .ok (.iastore, 1) := by decide +kernel
theorem dX6_init_50 : decode cX6_init 50 = .ok (.dup, 1) := by decide +kernel
theorem dX6_init_51 : decode cX6_init 51 = .ok (.iconst 1, 1) := by decide +kernel
theorem dX6_init_52 : decode cX6_init 52 = .ok (.iconst 0, 1) := by decide +kernel
theorem dX6_init_53 : decode cX6_init 53 = .ok (.iastore, 1) := by decide +kernel
theorem dX6_init_54 : decode cX6_init 54 = .ok (.dup, 1) := by decide +kernel
theorem dX6_init_55 : decode cX6_init 55 = .ok (.iconst 2, 1) := by decide +kernel
theorem dX6_init_56 : decode cX6_init 56 = .ok (.iconst (-1), 1) := by decide +kernel
theorem dX6_init_57 : decode cX6_init 57 = .ok (.iastore, 1) := by decide +kernel
theorem dX6_init_58 : decode cX6_init 58 = .ok (.dup, 1) := by decide +kernel
theorem dX6_init_59 : decode cX6_init 59 = .ok (.iconst 3, 1) := by decide +kernel
theorem dX6_init_60 : decode cX6_init 60 = .ok (.iconst 0, 1) := by decide +kernel
theorem dX6_init_61 : decode cX6_init 61 = .ok (.iastore, 1) := by decide +kernel
theorem dX6_init_62 : decode cX6_init 62 = .ok (.dup, 1) := by decide +kernel
theorem dX6_init_63 : decode cX6_init 63 = .ok (.iconst 4, 1) := by decide +kernel
theorem dX6_init_64 : decode cX6_init 64 = .ok (.iconst 0, 1) := by decide +kernel
theorem dX6_init_65 : decode cX6_init 65 = .ok (.iastore, 1) := by decide +kernel
theorem dX6_init_66 : decode cX6_init 66 = .ok (.dup, 1) := by decide +kernel
theorem dX6_init_67 : decode cX6_init 67 = .ok (.iconst 5, 1) := by decide +kernel
theorem dX6_init_68 : decode cX6_init 68 = .ok (.iconst (-1), 1) := by decide +kernel
theorem dX6_init_69 : decode cX6_init 69 = .ok (.iastore, 1) := by decide +kernel
theorem dX6_init_70 : decode cX6_init 70 = .ok (.dup, 1) := by decide +kernel
theorem dX6_init_71 : decode cX6_init 71 = .ok (.bipush 6, 2) := by decide +kernel
theorem dX6_init_73 : decode cX6_init 73 = .ok (.iconst 0, 1) := by decide +kernel
theorem dX6_init_74 : decode cX6_init 74 = .ok (.iastore, 1) := by decide +kernel
theorem dX6_init_75 : decode cX6_init 75 = .ok (.dup, 1) := by decide +kernel
theorem dX6_init_76 : decode cX6_init 76 = .ok (.bipush 7, 2) := by decide +kernel
theorem dX6_init_78 : decode cX6_init 78 = .ok (.iconst 0, 1) := by decide +kernel
theorem dX6_init_79 : decode cX6_init 79 = .ok (.iastore, 1) := by decide +kernel
theorem dX6_init_80 : decode cX6_init 80 = .ok (.dup, 1) := by decide +kernel
theorem dX6_init_81 : decode cX6_init 81 = .ok (.bipush 8, 2) := by decide +kernel
theorem dX6_init_83 : decode cX6_init 83 = .ok (.iconst (-1), 1) := by decide +kernel
theorem dX6_init_84 : decode cX6_init 84 = .ok (.iastore, 1) := by decide +kernel
theorem dX6_init_85 : decode cX6_init 85 = .ok (.dup, 1) := by decide +kernel
theorem dX6_init_86 : decode cX6_init 86 = .ok (.bipush 9, 2) := by decide +kernel
theorem dX6_init_88 : decode cX6_init 88 = .ok (.iconst 0, 1) := by decide +kernel
theorem dX6_init_89 : decode cX6_init 89 = .ok (.iastore, 1) := by decide +kernel
theorem dX6_init_90 : decode cX6_init 90 = .ok (.dup, 1) := by decide +kernel
theorem dX6_init_91 : decode cX6_init 91 = .ok (.bipush 10, 2) := by decide +kernel
theorem dX6_init_93 : decode cX6_init 93 = .ok (.iconst 0, 1) := by decide +kernel
theorem dX6_init_94 : decode cX6_init 94 = .ok (.iastore, 1) := by decide +kernel
theorem dX6_init_95 : decode cX6_init 95 = .ok (.dup, 1) := by decide +kernel
theorem dX6_init_96 : decode cX6_init 96 = .ok (.bipush 11, 2) := by decide +kernel
theorem dX6_init_98 : decode cX6_init 98 = .ok (.iconst (-1), 1) := by decide +kernel
theorem dX6_init_99 : decode cX6_init 99 = .ok (.iastore, 1) := by decide +kernel
theorem dX6_init_100 : decode cX6_init 100 = .ok (.putfield 13, 3) := by decide +kernel
theorem dX6_init_103 : decode cX6_init 103 = .ok (.aload_n 0, 1) := by decide +kernel
theorem dX6_init_104 : decode cX6_init 104 = .ok (.bipush 15, 2) := by decide +kernel
theorem dX6_init_106 : decode cX6_init 106 = .ok (.newarray .int, 2) := by decide +kernel
theorem dX6_init_108 : decode cX6_init 108 = .ok (.putfield 16, 3) := by decide +kernel
theorem dX6_init_111 : decode cX6_init 111 = .ok (.aload_n 0, 1) := by decide +kernel
theorem dX6_init_112 : decode cX6_init 112 = .ok (.bipush 9, 2) := by decide +kernel
theorem dX6_init_114 : decode cX6_init 114 = .ok (.newarray .int, 2) := by decide +kernel
theorem dX6_init_116 : decode cX6_init 116 = .ok (.putfield 19, 3) := by decide +kernel
theorem dX6_init_119 : decode cX6_init 119 = .ok (.aload_n 0, 1) := by decide +kernel
theorem dX6_init_120 : decode cX6_init 120 = .ok (.sipush 270, 3) := by decide +kernel
theorem dX6_init_123 : decode cX6_init 123 = .ok (.newarray .int, 2) := by decide +kernel
theorem dX6_init_125 : decode cX6_init 125 = .ok (.putfield 22, 3) := by decide +kernel
theorem dX6_init_128 : decode cX6_init 128 = .ok (.aload_n 0, 1) := by decide +kernel
theorem dX6_init_129 : decode cX6_init 129 = .ok (.bipush 30, 2) := by decide +kernel
theorem dX6_init_131 : decode cX6_init 131 = .ok (.newarray .int, 2) := by decide +kernel
theorem dX6_init_133 : decode cX6_init 133 = .ok (.putfield 25, 3) := by decide +kernel
theorem dX6_init_136 : decode cX6_init 136 = .ok (.aload_n 0, 1) := by decide +kernel
theorem dX6_init_137 : decode cX6_init 137 = .ok (.bipush 9, 2) := by decide +kernel
theorem dX6_init_139 : decode cX6_init 139 = .ok (.newarray .int, 2) := by decide +kernel
theorem dX6_init_141 : decode cX6_init 141 = .ok (.dup, 1) := by decide +kernel
theorem dX6_init_142 : decode cX6_init 142 = .ok (.iconst 0, 1) := by decide +kernel
theorem dX6_init_143 : decode cX6_init 143 = .ok (.iconst 0, 1) := by decide +kernel
theorem dX6_init_144 : decode cX6_init 144 = .ok (.iastore, 1) := by decide +kernel
theorem dX6_init_145 : decode cX6_init 145 = .ok (.dup, 1) := by decide +kernel
theorem dX6_init_146 : decode cX6_init 146 = .ok (.iconst 1, 1) := by decide +kernel
theorem dX6_init_147 : decode cX6_init 147 = .ok (.bipush 40, 2) := by decide +kernel
theorem dX6_init_149 : decode cX6_init 149 = .ok (.iastore, 1) := by decide +kernel
theorem dX6_init_150 : decode cX6_init 150 = .ok (.dup, 1) := by decide +kernel
theorem dX6_init_151 : decode cX6_init 151 = .ok (.iconst 2, 1) := by decide +kernel
theorem dX6_init_152 : decode cX6_init 152 = .ok (.bipush 30, 2) := by decide +kernel
theorem dX6_init_154 : decode cX6_init 154 = .ok (.iastore, 1) := by decide +kernel
theorem dX6_init_155 : decode cX6_init 155 = .ok (.dup, 1) := by decide +kernel
theorem dX6_init_156 : decode cX6_init 156 = .ok (.iconst 3, 1) := by decide +kernel
theorem dX6_init_157 : decode cX6_init 157 = .ok (.iconst 0, 1) := by decide +kernel
theorem dX6_init_158 : decode cX6_init 158 = .ok (.iastore, 1) := by decide +kernel
theorem dX6_init_159 : decode cX6_init 159 = .ok (.dup, 1) := by decide +kernel
theorem dX6_init_160 : decode cX6_init 160 = .ok (.iconst 4, 1) := by decide +kernel
theorem dX6_init_161 : decode cX6_init 161 = .ok (.iconst 0, 1) := by decide +kernel
theorem dX6_init_162 : decode cX6_init 162 = .ok (.iastore, 1) := by decide +kernel
theorem dX6_init_163 : decode cX6_init 163 = .ok (.dup, 1) := by decide +kernel
theorem dX6_init_164 : decode cX6_init 164 = .ok (.iconst 5, 1) := by decide +kernel
theorem dX6_init_165 : decode cX6_init 165 = .ok (.iconst 0, 1) := by decide +kernel
theorem dX6_init_166 : decode cX6_init 166 = .ok (.iastore, 1) := by decide +kernel
theorem dX6_init_167 : decode cX6_init 167 = .ok (.dup, 1) := by decide +kernel
theorem dX6_init_168 : decode cX6_init 168 = .ok (.bipush 6, 2) := by decide +kernel
theorem dX6_init_170 : decode cX6_init 170 = .ok (.bipush 60, 2) := by decide +kernel
theorem dX6_init_172 : decode cX6_init 172 = .ok (.iastore, 1) := by decide +kernel
theorem dX6_init_173 : decode cX6_init 173 = .ok (.dup, 1) := by decide +kernel
theorem dX6_init_174 : decode cX6_init 174 = .ok (.bipush 7, 2) := by decide +kernel
theorem dX6_init_176 : decode cX6_init 176 = .ok (.bipush 60, 2) := by decide +kernel
theorem dX6_init_178 : decode cX6_init 178 = .ok (.iastore, 1) := by decide +kernel
theorem dX6_init_179 : decode cX6_init 179 = .ok (.dup, 1) := by decide +kernel
theorem dX6_init_180 : decode cX6_init 180 = .ok (.bipush 8, 2) := by decide +kernel
theorem dX6_init_182 : decode cX6_init 182 = .ok (.bipush 60, 2) := by decide +kernel
theorem dX6_init_184 : decode cX6_init 184 = .ok (.iastore, 1) := by decide +kernel
theorem dX6_init_185 : decode cX6_init 185 = .ok (.putfield 28, 3) := by decide +kernel
theorem dX6_init_188 : decode cX6_init 188 = .ok (.return_, 1) := by decide +kernel
theorem dX6_thrown_0 : decode cX6_thrown 0 = .ok (.aload_n 0, 1) := by decide +kernel
theorem dX6_thrown_1 : decode cX6_thrown 1 = .ok (.getfield 31, 3) := by decide +kernel
theorem dX6_thrown_4 : decode cX6_thrown 4 = .ok (.ireturn, 1) := by decide +kernel
theorem dX6_fail_0 : decode cX6_fail 0 = .ok (.aload_n 0, 1) := by decide +kernel
theorem dX6_fail_1 : decode cX6_fail 1 = .ok (.iload_n 1, 1) := by decide +kernel
theorem dX6_fail_2 : decode cX6_fail 2 = .ok (.putfield 31, 3) := by decide +kernel
theorem dX6_fail_5 : decode cX6_fail 5 = .ok (.iconst 0, 1) := by decide +kernel
theorem dX6_fail_6 : decode cX6_fail 6 = .ok (.ireturn, 1) := by decide +kernel
theorem dX6_isIn_0 : decode cX6_isIn 0 = .ok (.iload_n 0, 1) := by decide +kernel
theorem dX6_isIn_1 : decode cX6_isIn 1 = .ok (.iload_n 1, 1) := by decide +kernel
theorem dX6_isIn_2 : decode cX6_isIn 2 = .ok (.if_icmp .lt 12, 3) := by decide +kernel
theorem dX6_isIn_5 : decode cX6_isIn 5 = .ok (.iload_n 0, 1) := by decide +kernel
theorem dX6_isIn_6 : decode cX6_isIn 6 = .ok (.iload_n 2, 1) := by decide +kernel
theorem dX6_isIn_7 : decode cX6_isIn 7 = .ok (.if_icmp .gt 7, 3) := by decide +kernel
theorem dX6_isIn_10 : decode cX6_isIn 10 = .ok (.iconst 1, 1) := by decide +kernel
theorem dX6_isIn_11 : decode cX6_isIn 11 = .ok (.goto 4, 3) := by decide +kernel
theorem dX6_isIn_14 : decode cX6_isIn 14 = .ok (.iconst 0, 1) := by decide +kernel
theorem dX6_isIn_15 : decode cX6_isIn 15 = .ok (.ireturn, 1) := by decide +kernel
set_option maxRecDepth 20000 in
theorem ggX6_isVat_X6_isIn : GoodIn wsX6_isVat wsX6_isIn := goodIn_r _ [4] (by decide +kernel) (by decide +kernel)
set_option maxRecDepth 20000 in
theorem gX6_isVat_X6_isIn : GoodIn wsX6_isVat (va_wsS RX6 35 yX6_isIn wsX6_isIn) := goodIn_app (goodIn_of _ (by decide +kernel)) ggX6_isVat_X6_isIn
theorem dX6_isVat_0 : decode cX6_isVat 0 = .ok (.iload_n 0, 1) := by decide +kernel
theorem dX6_isVat_1 : decode cX6_isVat 1 = .ok (.iconst 0, 1) := by decide +kernel
theorem dX6_isVat_2 : decode cX6_isVat 2 = .ok (.iconst 3, 1) := by decide +kernel
theorem dX6_isVat_3 : decode cX6_isVat 3 = .ok (.invokestatic 35, 3) := by decide +kernel
theorem dX6_isVat_6 : decode cX6_isVat 6 = .ok (.ireturn, 1) := by decide +kernel
set_option maxRecDepth 20000 in
theorem ggX6_isPair_X6_isIn : GoodIn wsX6_isPair wsX6_isIn := goodIn_r _ [5] (by decide +kernel) (by decide +kernel)
set_option maxRecDepth 20000 in
theorem gX6_isPair_X6_isIn : GoodIn wsX6_isPair (va_wsS RX6 35 yX6_isIn wsX6_isIn) := goodIn_app (goodIn_of _ (by decide +kernel)) ggX6_isPair_X6_isIn
theorem dX6_isPair_0 : decode cX6_isPair 0 = .ok (.iload_n 1, 1) := by decide +kernel
theorem dX6_isPair_1 : decode cX6_isPair 1 = .ok (.iconst 0, 1) := by decide +kernel
theorem dX6_isPair_2 : decode cX6_isPair 2 = .ok (.aload_n 0, 1) := by decide +kernel
theorem dX6_isPair_3 : decode cX6_isPair 3 = .ok (.getfield 39, 3) := by decide +kernel
theorem dX6_isPair_6 : decode cX6_isPair 6 = .ok (.iconst 1, 1) := by decide +kernel
theorem dX6_isPair_7 : decode cX6_isPair 7 = .ok (.isub, 1) := by decide +kernel
theorem dX6_isPair_8 : decode cX6_isPair 8 = .ok (.invokestatic 35, 3) := by decide +kernel
theorem dX6_isPair_11 : decode cX6_isPair 11 = .ok (.ireturn, 1) := by decide +kernel
set_option maxRecDepth 20000 in
theorem ggX6_isTeam_X6_isIn : GoodIn wsX6_isTeam wsX6_isIn := goodIn_r _ [5] (by decide +kernel) (by decide +kernel)
set_option maxRecDepth 20000 in
theorem gX6_isTeam_X6_isIn : GoodIn wsX6_isTeam (va_wsS RX6 35 yX6_isIn wsX6_isIn) := goodIn_app (goodIn_of _ (by decide +kernel)) ggX6_isTeam_X6_isIn
theorem dX6_isTeam_0 : decode cX6_isTeam 0 = .ok (.iload_n 1, 1) := by decide +kernel
theorem dX6_isTeam_1 : decode cX6_isTeam 1 = .ok (.iconst 0, 1) := by decide +kernel
theorem dX6_isTeam_2 : decode cX6_isTeam 2 = .ok (.aload_n 0, 1) := by decide +kernel
theorem dX6_isTeam_3 : decode cX6_isTeam 3 = .ok (.getfield 42, 3) := by decide +kernel
theorem dX6_isTeam_6 : decode cX6_isTeam 6 = .ok (.iconst 1, 1) := by decide +kernel
theorem dX6_isTeam_7 : decode cX6_isTeam 7 = .ok (.isub, 1) := by decide +kernel
theorem dX6_isTeam_8 : decode cX6_isTeam 8 = .ok (.invokestatic 35, 3) := by decide +kernel
theorem dX6_isTeam_11 : decode cX6_isTeam 11 = .ok (.ireturn, 1) := by decide +kernel
theorem dX6_va_0 : decode cX6_va 0 = .ok (.aload_n 0, 1) := by decide +kernel
theorem dX6_va_1 : decode cX6_va 1 = .ok (.getfield 13, 3) := by decide +kernel
theorem dX6_va_4 : decode cX6_va 4 = .ok (.iconst 3, 1) := by decide +kernel
theorem dX6_va_5 : decode cX6_va 5 = .ok (.iload_n 1, 1) := by decide +kernel
theorem dX6_va_6 : decode cX6_va 6 = .ok (.imul, 1) := by decide +kernel
theorem dX6_va_7 : decode cX6_va 7 = .ok (.iload_n 2, 1) := by decide +kernel
theorem dX6_va_8 : decode cX6_va 8 = .ok (.iadd, 1) := by decide +kernel
theorem dX6_va_9 : decode cX6_va 9 = .ok (.iaload, 1) := by decide +kernel
theorem dX6_va_10 : decode cX6_va 10 = .ok (.ireturn, 1) := by decide +kernel
theorem dX6_mo_0 : decode cX6_mo 0 = .ok (.aload_n 0, 1) := by decide +kernel
theorem dX6_mo_1 : decode cX6_mo 1 = .ok (.getfield 16, 3) := by decide +kernel
theorem dX6_mo_4 : decode cX6_mo 4 = .ok (.iconst 3, 1) := by decide +kernel
theorem dX6_mo_5 : decode cX6_mo 5 = .ok (.iload_n 1, 1) := by decide +kernel
theorem dX6_mo_6 : decode cX6_mo 6 = .ok (.imul, 1) := by decide +kernel
theorem dX6_mo_7 : decode cX6_mo 7 = .ok (.iload_n 2, 1) := by decide +kernel
theorem dX6_mo_8 : decode cX6_mo 8 = .ok (.iadd, 1) := by decide +kernel
theorem dX6_mo_9 : decode cX6_mo 9 = .ok (.iaload, 1) := by decide +kernel
theorem dX6_mo_10 : decode cX6_mo 10 = .ok (.ireturn, 1) := by decide +kernel
theorem dX6_cr_0 : decode cX6_cr 0 = .ok (.aload_n 0, 1) := by decide +kernel
theorem dX6_cr_1 : decode cX6_cr 1 = .ok (.getfield 19, 3) := by decide +kernel
theorem dX6_cr_4 : decode cX6_cr 4 = .ok (.iconst 3, 1) := by decide +kernel
theorem dX6_cr_5 : decode cX6_cr 5 = .ok (.iload_n 1, 1) := by decide +kernel
theorem dX6_cr_6 : decode cX6_cr 6 = .ok (.imul, 1) := by decide +kernel
theorem dX6_cr_7 : decode cX6_cr 7 = .ok (.iload_n 2, 1) := by decide +kernel
theorem dX6_cr_8 : decode cX6_cr 8 = .ok (.iadd, 1) := by decide +kernel
theorem dX6_cr_9 : decode cX6_cr 9 = .ok (.iaload, 1) := by decide +kernel
theorem dX6_cr_10 : decode cX6_cr 10 = .ok (.ireturn, 1) := by decide +kernel
theorem dX6_ps_0 : decode cX6_ps 0 = .ok (.aload_n 0, 1) := by decide +kernel
theorem dX6_ps_1 : decode cX6_ps 1 = .ok (.getfield 22, 3) := by decide +kernel
theorem dX6_ps_4 : decode cX6_ps 4 = .ok (.iconst 3, 1) := by decide +kernel
theorem dX6_ps_5 : decode cX6_ps 5 = .ok (.iload_n 1, 1) := by decide +kernel
theorem dX6_ps_6 : decode cX6_ps 6 = .ok (.imul, 1) := by decide +kernel
theorem dX6_ps_7 : decode cX6_ps 7 = .ok (.iload_n 2, 1) := by decide +kernel
theorem dX6_ps_8 : decode cX6_ps 8 = .ok (.iadd, 1) := by decide +kernel
theorem dX6_ps_9 : decode cX6_ps 9 = .ok (.iaload, 1) := by decide +kernel
theorem dX6_ps_10 : decode cX6_ps 10 = .ok (.ireturn, 1) := by decide +kernel
theorem dX6_let_0 : decode cX6_let 0 = .ok (.aload_n 0, 1) := by decide +kernel
theorem dX6_let_1 : decode cX6_let 1 = .ok (.getfield 13, 3) := by decide +kernel
theorem dX6_let_4 : decode cX6_let 4 = .ok (.iconst 3, 1) := by decide +kernel
theorem dX6_let_5 : decode cX6_let 5 = .ok (.iload_n 1, 1) := by decide +kernel
theorem dX6_let_6 : decode cX6_let 6 = .ok (.imul, 1) := by decide +kernel
theorem dX6_let_7 : decode cX6_let 7 = .ok (.iconst 0, 1) := by decide +kernel
theorem dX6_let_8 : decode cX6_let 8 = .ok (.iadd, 1) := by decide +kernel
theorem dX6_let_9 : decode cX6_let 9 = .ok (.iload_n 2, 1) := by decide +kernel
theorem dX6_let_10 : decode cX6_let 10 = .ok (.iastore, 1) := by decide +kernel
theorem dX6_let_11 : decode cX6_let 11 = .ok (.aload_n 0, 1) := by decide +kernel
theorem dX6_let_12 : decode cX6_let 12 = .ok (.getfield 13, 3) := by decide +kernel
theorem dX6_let_15 : decode cX6_let 15 = .ok (.iconst 3, 1) := by decide +kernel
theorem dX6_let_16 : decode cX6_let 16 = .ok (.iload_n 1, 1) := by decide +kernel
theorem dX6_let_17 : decode cX6_let 17 = .ok (.imul, 1) := by decide +kernel
theorem dX6_let_18 : decode cX6_let 18 = .ok (.iconst 1, 1) := by decide +kernel
theorem dX6_let_19 : decode cX6_let 19 = .ok (.iadd, 1) := by decide +kernel
theorem dX6_let_20 : decode cX6_let 20 = .ok (.iload_n 2, 1) := by decide +kernel
theorem dX6_let_21 : decode cX6_let 21 = .ok (.ifCond .ne 7, 3) := by decide +kernel
theorem dX6_let_24 : decode cX6_let 24 = .ok (.iconst 0, 1) := by decide +kernel
theorem dX6_let_25 : decode cX6_let 25 = .ok (.goto 4, 3) := by decide +kernel
theorem dX6_let_28 : decode cX6_let 28 = .ok (.iload_n 3, 1) := by decide +kernel
theorem dX6_let_29 : decode cX6_let 29 = .ok (.iastore, 1) := by decide +kernel
theorem dX6_let_30 : decode cX6_let 30 = .ok (.aload_n 0, 1) := by decide +kernel
theorem dX6_let_31 : decode cX6_let 31 = .ok (.getfield 13, 3) := by decide +kernel
theorem dX6_let_34 : decode cX6_let 34 = .ok (.iconst 3, 1) := by decide +kernel
theorem dX6_let_35 : decode cX6_let 35 = .ok (.iload_n 1, 1) := by decide +kernel
theorem dX6_let_36 : decode cX6_let 36 = .ok (.imul, 1) := by decide +kernel
theorem dX6_let_37 : decode cX6_let 37 = .ok (.iconst 2, 1) := by decide +kernel
theorem dX6_let_38 : decode cX6_let 38 = .ok (.iadd, 1) := by decide +kernel
theorem dX6_let_39 : decode cX6_let 39 = .ok (.iload_n 2, 1) := by decide +kernel
theorem dX6_let_40 : decode cX6_let 40 = .ok (.ifCond .ne 7, 3) := by decide +kernel
theorem dX6_let_43 : decode cX6_let 43 = .ok (.iconst (-1), 1) := by decide +kernel
theorem dX6_let_44 : decode cX6_let 44 = .ok (.goto 5, 3) := by decide +kernel
theorem dX6_let_47 : decode cX6_let 47 = .ok (.iload 4, 2) := by decide +kernel
theorem dX6_let_49 : decode cX6_let 49 = .ok (.iastore, 1) := by decide +kernel
theorem dX6_let_50 : decode cX6_let 50 = .ok (.return_, 1) := by decide +kernel
set_option maxRecDepth 20000 in
theorem ggX6_onFelts_X6_ps : GoodIn wsX6_onFelts wsX6_ps := goodIn_r _ [6, 7, 8, 9, 10, 11, 12, 13, 14, 15, 16, 17] (by decide +kernel) (by decide +kernel)
set_option maxRecDepth 20000 in
theorem gX6_onFelts_X6_ps : GoodIn wsX6_onFelts (wsV RX6 45 RX6 yX6_ps wsX6_ps) := goodIn_app (goodIn_of _ (by decide +kernel)) ggX6_onFelts_X6_ps
theorem dX6_onFelts_0 : decode cX6_onFelts 0 = .ok (.iconst 0, 1) := by decide +kernel
theorem dX6_onFelts_1 : decode cX6_onFelts 1 = .ok (.istore_n 1, 1) := by decide +kernel
theorem dX6_onFelts_2 : decode cX6_onFelts 2 = .ok (.iconst 0, 1) := by decide +kernel
theorem dX6_onFelts_3 : decode cX6_onFelts 3 = .ok (.istore_n 2, 1) := by decide +kernel
theorem dX6_onFelts_4 : decode cX6_onFelts 4 = .ok (.iload_n 2, 1) := by decide +kernel
theorem dX6_onFelts_5 : decode cX6_onFelts 5 = .ok (.aload_n 0, 1) := by decide +kernel
theorem dX6_onFelts_6 : decode cX6_onFelts 6 = .ok (.getfield 28, 3) := by decide +kernel
theorem dX6_onFelts_9 : decode cX6_onFelts 9 = .ok (.iconst 5, 1) := by decide +kernel
theorem dX6_onFelts_10 : decode cX6_onFelts 10 = .ok (.iaload, 1) := by decide +kernel
theorem dX6_onFelts_11 : decode cX6_onFelts 11 = .ok (.if_icmp .ge 18, 3) := by decide +kernel
theorem dX6_onFelts_14 : decode cX6_onFelts 14 = .ok (.iload_n 1, 1) := by decide +kernel
theorem dX6_onFelts_15 : decode cX6_onFelts 15 = .ok (.aload_n 0, 1) := by decide +kernel
theorem dX6_onFelts_16 : decode cX6_onFelts 16 = .ok (.iload_n 2, 1) := by decide +kernel
theorem dX6_onFelts_17 : decode cX6_onFelts 17 = .ok (.iconst 2, 1) := by decide +kernel
theorem dX6_onFelts_18 : decode cX6_onFelts 18 = .ok (.invokevirtual 45, 3) := by decide +kernel
theorem dX6_onFelts_21 : decode cX6_onFelts 21 = .ok (.iadd, 1) := by decide +kernel
theorem dX6_onFelts_22 : decode cX6_onFelts 22 = .ok (.istore_n 1, 1) := by decide +kernel
theorem dX6_onFelts_23 : decode cX6_onFelts 23 = .ok (.iinc 2 1, 3) := by decide +kernel
theorem dX6_onFelts_26 : decode cX6_onFelts 26 = .ok (.goto (-22), 3) := by decide +kernel
theorem dX6_onFelts_29 : decode cX6_onFelts 29 = .ok (.iload_n 1, 1) := by decide +kernel
theorem dX6_onFelts_30 : decode cX6_onFelts 30 = .ok (.ireturn, 1) := by decide +kernel
set_option maxRecDepth 20000 in
theorem ggX6_free_X6_onFelts : GoodIn wsX6_free wsX6_onFelts := goodIn_r _ [6, 1, 7, 8, 9, 5, 10, 11, 12, 13, 14, 15, 16, 17, 18, 19, 20, 21] (by decide +kernel) (by decide +kernel)
set_option maxRecDepth 20000 in
theorem gX6_free_X6_onFelts : GoodIn wsX6_free (wsV RX6 49 RX6 yX6_onFelts wsX6_onFelts) := goodIn_app (goodIn_of _ (by decide +kernel)) ggX6_free_X6_onFelts
theorem dX6_free_0 : decode cX6_free 0 = .ok (.aload_n 0, 1) := by decide +kernel
theorem dX6_free_1 : decode cX6_free 1 = .ok (.getfield 28, 3) := by decide +kernel
theorem dX6_free_4 : decode cX6_free 4 = .ok (.iconst 2, 1) := by decide +kernel
theorem dX6_free_5 : decode cX6_free 5 = .ok (.iaload, 1) := by decide +kernel
theorem dX6_free_6 : decode cX6_free 6 = .ok (.aload_n 0, 1) := by decide +kernel
theorem dX6_free_7 : decode cX6_free 7 = .ok (.invokevirtual 49, 3) := by decide +kernel
theorem dX6_free_10 : decode cX6_free 10 = .ok (.isub, 1) := by decide +kernel
theorem dX6_free_11 : decode cX6_free 11 = .ok (.ireturn, 1) := by decide +kernel
theorem dX6_worth_0 : decode cX6_worth 0 = .ok (.iload_n 0, 1) := by decide +kernel
theorem dX6_worth_1 : decode cX6_worth 1 = .ok (.ifCond .ne 8, 3) := by decide +kernel
theorem dX6_worth_4 : decode cX6_worth 4 = .ok (.bipush 12, 2) := by decide +kernel
theorem dX6_worth_6 : decode cX6_worth 6 = .ok (.goto 14, 3) := by decide +kernel
theorem dX6_worth_9 : decode cX6_worth 9 = .ok (.iload_n 0, 1) := by decide +kernel
theorem dX6_worth_10 : decode cX6_worth 10 = .ok (.iconst 1, 1) := by decide +kernel
theorem dX6_worth_11 : decode cX6_worth 11 = .ok (.if_icmp .ne 8, 3) := by decide +kernel
theorem dX6_worth_14 : decode cX6_worth 14 = .ok (.bipush 7, 2) := by decide +kernel
theorem dX6_worth_16 : decode cX6_worth 16 = .ok (.goto 4, 3) := by decide +kernel
theorem dX6_worth_19 : decode cX6_worth 19 = .ok (.iconst 3, 1) := by decide +kernel
theorem dX6_worth_20 : decode cX6_worth 20 = .ok (.ireturn, 1) := by decide +kernel
set_option maxRecDepth 20000 in
theorem ggX6_buy_X6_isIn : GoodIn wsX6_buy wsX6_isIn := goodIn_r _ [6] (by decide +kernel) (by decide +kernel)
set_option maxRecDepth 20000 in
theorem gX6_buy_X6_isIn : GoodIn wsX6_buy (va_wsS RX6 35 yX6_isIn wsX6_isIn) := goodIn_app (goodIn_of _ (by decide +kernel)) ggX6_buy_X6_isIn
set_option maxRecDepth 20000 in
theorem ggX6_buy_X6_fail : GoodIn wsX6_buy wsX6_fail := goodIn_r _ [10, 1, 11, 12, 13, 14, 15, 16, 17, 18, 19, 20] (by decide +kernel) (by decide +kernel)
set_option maxRecDepth 20000 in
theorem gX6_buy_X6_fail : GoodIn wsX6_buy (wsV RX6 53 RX6 yX6_fail wsX6_fail) := goodIn_app (goodIn_of _ (by decide +kernel)) ggX6_buy_X6_fail
theorem dX6_buy_0 : decode cX6_buy 0 = .ok (.aload_n 0, 1) := by decide +kernel
theorem dX6_buy_1 : decode cX6_buy 1 = .ok (.iconst 0, 1) := by decide +kernel
theorem dX6_buy_2 : decode cX6_buy 2 = .ok (.putfield 31, 3) := by decide +kernel
theorem dX6_buy_5 : decode cX6_buy 5 = .ok (.iload_n 1, 1) := by decide +kernel
theorem dX6_buy_6 : decode cX6_buy 6 = .ok (.iconst 0, 1) := by decide +kernel
theorem dX6_buy_7 : decode cX6_buy 7 = .ok (.iconst 3, 1) := by decide +kernel
theorem dX6_buy_8 : decode cX6_buy 8 = .ok (.invokestatic 35, 3) := by decide +kernel
theorem dX6_buy_11 : decode cX6_buy 11 = .ok (.ifCond .ne 9, 3) := by decide +kernel
theorem dX6_buy_14 : decode cX6_buy 14 = .ok (.aload_n 0, 1) := by decide +kernel
theorem dX6_buy_15 : decode cX6_buy 15 = .ok (.iconst 1, 1) := by decide +kernel
theorem dX6_buy_16 : decode cX6_buy 16 = .ok (.invokevirtual 53, 3) := by decide +kernel
theorem dX6_buy_19 : decode cX6_buy 19 = .ok (.ireturn, 1) := by decide +kernel
theorem dX6_buy_20 : decode cX6_buy 20 = .ok (.iload_n 2, 1) := by decide +kernel
theorem dX6_buy_21 : decode cX6_buy 21 = .ok (.iconst 1, 1) := by decide +kernel
theorem dX6_buy_22 : decode cX6_buy 22 = .ok (.bipush 99, 2) := by decide +kernel
theorem dX6_buy_24 : decode cX6_buy 24 = .ok (.invokestatic 35, 3) := by decide +kernel
theorem dX6_buy_27 : decode cX6_buy 27 = .ok (.ifCond .ne 9, 3) := by decide +kernel
theorem dX6_buy_30 : decode cX6_buy 30 = .ok (.aload_n 0, 1) := by decide +kernel
theorem dX6_buy_31 : decode cX6_buy 31 = .ok (.iconst 2, 1) := by decide +kernel
theorem dX6_buy_32 : decode cX6_buy 32 = .ok (.invokevirtual 53, 3) := by decide +kernel
theorem dX6_buy_35 : decode cX6_buy 35 = .ok (.ireturn, 1) := by decide +kernel
theorem dX6_buy_36 : decode cX6_buy 36 = .ok (.iload_n 1, 1) := by decide +kernel
theorem dX6_buy_37 : decode cX6_buy 37 = .ok (.iconst 3, 1) := by decide +kernel
theorem dX6_buy_38 : decode cX6_buy 38 = .ok (.if_icmp .ne 9, 3) := by decide +kernel
theorem dX6_buy_41 : decode cX6_buy 41 = .ok (.iconst 2, 1) := by decide +kernel
theorem dX6_buy_42 : decode cX6_buy 42 = .ok (.iload_n 2, 1) := by decide +kernel
theorem dX6_buy_43 : decode cX6_buy 43 = .ok (.imul, 1) := by decide +kernel
theorem dX6_buy_44 : decode cX6_buy 44 = .ok (.goto 8, 3) := by decide +kernel
theorem dX6_buy_47 : decode cX6_buy 47 = .ok (.iconst 3, 1) := by decide +kernel
theorem dX6_buy_48 : decode cX6_buy 48 = .ok (.iload_n 1, 1) := by decide +kernel
theorem dX6_buy_49 : decode cX6_buy 49 = .ok (.isub, 1) := by decide +kernel
theorem dX6_buy_50 : decode cX6_buy 50 = .ok (.iload_n 2, 1) := by decide +kernel
theorem dX6_buy_51 : decode cX6_buy 51 = .ok (.imul, 1) := by decide +kernel
theorem dX6_buy_52 : decode cX6_buy 52 = .ok (.istore_n 3, 1) := by decide +kernel
theorem dX6_buy_53 : decode cX6_buy 53 = .ok (.aload_n 0, 1) := by decide +kernel
theorem dX6_buy_54 : decode cX6_buy 54 = .ok (.getfield 28, 3) := by decide +kernel
theorem dX6_buy_57 : decode cX6_buy 57 = .ok (.iconst 1, 1) := by decide +kernel
theorem dX6_buy_58 : decode cX6_buy 58 = .ok (.iaload, 1) := by decide +kernel
theorem dX6_buy_59 : decode cX6_buy 59 = .ok (.iload_n 3, 1) := by decide +kernel
theorem dX6_buy_60 : decode cX6_buy 60 = .ok (.if_icmp .lt 21, 3) := by decide +kernel
theorem dX6_buy_63 : decode cX6_buy 63 = .ok (.iload_n 1, 1) := by decide +kernel
theorem dX6_buy_64 : decode cX6_buy 64 = .ok (.iconst 3, 1) := by decide +kernel
theorem dX6_buy_65 : decode cX6_buy 65 = .ok (.if_icmp .ne 22, 3) := by decide +kernel
theorem dX6_buy_68 : decode cX6_buy 68 = .ok (.aload_n 0, 1) := by decide +kernel
theorem dX6_buy_69 : decode cX6_buy 69 = .ok (.getfield 28, 3) := by decide +kernel
theorem dX6_buy_72 : decode cX6_buy 72 = .ok (.iconst 2, 1) := by decide +kernel
theorem dX6_buy_73 : decode cX6_buy 73 = .ok (.iaload, 1) := by decide +kernel
theorem dX6_buy_74 : decode cX6_buy 74 = .ok (.iload_n 2, 1) := by decide +kernel
theorem dX6_buy_75 : decode cX6_buy 75 = .ok (.iadd, 1) := by decide +kernel
theorem dX6_buy_76 : decode cX6_buy 76 = .ok (.bipush 90, 2) := by decide +kernel
theorem dX6_buy_78 : decode cX6_buy 78 = .ok (.if_icmp .le 9, 3) := by decide +kernel
theorem dX6_buy_81 : decode cX6_buy 81 = .ok (.aload_n 0, 1) := by decide +kernel
theorem dX6_buy_82 : decode cX6_buy 82 = .ok (.iconst 3, 1) := by decide +kernel
theorem dX6_buy_83 : decode cX6_buy 83 = .ok (.invokevirtual 53, 3) := by decide +kernel
theorem dX6_buy_86 : decode cX6_buy 86 = .ok (.ireturn, 1) := by decide +kernel
theorem dX6_buy_87 : decode cX6_buy 87 = .ok (.aload_n 0, 1) := by decide +kernel
theorem dX6_buy_88 : decode cX6_buy 88 = .ok (.getfield 28, 3) := by decide +kernel
theorem dX6_buy_91 : decode cX6_buy 91 = .ok (.iconst 1, 1) := by decide +kernel
theorem dX6_buy_92 : decode cX6_buy 92 = .ok (.dup2, 1) := by decide +kernel
theorem dX6_buy_93 : decode cX6_buy 93 = .ok (.iaload, 1) := by decide +kernel
theorem dX6_buy_94 : decode cX6_buy 94 = .ok (.iload_n 3, 1) := by decide +kernel
theorem dX6_buy_95 : decode cX6_buy 95 = .ok (.isub, 1) := by decide +kernel
theorem dX6_buy_96 : decode cX6_buy 96 = .ok (.iastore, 1) := by decide +kernel
theorem dX6_buy_97 : decode cX6_buy 97 = .ok (.iload_n 1, 1) := by decide +kernel
theorem dX6_buy_98 : decode cX6_buy 98 = .ok (.iconst 3, 1) := by decide +kernel
theorem dX6_buy_99 : decode cX6_buy 99 = .ok (.if_icmp .ne 7, 3) := by decide +kernel
theorem dX6_buy_102 : decode cX6_buy 102 = .ok (.iconst 2, 1) := by decide +kernel
theorem dX6_buy_103 : decode cX6_buy 103 = .ok (.goto 7, 3) := by decide +kernel
theorem dX6_buy_106 : decode cX6_buy 106 = .ok (.bipush 6, 2) := by decide +kernel
theorem dX6_buy_108 : decode cX6_buy 108 = .ok (.iload_n 1, 1) := by decide +kernel
theorem dX6_buy_109 : decode cX6_buy 109 = .ok (.iadd, 1) := by decide +kernel
theorem dX6_buy_110 : decode cX6_buy 110 = .ok (.istore 4, 2) := by decide +kernel
theorem dX6_buy_112 : decode cX6_buy 112 = .ok (.aload_n 0, 1) := by decide +kernel
theorem dX6_buy_113 : decode cX6_buy 113 = .ok (.getfield 28, 3) := by decide +kernel
theorem dX6_buy_116 : decode cX6_buy 116 = .ok (.iload 4, 2) := by decide +kernel
theorem dX6_buy_118 : decode cX6_buy 118 = .ok (.dup2, 1) := by decide +kernel
theorem dX6_buy_119 : decode cX6_buy 119 = .ok (.iaload, 1) := by decide +kernel
theorem dX6_buy_120 : decode cX6_buy 120 = .ok (.iload_n 2, 1) := by decide +kernel
theorem dX6_buy_121 : decode cX6_buy 121 = .ok (.iadd, 1) := by decide +kernel
theorem dX6_buy_122 : decode cX6_buy 122 = .ok (.iastore, 1) := by decide +kernel
theorem dX6_buy_123 : decode cX6_buy 123 = .ok (.aload_n 0, 1) := by decide +kernel
theorem dX6_buy_124 : decode cX6_buy 124 = .ok (.getfield 28, 3) := by decide +kernel
theorem dX6_buy_127 : decode cX6_buy 127 = .ok (.iload 4, 2) := by decide +kernel
theorem dX6_buy_129 : decode cX6_buy 129 = .ok (.iaload, 1) := by decide +kernel
theorem dX6_buy_130 : decode cX6_buy 130 = .ok (.ireturn, 1) := by decide +kernel
set_option maxRecDepth 20000 in
theorem ggX6_sell_X6_isIn : GoodIn wsX6_sell wsX6_isIn := goodIn_r _ [7] (by decide +kernel) (by decide +kernel)
set_option maxRecDepth 20000 in
theorem gX6_sell_X6_isIn : GoodIn wsX6_sell (va_wsS RX6 35 yX6_isIn wsX6_isIn) := goodIn_app (goodIn_of _ (by decide +kernel)) ggX6_sell_X6_isIn
set_option maxRecDepth 20000 in
theorem ggX6_sell_X6_fail : GoodIn wsX6_sell wsX6_fail := goodIn_r _ [11, 1, 15, 16, 17, 18, 19, 20, 21, 22, 23, 24] (by decide +kernel) (by decide +kernel)
set_option maxRecDepth 20000 in
theorem gX6_sell_X6_fail : GoodIn wsX6_sell (wsV RX6 53 RX6 yX6_fail wsX6_fail) := goodIn_app (goodIn_of _ (by decide +kernel)) ggX6_sell_X6_fail
set_option maxRecDepth 20000 in
theorem ggX6_sell_X6_worth : GoodIn wsX6_sell wsX6_worth := goodIn_r _ [14] (by decide +kernel) (by decide +kernel)
set_option maxRecDepth 20000 in
theorem gX6_sell_X6_worth : GoodIn wsX6_sell (va_wsS RX6 57 yX6_worth wsX6_worth) := goodIn_app (goodIn_of _ (by decide +kernel)) ggX6_sell_X6_worth
theorem dX6_sell_0 : decode cX6_sell 0 = .ok (.aload_n 0, 1) := by decide +kernel
theorem dX6_sell_1 : decode cX6_sell 1 = .ok (.iconst 0, 1) := by decide +kernel
theorem dX6_sell_2 : decode cX6_sell 2 = .ok (.putfield 31, 3) := by decide +kernel
theorem dX6_sell_5 : decode cX6_sell 5 = .ok (.iload_n 1, 1) := by decide +kernel
theorem dX6_sell_6 : decode cX6_sell 6 = .ok (.iconst 0, 1) := by decide +kernel
theorem dX6_sell_7 : decode cX6_sell 7 = .ok (.bipush 9, 2) := by decide +kernel
theorem dX6_sell_9 : decode cX6_sell 9 = .ok (.invokestatic 35, 3) := by decide +kernel
theorem dX6_sell_12 : decode cX6_sell 12 = .ok (.ifCond .eq 12, 3) := by decide +kernel
theorem dX6_sell_15 : decode cX6_sell 15 = .ok (.iload_n 2, 1) := by decide +kernel
theorem dX6_sell_16 : decode cX6_sell 16 = .ok (.iconst 0, 1) := by decide +kernel
theorem dX6_sell_17 : decode cX6_sell 17 = .ok (.iconst 2, 1) := by decide +kernel
theorem dX6_sell_18 : decode cX6_sell 18 = .ok (.invokestatic 35, 3) := by decide +kernel
theorem dX6_sell_21 : decode cX6_sell 21 = .ok (.ifCond .ne 9, 3) := by decide +kernel
theorem dX6_sell_24 : decode cX6_sell 24 = .ok (.aload_n 0, 1) := by decide +kernel
theorem dX6_sell_25 : decode cX6_sell 25 = .ok (.iconst 1, 1) := by decide +kernel
theorem dX6_sell_26 : decode cX6_sell 26 = .ok (.invokevirtual 53, 3) := by decide +kernel
theorem dX6_sell_29 : decode cX6_sell 29 = .ok (.ireturn, 1) := by decide +kernel
theorem dX6_sell_30 : decode cX6_sell 30 = .ok (.iload_n 3, 1) := by decide +kernel
theorem dX6_sell_31 : decode cX6_sell 31 = .ok (.iconst 1, 1) := by decide +kernel
theorem dX6_sell_32 : decode cX6_sell 32 = .ok (.bipush 9, 2) := by decide +kernel
theorem dX6_sell_34 : decode cX6_sell 34 = .ok (.invokestatic 35, 3) := by decide +kernel
theorem dX6_sell_37 : decode cX6_sell 37 = .ok (.ifCond .ne 9, 3) := by decide +kernel
theorem dX6_sell_40 : decode cX6_sell 40 = .ok (.aload_n 0, 1) := by decide +kernel
theorem dX6_sell_41 : decode cX6_sell 41 = .ok (.iconst 2, 1) := by decide +kernel
theorem dX6_sell_42 : decode cX6_sell 42 = .ok (.invokevirtual 53, 3) := by decide +kernel
theorem dX6_sell_45 : decode cX6_sell 45 = .ok (.ireturn, 1) := by decide +kernel
theorem dX6_sell_46 : decode cX6_sell 46 = .ok (.aload_n 0, 1) := by decide +kernel
theorem dX6_sell_47 : decode cX6_sell 47 = .ok (.getfield 25, 3) := by decide +kernel
theorem dX6_sell_50 : decode cX6_sell 50 = .ok (.iconst 3, 1) := by decide +kernel
theorem dX6_sell_51 : decode cX6_sell 51 = .ok (.iload_n 1, 1) := by decide +kernel
theorem dX6_sell_52 : decode cX6_sell 52 = .ok (.imul, 1) := by decide +kernel
theorem dX6_sell_53 : decode cX6_sell 53 = .ok (.iload_n 2, 1) := by decide +kernel
theorem dX6_sell_54 : decode cX6_sell 54 = .ok (.iadd, 1) := by decide +kernel
theorem dX6_sell_55 : decode cX6_sell 55 = .ok (.iaload, 1) := by decide +kernel
theorem dX6_sell_56 : decode cX6_sell 56 = .ok (.bipush 24, 2) := by decide +kernel
theorem dX6_sell_58 : decode cX6_sell 58 = .ok (.iload_n 3, 1) := by decide +kernel
theorem dX6_sell_59 : decode cX6_sell 59 = .ok (.imul, 1) := by decide +kernel
theorem dX6_sell_60 : decode cX6_sell 60 = .ok (.if_icmp .ge 9, 3) := by decide +kernel
theorem dX6_sell_63 : decode cX6_sell 63 = .ok (.aload_n 0, 1) := by decide +kernel
theorem dX6_sell_64 : decode cX6_sell 64 = .ok (.iconst 3, 1) := by decide +kernel
theorem dX6_sell_65 : decode cX6_sell 65 = .ok (.invokevirtual 53, 3) := by decide +kernel
theorem dX6_sell_68 : decode cX6_sell 68 = .ok (.ireturn, 1) := by decide +kernel
theorem dX6_sell_69 : decode cX6_sell 69 = .ok (.aload_n 0, 1) := by decide +kernel
theorem dX6_sell_70 : decode cX6_sell 70 = .ok (.getfield 25, 3) := by decide +kernel
theorem dX6_sell_73 : decode cX6_sell 73 = .ok (.iconst 3, 1) := by decide +kernel
theorem dX6_sell_74 : decode cX6_sell 74 = .ok (.iload_n 1, 1) := by decide +kernel
theorem dX6_sell_75 : decode cX6_sell 75 = .ok (.imul, 1) := by decide +kernel
theorem dX6_sell_76 : decode cX6_sell 76 = .ok (.iload_n 2, 1) := by decide +kernel
theorem dX6_sell_77 : decode cX6_sell 77 = .ok (.iadd, 1) := by decide +kernel
theorem dX6_sell_78 : decode cX6_sell 78 = .ok (.dup2, 1) := by decide +kernel
theorem dX6_sell_79 : decode cX6_sell 79 = .ok (.iaload, 1) := by decide +kernel
theorem dX6_sell_80 : decode cX6_sell 80 = .ok (.bipush 24, 2) := by decide +kernel
theorem dX6_sell_82 : decode cX6_sell 82 = .ok (.iload_n 3, 1) := by decide +kernel
theorem dX6_sell_83 : decode cX6_sell 83 = .ok (.imul, 1) := by decide +kernel
theorem dX6_sell_84 : decode cX6_sell 84 = .ok (.isub, 1) := by decide +kernel
theorem dX6_sell_85 : decode cX6_sell 85 = .ok (.iastore, 1) := by decide +kernel
theorem dX6_sell_86 : decode cX6_sell 86 = .ok (.aload_n 0, 1) := by decide +kernel
theorem dX6_sell_87 : decode cX6_sell 87 = .ok (.getfield 28, 3) := by decide +kernel
theorem dX6_sell_90 : decode cX6_sell 90 = .ok (.iconst 1, 1) := by decide +kernel
theorem dX6_sell_91 : decode cX6_sell 91 = .ok (.dup2, 1) := by decide +kernel
theorem dX6_sell_92 : decode cX6_sell 92 = .ok (.iaload, 1) := by decide +kernel
theorem dX6_sell_93 : decode cX6_sell 93 = .ok (.iload_n 2, 1) := by decide +kernel
theorem dX6_sell_94 : decode cX6_sell 94 = .ok (.invokestatic 57, 3) := by decide +kernel
theorem dX6_sell_97 : decode cX6_sell 97 = .ok (.iload_n 3, 1) := by decide +kernel
theorem dX6_sell_98 : decode cX6_sell 98 = .ok (.imul, 1) := by decide +kernel
theorem dX6_sell_99 : decode cX6_sell 99 = .ok (.iadd, 1) := by decide +kernel
theorem dX6_sell_100 : decode cX6_sell 100 = .ok (.iastore, 1) := by decide +kernel
theorem dX6_sell_101 : decode cX6_sell 101 = .ok (.iload_n 2, 1) := by decide +kernel
theorem dX6_sell_102 : decode cX6_sell 102 = .ok (.invokestatic 57, 3) := by decide +kernel
theorem dX6_sell_105 : decode cX6_sell 105 = .ok (.iload_n 3, 1) := by decide +kernel
theorem dX6_sell_106 : decode cX6_sell 106 = .ok (.imul, 1) := by decide +kernel
theorem dX6_sell_107 : decode cX6_sell 107 = .ok (.ireturn, 1) := by decide +kernel
set_option maxRecDepth 20000 in
theorem ggX6_fill_X6_isVat : GoodIn wsX6_fill wsX6_isVat := goodIn_r _ [6, 7, 8, 5, 9] (by decide +kernel) (by decide +kernel)
set_option maxRecDepth 20000 in
theorem gX6_fill_X6_isVat : GoodIn wsX6_fill (va_wsS RX6 60 yX6_isVat wsX6_isVat) := goodIn_app (goodIn_of _ (by decide +kernel)) ggX6_fill_X6_isVat
set_option maxRecDepth 20000 in
theorem ggX6_fill_X6_isIn : GoodIn wsX6_fill wsX6_isIn := goodIn_r _ [9] (by decide +kernel) (by decide +kernel)
set_option maxRecDepth 20000 in
theorem gX6_fill_X6_isIn : GoodIn wsX6_fill (va_wsS RX6 35 yX6_isIn wsX6_isIn) := goodIn_app (goodIn_of _ (by decide +kernel)) ggX6_fill_X6_isIn
set_option maxRecDepth 20000 in
theorem ggX6_fill_X6_fail : GoodIn wsX6_fill wsX6_fail := goodIn_r _ [13, 1, 23, 24, 25, 26, 27, 28, 29, 30, 31, 32] (by decide +kernel) (by decide +kernel)
set_option maxRecDepth 20000 in
theorem gX6_fill_X6_fail : GoodIn wsX6_fill (wsV RX6 53 RX6 yX6_fail wsX6_fail) := goodIn_app (goodIn_of _ (by decide +kernel)) ggX6_fill_X6_fail
set_option maxRecDepth 20000 in
theorem ggX6_fill_X6_va : GoodIn wsX6_fill wsX6_va := goodIn_r _ [17, 18, 23, 24, 25, 26, 27, 28, 29, 30, 31, 32] (by decide +kernel) (by decide +kernel)
set_option maxRecDepth 20000 in
theorem gX6_fill_X6_va : GoodIn wsX6_fill (wsV RX6 64 RX6 yX6_va wsX6_va) := goodIn_app (goodIn_of _ (by decide +kernel)) ggX6_fill_X6_va
set_option maxRecDepth 20000 in
theorem ggX6_fill_X6_let : GoodIn wsX6_fill wsX6_let := goodIn_r _ [22, 18, 23, 24, 25, 26, 27, 28, 29, 30, 31, 32] (by decide +kernel) (by decide +kernel)
set_option maxRecDepth 20000 in
theorem gX6_fill_X6_let : GoodIn wsX6_fill (wsV RX6 67 RX6 yX6_let wsX6_let) := goodIn_app (goodIn_of _ (by decide +kernel)) ggX6_fill_X6_let
theorem dX6_fill_0 : decode cX6_fill 0 = .ok (.aload_n 0, 1) := by decide +kernel
theorem dX6_fill_1 : decode cX6_fill 1 = .ok (.iconst 0, 1) := by decide +kernel
theorem dX6_fill_2 : decode cX6_fill 2 = .ok (.putfield 31, 3) := by decide +kernel
theorem dX6_fill_5 : decode cX6_fill 5 = .ok (.iload_n 1, 1) := by decide +kernel
theorem dX6_fill_6 : decode cX6_fill 6 = .ok (.invokestatic 60, 3) := by decide +kernel
theorem dX6_fill_9 : decode cX6_fill 9 = .ok (.ifCond .eq 12, 3) := by decide +kernel
theorem dX6_fill_12 : decode cX6_fill 12 = .ok (.iload_n 2, 1) := by decide +kernel
theorem dX6_fill_13 : decode cX6_fill 13 = .ok (.iconst 0, 1) := by decide +kernel
theorem dX6_fill_14 : decode cX6_fill 14 = .ok (.iconst 2, 1) := by decide +kernel
theorem dX6_fill_15 : decode cX6_fill 15 = .ok (.invokestatic 35, 3) := by decide +kernel
theorem dX6_fill_18 : decode cX6_fill 18 = .ok (.ifCond .ne 9, 3) := by decide +kernel
theorem dX6_fill_21 : decode cX6_fill 21 = .ok (.aload_n 0, 1) := by decide +kernel
theorem dX6_fill_22 : decode cX6_fill 22 = .ok (.iconst 1, 1) := by decide +kernel
theorem dX6_fill_23 : decode cX6_fill 23 = .ok (.invokevirtual 53, 3) := by decide +kernel
theorem dX6_fill_26 : decode cX6_fill 26 = .ok (.ireturn, 1) := by decide +kernel
theorem dX6_fill_27 : decode cX6_fill 27 = .ok (.iload_n 3, 1) := by decide +kernel
theorem dX6_fill_28 : decode cX6_fill 28 = .ok (.iconst 1, 1) := by decide +kernel
theorem dX6_fill_29 : decode cX6_fill 29 = .ok (.bipush 40, 2) := by decide +kernel
theorem dX6_fill_31 : decode cX6_fill 31 = .ok (.invokestatic 35, 3) := by decide +kernel
theorem dX6_fill_34 : decode cX6_fill 34 = .ok (.ifCond .ne 9, 3) := by decide +kernel
theorem dX6_fill_37 : decode cX6_fill 37 = .ok (.aload_n 0, 1) := by decide +kernel
theorem dX6_fill_38 : decode cX6_fill 38 = .ok (.iconst 2, 1) := by decide +kernel
theorem dX6_fill_39 : decode cX6_fill 39 = .ok (.invokevirtual 53, 3) := by decide +kernel
theorem dX6_fill_42 : decode cX6_fill 42 = .ok (.ireturn, 1) := by decide +kernel
theorem dX6_fill_43 : decode cX6_fill 43 = .ok (.aload_n 0, 1) := by decide +kernel
theorem dX6_fill_44 : decode cX6_fill 44 = .ok (.iload_n 1, 1) := by decide +kernel
theorem dX6_fill_45 : decode cX6_fill 45 = .ok (.iconst 0, 1) := by decide +kernel
theorem dX6_fill_46 : decode cX6_fill 46 = .ok (.invokevirtual 64, 3) := by decide +kernel
theorem dX6_fill_49 : decode cX6_fill 49 = .ok (.ifCond .gt 16, 3) := by decide +kernel
theorem dX6_fill_52 : decode cX6_fill 52 = .ok (.aload_n 0, 1) := by decide +kernel
theorem dX6_fill_53 : decode cX6_fill 53 = .ok (.getfield 28, 3) := by decide +kernel
theorem dX6_fill_56 : decode cX6_fill 56 = .ok (.bipush 6, 2) := by decide +kernel
theorem dX6_fill_58 : decode cX6_fill 58 = .ok (.iload_n 2, 1) := by decide +kernel
theorem dX6_fill_59 : decode cX6_fill 59 = .ok (.iadd, 1) := by decide +kernel
theorem dX6_fill_60 : decode cX6_fill 60 = .ok (.iaload, 1) := by decide +kernel
theorem dX6_fill_61 : decode cX6_fill 61 = .ok (.iload_n 3, 1) := by decide +kernel
theorem dX6_fill_62 : decode cX6_fill 62 = .ok (.if_icmp .ge 9, 3) := by decide +kernel
theorem dX6_fill_65 : decode cX6_fill 65 = .ok (.aload_n 0, 1) := by decide +kernel
theorem dX6_fill_66 : decode cX6_fill 66 = .ok (.iconst 3, 1) := by decide +kernel
theorem dX6_fill_67 : decode cX6_fill 67 = .ok (.invokevirtual 53, 3) := by decide +kernel
theorem dX6_fill_70 : decode cX6_fill 70 = .ok (.ireturn, 1) := by decide +kernel
theorem dX6_fill_71 : decode cX6_fill 71 = .ok (.aload_n 0, 1) := by decide +kernel
theorem dX6_fill_72 : decode cX6_fill 72 = .ok (.getfield 28, 3) := by decide +kernel
theorem dX6_fill_75 : decode cX6_fill 75 = .ok (.bipush 6, 2) := by decide +kernel
theorem dX6_fill_77 : decode cX6_fill 77 = .ok (.iload_n 2, 1) := by decide +kernel
theorem dX6_fill_78 : decode cX6_fill 78 = .ok (.iadd, 1) := by decide +kernel
theorem dX6_fill_79 : decode cX6_fill 79 = .ok (.dup2, 1) := by decide +kernel
theorem dX6_fill_80 : decode cX6_fill 80 = .ok (.iaload, 1) := by decide +kernel
theorem dX6_fill_81 : decode cX6_fill 81 = .ok (.iload_n 3, 1) := by decide +kernel
theorem dX6_fill_82 : decode cX6_fill 82 = .ok (.isub, 1) := by decide +kernel
theorem dX6_fill_83 : decode cX6_fill 83 = .ok (.iastore, 1) := by decide +kernel
theorem dX6_fill_84 : decode cX6_fill 84 = .ok (.aload_n 0, 1) := by decide +kernel
theorem dX6_fill_85 : decode cX6_fill 85 = .ok (.iload_n 1, 1) := by decide +kernel
theorem dX6_fill_86 : decode cX6_fill 86 = .ok (.iload_n 3, 1) := by decide +kernel
theorem dX6_fill_87 : decode cX6_fill 87 = .ok (.iconst 0, 1) := by decide +kernel
theorem dX6_fill_88 : decode cX6_fill 88 = .ok (.iload_n 2, 1) := by decide +kernel
theorem dX6_fill_89 : decode cX6_fill 89 = .ok (.invokevirtual 67, 3) := by decide +kernel
theorem dX6_fill_92 : decode cX6_fill 92 = .ok (.aload_n 0, 1) := by decide +kernel
theorem dX6_fill_93 : decode cX6_fill 93 = .ok (.getfield 28, 3) := by decide +kernel
theorem dX6_fill_96 : decode cX6_fill 96 = .ok (.bipush 6, 2) := by decide +kernel
theorem dX6_fill_98 : decode cX6_fill 98 = .ok (.iload_n 2, 1) := by decide +kernel
theorem dX6_fill_99 : decode cX6_fill 99 = .ok (.iadd, 1) := by decide +kernel
theorem dX6_fill_100 : decode cX6_fill 100 = .ok (.iaload, 1) := by decide +kernel
theorem dX6_fill_101 : decode cX6_fill 101 = .ok (.ireturn, 1) := by decide +kernel
set_option maxRecDepth 20000 in
theorem ggX6_drain_X6_isVat : GoodIn wsX6_drain wsX6_isVat := goodIn_r _ [5, 6, 7, 4, 8] (by decide +kernel) (by decide +kernel)
set_option maxRecDepth 20000 in
theorem gX6_drain_X6_isVat : GoodIn wsX6_drain (va_wsS RX6 60 yX6_isVat wsX6_isVat) := goodIn_app (goodIn_of _ (by decide +kernel)) ggX6_drain_X6_isVat
set_option maxRecDepth 20000 in
theorem ggX6_drain_X6_fail : GoodIn wsX6_drain wsX6_fail := goodIn_r _ [12, 1, 22, 23, 24, 25, 26, 27, 28, 29, 30, 31] (by decide +kernel) (by decide +kernel)
set_option maxRecDepth 20000 in
theorem gX6_drain_X6_fail : GoodIn wsX6_drain (wsV RX6 53 RX6 yX6_fail wsX6_fail) := goodIn_app (goodIn_of _ (by decide +kernel)) ggX6_drain_X6_fail
set_option maxRecDepth 20000 in
theorem ggX6_drain_X6_va : GoodIn wsX6_drain wsX6_va := goodIn_r _ [16, 17, 22, 23, 24, 25, 26, 27, 28, 29, 30, 31] (by decide +kernel) (by decide +kernel)
set_option maxRecDepth 20000 in
theorem gX6_drain_X6_va : GoodIn wsX6_drain (wsV RX6 64 RX6 yX6_va wsX6_va) := goodIn_app (goodIn_of _ (by decide +kernel)) ggX6_drain_X6_va
set_option maxRecDepth 20000 in
theorem ggX6_drain_X6_let : GoodIn wsX6_drain wsX6_let := goodIn_r _ [21, 17, 22, 23, 24, 25, 26, 27, 28, 29, 30, 31] (by decide +kernel) (by decide +kernel)
set_option maxRecDepth 20000 in
theorem gX6_drain_X6_let : GoodIn wsX6_drain (wsV RX6 67 RX6 yX6_let wsX6_let) := goodIn_app (goodIn_of _ (by decide +kernel)) ggX6_drain_X6_let
theorem dX6_drain_0 : decode cX6_drain 0 = .ok (.aload_n 0, 1) := by decide +kernel
theorem dX6_drain_1 : decode cX6_drain 1 = .ok (.iconst 0, 1) := by decide +kernel
theorem dX6_drain_2 : decode cX6_drain 2 = .ok (.putfield 31, 3) := by decide +kernel
theorem dX6_drain_5 : decode cX6_drain 5 = .ok (.iload_n 1, 1) := by decide +kernel
theorem dX6_drain_6 : decode cX6_drain 6 = .ok (.invokestatic 60, 3) := by decide +kernel
theorem dX6_drain_9 : decode cX6_drain 9 = .ok (.ifCond .ne 9, 3) := by decide +kernel
theorem dX6_drain_12 : decode cX6_drain 12 = .ok (.aload_n 0, 1) := by decide +kernel
theorem dX6_drain_13 : decode cX6_drain 13 = .ok (.iconst 1, 1) := by decide +kernel
theorem dX6_drain_14 : decode cX6_drain 14 = .ok (.invokevirtual 53, 3) := by decide +kernel
theorem dX6_drain_17 : decode cX6_drain 17 = .ok (.ireturn, 1) := by decide +kernel
theorem dX6_drain_18 : decode cX6_drain 18 = .ok (.aload_n 0, 1) := by decide +kernel
theorem dX6_drain_19 : decode cX6_drain 19 = .ok (.iload_n 1, 1) := by decide +kernel
theorem dX6_drain_20 : decode cX6_drain 20 = .ok (.iconst 0, 1) := by decide +kernel
theorem dX6_drain_21 : decode cX6_drain 21 = .ok (.invokevirtual 64, 3) := by decide +kernel
theorem dX6_drain_24 : decode cX6_drain 24 = .ok (.istore_n 2, 1) := by decide +kernel
theorem dX6_drain_25 : decode cX6_drain 25 = .ok (.iload_n 2, 1) := by decide +kernel
theorem dX6_drain_26 : decode cX6_drain 26 = .ok (.ifCond .ne 9, 3) := by decide +kernel
theorem dX6_drain_29 : decode cX6_drain 29 = .ok (.aload_n 0, 1) := by decide +kernel
theorem dX6_drain_30 : decode cX6_drain 30 = .ok (.iconst 2, 1) := by decide +kernel
theorem dX6_drain_31 : decode cX6_drain 31 = .ok (.invokevirtual 53, 3) := by decide +kernel
theorem dX6_drain_34 : decode cX6_drain 34 = .ok (.ireturn, 1) := by decide +kernel
theorem dX6_drain_35 : decode cX6_drain 35 = .ok (.aload_n 0, 1) := by decide +kernel
theorem dX6_drain_36 : decode cX6_drain 36 = .ok (.iload_n 1, 1) := by decide +kernel
theorem dX6_drain_37 : decode cX6_drain 37 = .ok (.iconst 0, 1) := by decide +kernel
theorem dX6_drain_38 : decode cX6_drain 38 = .ok (.iconst 0, 1) := by decide +kernel
theorem dX6_drain_39 : decode cX6_drain 39 = .ok (.iconst (-1), 1) := by decide +kernel
theorem dX6_drain_40 : decode cX6_drain 40 = .ok (.invokevirtual 67, 3) := by decide +kernel
theorem dX6_drain_43 : decode cX6_drain 43 = .ok (.iload_n 2, 1) := by decide +kernel
theorem dX6_drain_44 : decode cX6_drain 44 = .ok (.ireturn, 1) := by decide +kernel
set_option maxRecDepth 20000 in
theorem ggX6_pair_X6_isIn : GoodIn wsX6_pair wsX6_isIn := goodIn_r _ [7] (by decide +kernel) (by decide +kernel)
set_option maxRecDepth 20000 in
theorem gX6_pair_X6_isIn : GoodIn wsX6_pair (va_wsS RX6 35 yX6_isIn wsX6_isIn) := goodIn_app (goodIn_of _ (by decide +kernel)) ggX6_pair_X6_isIn
set_option maxRecDepth 20000 in
theorem ggX6_pair_X6_fail : GoodIn wsX6_pair wsX6_fail := goodIn_r _ [11, 1, 12, 13, 14, 15, 16, 17, 18, 19, 20, 21] (by decide +kernel) (by decide +kernel)
set_option maxRecDepth 20000 in
theorem gX6_pair_X6_fail : GoodIn wsX6_pair (wsV RX6 53 RX6 yX6_fail wsX6_fail) := goodIn_app (goodIn_of _ (by decide +kernel)) ggX6_pair_X6_fail
theorem dX6_pair_0 : decode cX6_pair 0 = .ok (.aload_n 0, 1) := by decide +kernel
theorem dX6_pair_1 : decode cX6_pair 1 = .ok (.iconst 0, 1) := by decide +kernel
theorem dX6_pair_2 : decode cX6_pair 2 = .ok (.putfield 31, 3) := by decide +kernel
theorem dX6_pair_5 : decode cX6_pair 5 = .ok (.iload_n 1, 1) := by decide +kernel
theorem dX6_pair_6 : decode cX6_pair 6 = .ok (.iconst 0, 1) := by decide +kernel
theorem dX6_pair_7 : decode cX6_pair 7 = .ok (.bipush 9, 2) := by decide +kernel
theorem dX6_pair_9 : decode cX6_pair 9 = .ok (.invokestatic 35, 3) := by decide +kernel
theorem dX6_pair_12 : decode cX6_pair 12 = .ok (.ifCond .ne 9, 3) := by decide +kernel
theorem dX6_pair_15 : decode cX6_pair 15 = .ok (.aload_n 0, 1) := by decide +kernel
theorem dX6_pair_16 : decode cX6_pair 16 = .ok (.iconst 1, 1) := by decide +kernel
theorem dX6_pair_17 : decode cX6_pair 17 = .ok (.invokevirtual 53, 3) := by decide +kernel
theorem dX6_pair_20 : decode cX6_pair 20 = .ok (.ireturn, 1) := by decide +kernel
theorem dX6_pair_21 : decode cX6_pair 21 = .ok (.iload_n 2, 1) := by decide +kernel
theorem dX6_pair_22 : decode cX6_pair 22 = .ok (.iconst 1, 1) := by decide +kernel
theorem dX6_pair_23 : decode cX6_pair 23 = .ok (.iconst 3, 1) := by decide +kernel
theorem dX6_pair_24 : decode cX6_pair 24 = .ok (.invokestatic 35, 3) := by decide +kernel
theorem dX6_pair_27 : decode cX6_pair 27 = .ok (.ifCond .ne 9, 3) := by decide +kernel
theorem dX6_pair_30 : decode cX6_pair 30 = .ok (.aload_n 0, 1) := by decide +kernel
theorem dX6_pair_31 : decode cX6_pair 31 = .ok (.iconst 2, 1) := by decide +kernel
theorem dX6_pair_32 : decode cX6_pair 32 = .ok (.invokevirtual 53, 3) := by decide +kernel
theorem dX6_pair_35 : decode cX6_pair 35 = .ok (.ireturn, 1) := by decide +kernel
theorem dX6_pair_36 : decode cX6_pair 36 = .ok (.aload_n 0, 1) := by decide +kernel
theorem dX6_pair_37 : decode cX6_pair 37 = .ok (.getfield 39, 3) := by decide +kernel
theorem dX6_pair_40 : decode cX6_pair 40 = .ok (.iconst 5, 1) := by decide +kernel
theorem dX6_pair_41 : decode cX6_pair 41 = .ok (.if_icmp .ne 9, 3) := by decide +kernel
theorem dX6_pair_44 : decode cX6_pair 44 = .ok (.aload_n 0, 1) := by decide +kernel
theorem dX6_pair_45 : decode cX6_pair 45 = .ok (.iconst 3, 1) := by decide +kernel
theorem dX6_pair_46 : decode cX6_pair 46 = .ok (.invokevirtual 53, 3) := by decide +kernel
theorem dX6_pair_49 : decode cX6_pair 49 = .ok (.ireturn, 1) := by decide +kernel
theorem dX6_pair_50 : decode cX6_pair 50 = .ok (.aload_n 0, 1) := by decide +kernel
theorem dX6_pair_51 : decode cX6_pair 51 = .ok (.getfield 16, 3) := by decide +kernel
theorem dX6_pair_54 : decode cX6_pair 54 = .ok (.iconst 3, 1) := by decide +kernel
theorem dX6_pair_55 : decode cX6_pair 55 = .ok (.aload_n 0, 1) := by decide +kernel
theorem dX6_pair_56 : decode cX6_pair 56 = .ok (.getfield 39, 3) := by decide +kernel
theorem dX6_pair_59 : decode cX6_pair 59 = .ok (.imul, 1) := by decide +kernel
theorem dX6_pair_60 : decode cX6_pair 60 = .ok (.iconst 0, 1) := by decide +kernel
theorem dX6_pair_61 : decode cX6_pair 61 = .ok (.iadd, 1) := by decide +kernel
theorem dX6_pair_62 : decode cX6_pair 62 = .ok (.iload_n 1, 1) := by decide +kernel
theorem dX6_pair_63 : decode cX6_pair 63 = .ok (.iastore, 1) := by decide +kernel
theorem dX6_pair_64 : decode cX6_pair 64 = .ok (.aload_n 0, 1) := by decide +kernel
theorem dX6_pair_65 : decode cX6_pair 65 = .ok (.getfield 16, 3) := by decide +kernel
theorem dX6_pair_68 : decode cX6_pair 68 = .ok (.iconst 3, 1) := by decide +kernel
theorem dX6_pair_69 : decode cX6_pair 69 = .ok (.aload_n 0, 1) := by decide +kernel
theorem dX6_pair_70 : decode cX6_pair 70 = .ok (.getfield 39, 3) := by decide +kernel
theorem dX6_pair_73 : decode cX6_pair 73 = .ok (.imul, 1) := by decide +kernel
theorem dX6_pair_74 : decode cX6_pair 74 = .ok (.iconst 1, 1) := by decide +kernel
theorem dX6_pair_75 : decode cX6_pair 75 = .ok (.iadd, 1) := by decide +kernel
theorem dX6_pair_76 : decode cX6_pair 76 = .ok (.iload_n 2, 1) := by decide +kernel
theorem dX6_pair_77 : decode cX6_pair 77 = .ok (.iastore, 1) := by decide +kernel
theorem dX6_pair_78 : decode cX6_pair 78 = .ok (.aload_n 0, 1) := by decide +kernel
theorem dX6_pair_79 : decode cX6_pair 79 = .ok (.dup, 1) := by decide +kernel
theorem dX6_pair_80 : decode cX6_pair 80 = .ok (.getfield 39, 3) := by decide +kernel
theorem dX6_pair_83 : decode cX6_pair 83 = .ok (.iconst 1, 1) := by decide +kernel
theorem dX6_pair_84 : decode cX6_pair 84 = .ok (.iadd, 1) := by decide +kernel
theorem dX6_pair_85 : decode cX6_pair 85 = .ok (.putfield 39, 3) := by decide +kernel
theorem dX6_pair_88 : decode cX6_pair 88 = .ok (.aload_n 0, 1) := by decide +kernel
theorem dX6_pair_89 : decode cX6_pair 89 = .ok (.getfield 39, 3) := by decide +kernel
theorem dX6_pair_92 : decode cX6_pair 92 = .ok (.iconst 1, 1) := by decide +kernel
theorem dX6_pair_93 : decode cX6_pair 93 = .ok (.isub, 1) := by decide +kernel
theorem dX6_pair_94 : decode cX6_pair 94 = .ok (.ireturn, 1) := by decide +kernel
set_option maxRecDepth 20000 in
theorem ggX6_wire_X6_isPair : GoodIn wsX6_wire wsX6_isPair := goodIn_r _ [8, 9, 10, 11, 7, 12, 21, 22, 23, 24, 25, 26, 27, 28, 29, 30] (by decide +kernel) (by decide +kernel)
set_option maxRecDepth 20000 in
theorem gX6_wire_X6_isPair : GoodIn wsX6_wire (wsV RX6 71 RX6 yX6_isPair wsX6_isPair) := goodIn_app (goodIn_of _ (by decide +kernel)) ggX6_wire_X6_isPair
set_option maxRecDepth 20000 in
theorem ggX6_wire_X6_fail : GoodIn wsX6_wire wsX6_fail := goodIn_r _ [16, 1, 21, 22, 23, 24, 25, 26, 27, 28, 29, 30] (by decide +kernel) (by decide +kernel)
set_option maxRecDepth 20000 in
theorem gX6_wire_X6_fail : GoodIn wsX6_wire (wsV RX6 53 RX6 yX6_fail wsX6_fail) := goodIn_app (goodIn_of _ (by decide +kernel)) ggX6_wire_X6_fail
set_option maxRecDepth 20000 in
theorem ggX6_wire_X6_mo : GoodIn wsX6_wire wsX6_mo := goodIn_r _ [20, 3, 21, 22, 23, 24, 25, 26, 27, 28, 29, 30] (by decide +kernel) (by decide +kernel)
set_option maxRecDepth 20000 in
theorem gX6_wire_X6_mo : GoodIn wsX6_wire (wsV RX6 74 RX6 yX6_mo wsX6_mo) := goodIn_app (goodIn_of _ (by decide +kernel)) ggX6_wire_X6_mo
theorem dX6_wire_0 : decode cX6_wire 0 = .ok (.aload_n 0, 1) := by decide +kernel
theorem dX6_wire_1 : decode cX6_wire 1 = .ok (.iconst 0, 1) := by decide +kernel
theorem dX6_wire_2 : decode cX6_wire 2 = .ok (.putfield 31, 3) := by decide +kernel
theorem dX6_wire_5 : decode cX6_wire 5 = .ok (.aload_n 0, 1) := by decide +kernel
theorem dX6_wire_6 : decode cX6_wire 6 = .ok (.iload_n 1, 1) := by decide +kernel
theorem dX6_wire_7 : decode cX6_wire 7 = .ok (.invokevirtual 71, 3) := by decide +kernel
theorem dX6_wire_10 : decode cX6_wire 10 = .ok (.ifCond .ne 9, 3) := by decide +kernel
theorem dX6_wire_13 : decode cX6_wire 13 = .ok (.aload_n 0, 1) := by decide +kernel
theorem dX6_wire_14 : decode cX6_wire 14 = .ok (.iconst 1, 1) := by decide +kernel
theorem dX6_wire_15 : decode cX6_wire 15 = .ok (.invokevirtual 53, 3) := by decide +kernel
theorem dX6_wire_18 : decode cX6_wire 18 = .ok (.ireturn, 1) := by decide +kernel
theorem dX6_wire_19 : decode cX6_wire 19 = .ok (.aload_n 0, 1) := by decide +kernel
theorem dX6_wire_20 : decode cX6_wire 20 = .ok (.iload_n 1, 1) := by decide +kernel
theorem dX6_wire_21 : decode cX6_wire 21 = .ok (.iconst 2, 1) := by decide +kernel
theorem dX6_wire_22 : decode cX6_wire 22 = .ok (.invokevirtual 74, 3) := by decide +kernel
theorem dX6_wire_25 : decode cX6_wire 25 = .ok (.istore_n 2, 1) := by decide +kernel
theorem dX6_wire_26 : decode cX6_wire 26 = .ok (.iload_n 2, 1) := by decide +kernel
theorem dX6_wire_27 : decode cX6_wire 27 = .ok (.ifCond .eq 13, 3) := by decide +kernel
theorem dX6_wire_30 : decode cX6_wire 30 = .ok (.aload_n 0, 1) := by decide +kernel
theorem dX6_wire_31 : decode cX6_wire 31 = .ok (.getfield 28, 3) := by decide +kernel
theorem dX6_wire_34 : decode cX6_wire 34 = .ok (.iconst 1, 1) := by decide +kernel
theorem dX6_wire_35 : decode cX6_wire 35 = .ok (.iaload, 1) := by decide +kernel
theorem dX6_wire_36 : decode cX6_wire 36 = .ok (.iconst 5, 1) := by decide +kernel
theorem dX6_wire_37 : decode cX6_wire 37 = .ok (.if_icmp .ge 9, 3) := by decide +kernel
theorem dX6_wire_40 : decode cX6_wire 40 = .ok (.aload_n 0, 1) := by decide +kernel
theorem dX6_wire_41 : decode cX6_wire 41 = .ok (.iconst 2, 1) := by decide +kernel
theorem dX6_wire_42 : decode cX6_wire 42 = .ok (.invokevirtual 53, 3) := by decide +kernel
theorem dX6_wire_45 : decode cX6_wire 45 = .ok (.ireturn, 1) := by decide +kernel
theorem dX6_wire_46 : decode cX6_wire 46 = .ok (.aload_n 0, 1) := by decide +kernel
theorem dX6_wire_47 : decode cX6_wire 47 = .ok (.getfield 28, 3) := by decide +kernel
theorem dX6_wire_50 : decode cX6_wire 50 = .ok (.iconst 1, 1) := by decide +kernel
theorem dX6_wire_51 : decode cX6_wire 51 = .ok (.dup2, 1) := by decide +kernel
theorem dX6_wire_52 : decode cX6_wire 52 = .ok (.iaload, 1) := by decide +kernel
theorem dX6_wire_53 : decode cX6_wire 53 = .ok (.iconst 5, 1) := by decide +kernel
theorem dX6_wire_54 : decode cX6_wire 54 = .ok (.isub, 1) := by decide +kernel
theorem dX6_wire_55 : decode cX6_wire 55 = .ok (.iastore, 1) := by decide +kernel
theorem dX6_wire_56 : decode cX6_wire 56 = .ok (.aload_n 0, 1) := by decide +kernel
theorem dX6_wire_57 : decode cX6_wire 57 = .ok (.getfield 16, 3) := by decide +kernel
theorem dX6_wire_60 : decode cX6_wire 60 = .ok (.iconst 3, 1) := by decide +kernel
theorem dX6_wire_61 : decode cX6_wire 61 = .ok (.iload_n 1, 1) := by decide +kernel
theorem dX6_wire_62 : decode cX6_wire 62 = .ok (.imul, 1) := by decide +kernel
theorem dX6_wire_63 : decode cX6_wire 63 = .ok (.iconst 2, 1) := by decide +kernel
theorem dX6_wire_64 : decode cX6_wire 64 = .ok (.iadd, 1) := by decide +kernel
theorem dX6_wire_65 : decode cX6_wire 65 = .ok (.iconst 0, 1) := by decide +kernel
theorem dX6_wire_66 : decode cX6_wire 66 = .ok (.iastore, 1) := by decide +kernel
theorem dX6_wire_67 : decode cX6_wire 67 = .ok (.iload_n 2, 1) := by decide +kernel
theorem dX6_wire_68 : decode cX6_wire 68 = .ok (.ireturn, 1) := by decide +kernel
set_option maxRecDepth 20000 in
theorem ggX6_team_X6_isIn : GoodIn wsX6_team wsX6_isIn := goodIn_r _ [7] (by decide +kernel) (by decide +kernel)
set_option maxRecDepth 20000 in
theorem gX6_team_X6_isIn : GoodIn wsX6_team (va_wsS RX6 35 yX6_isIn wsX6_isIn) := goodIn_app (goodIn_of _ (by decide +kernel)) ggX6_team_X6_isIn
set_option maxRecDepth 20000 in
theorem ggX6_team_X6_fail : GoodIn wsX6_team wsX6_fail := goodIn_r _ [11, 1, 12, 13, 14, 15, 16, 17, 18, 19, 20, 21] (by decide +kernel) (by decide +kernel)
set_option maxRecDepth 20000 in
theorem gX6_team_X6_fail : GoodIn wsX6_team (wsV RX6 53 RX6 yX6_fail wsX6_fail) := goodIn_app (goodIn_of _ (by decide +kernel)) ggX6_team_X6_fail
theorem dX6_team_0 : decode cX6_team 0 = .ok (.aload_n 0, 1) := by decide +kernel
theorem dX6_team_1 : decode cX6_team 1 = .ok (.iconst 0, 1) := by decide +kernel
theorem dX6_team_2 : decode cX6_team 2 = .ok (.putfield 31, 3) := by decide +kernel
theorem dX6_team_5 : decode cX6_team 5 = .ok (.iload_n 1, 1) := by decide +kernel
theorem dX6_team_6 : decode cX6_team 6 = .ok (.iconst 1, 1) := by decide +kernel
theorem dX6_team_7 : decode cX6_team 7 = .ok (.bipush 12, 2) := by decide +kernel
theorem dX6_team_9 : decode cX6_team 9 = .ok (.invokestatic 35, 3) := by decide +kernel
theorem dX6_team_12 : decode cX6_team 12 = .ok (.ifCond .ne 9, 3) := by decide +kernel
theorem dX6_team_15 : decode cX6_team 15 = .ok (.aload_n 0, 1) := by decide +kernel
theorem dX6_team_16 : decode cX6_team 16 = .ok (.iconst 1, 1) := by decide +kernel
theorem dX6_team_17 : decode cX6_team 17 = .ok (.invokevirtual 53, 3) := by decide +kernel
theorem dX6_team_20 : decode cX6_team 20 = .ok (.ireturn, 1) := by decide +kernel
theorem dX6_team_21 : decode cX6_team 21 = .ok (.aload_n 0, 1) := by decide +kernel
theorem dX6_team_22 : decode cX6_team 22 = .ok (.getfield 42, 3) := by decide +kernel
theorem dX6_team_25 : decode cX6_team 25 = .ok (.iconst 3, 1) := by decide +kernel
theorem dX6_team_26 : decode cX6_team 26 = .ok (.if_icmp .ne 9, 3) := by decide +kernel
theorem dX6_team_29 : decode cX6_team 29 = .ok (.aload_n 0, 1) := by decide +kernel
theorem dX6_team_30 : decode cX6_team 30 = .ok (.iconst 2, 1) := by decide +kernel
theorem dX6_team_31 : decode cX6_team 31 = .ok (.invokevirtual 53, 3) := by decide +kernel
theorem dX6_team_34 : decode cX6_team 34 = .ok (.ireturn, 1) := by decide +kernel
theorem dX6_team_35 : decode cX6_team 35 = .ok (.aload_n 0, 1) := by decide +kernel
theorem dX6_team_36 : decode cX6_team 36 = .ok (.getfield 19, 3) := by decide +kernel
theorem dX6_team_39 : decode cX6_team 39 = .ok (.iconst 3, 1) := by decide +kernel
theorem dX6_team_40 : decode cX6_team 40 = .ok (.aload_n 0, 1) := by decide +kernel
theorem dX6_team_41 : decode cX6_team 41 = .ok (.getfield 42, 3) := by decide +kernel
theorem dX6_team_44 : decode cX6_team 44 = .ok (.imul, 1) := by decide +kernel
theorem dX6_team_45 : decode cX6_team 45 = .ok (.iconst 0, 1) := by decide +kernel
theorem dX6_team_46 : decode cX6_team 46 = .ok (.iadd, 1) := by decide +kernel
theorem dX6_team_47 : decode cX6_team 47 = .ok (.iload_n 1, 1) := by decide +kernel
theorem dX6_team_48 : decode cX6_team 48 = .ok (.iastore, 1) := by decide +kernel
theorem dX6_team_49 : decode cX6_team 49 = .ok (.aload_n 0, 1) := by decide +kernel
theorem dX6_team_50 : decode cX6_team 50 = .ok (.getfield 19, 3) := by decide +kernel
theorem dX6_team_53 : decode cX6_team 53 = .ok (.iconst 3, 1) := by decide +kernel
theorem dX6_team_54 : decode cX6_team 54 = .ok (.aload_n 0, 1) := by decide +kernel
theorem dX6_team_55 : decode cX6_team 55 = .ok (.getfield 42, 3) := by decide +kernel
theorem dX6_team_58 : decode cX6_team 58 = .ok (.imul, 1) := by decide +kernel
theorem dX6_team_59 : decode cX6_team 59 = .ok (.iconst 1, 1) := by decide +kernel
theorem dX6_team_60 : decode cX6_team 60 = .ok (.iadd, 1) := by decide +kernel
theorem dX6_team_61 : decode cX6_team 61 = .ok (.iconst (-1), 1) := by decide +kernel
theorem dX6_team_62 : decode cX6_team 62 = .ok (.iastore, 1) := by decide +kernel
theorem dX6_team_63 : decode cX6_team 63 = .ok (.aload_n 0, 1) := by decide +kernel
theorem dX6_team_64 : decode cX6_team 64 = .ok (.getfield 19, 3) := by decide +kernel
theorem dX6_team_67 : decode cX6_team 67 = .ok (.iconst 3, 1) := by decide +kernel
theorem dX6_team_68 : decode cX6_team 68 = .ok (.aload_n 0, 1) := by decide +kernel
theorem dX6_team_69 : decode cX6_team 69 = .ok (.getfield 42, 3) := by decide +kernel
theorem dX6_team_72 : decode cX6_team 72 = .ok (.imul, 1) := by decide +kernel
theorem dX6_team_73 : decode cX6_team 73 = .ok (.iconst 2, 1) := by decide +kernel
theorem dX6_team_74 : decode cX6_team 74 = .ok (.iadd, 1) := by decide +kernel
theorem dX6_team_75 : decode cX6_team 75 = .ok (.iconst (-1), 1) := by decide +kernel
theorem dX6_team_76 : decode cX6_team 76 = .ok (.iastore, 1) := by decide +kernel
theorem dX6_team_77 : decode cX6_team 77 = .ok (.aload_n 0, 1) := by decide +kernel
theorem dX6_team_78 : decode cX6_team 78 = .ok (.dup, 1) := by decide +kernel
theorem dX6_team_79 : decode cX6_team 79 = .ok (.getfield 42, 3) := by decide +kernel
theorem dX6_team_82 : decode cX6_team 82 = .ok (.iconst 1, 1) := by decide +kernel
theorem dX6_team_83 : decode cX6_team 83 = .ok (.iadd, 1) := by decide +kernel
theorem dX6_team_84 : decode cX6_team 84 = .ok (.putfield 42, 3) := by decide +kernel
theorem dX6_team_87 : decode cX6_team 87 = .ok (.aload_n 0, 1) := by decide +kernel
theorem dX6_team_88 : decode cX6_team 88 = .ok (.getfield 42, 3) := by decide +kernel
theorem dX6_team_91 : decode cX6_team 91 = .ok (.iconst 1, 1) := by decide +kernel
theorem dX6_team_92 : decode cX6_team 92 = .ok (.isub, 1) := by decide +kernel
theorem dX6_team_93 : decode cX6_team 93 = .ok (.ireturn, 1) := by decide +kernel
set_option maxRecDepth 20000 in
theorem ggX6_makes_X6_cr : GoodIn wsX6_makes wsX6_cr := goodIn_r _ [9, 10, 35, 36, 37, 38, 39, 40, 41, 42, 43, 44] (by decide +kernel) (by decide +kernel)
set_option maxRecDepth 20000 in
theorem gX6_makes_X6_cr : GoodIn wsX6_makes (wsV RX6 77 RX6 yX6_cr wsX6_cr) := goodIn_app (goodIn_of _ (by decide +kernel)) ggX6_makes_X6_cr
set_option maxRecDepth 20000 in
theorem ggX6_makes_X6_va : GoodIn wsX6_makes wsX6_va := goodIn_r _ [14, 15, 35, 36, 37, 38, 39, 40, 41, 42, 43, 44] (by decide +kernel) (by decide +kernel)
set_option maxRecDepth 20000 in
theorem gX6_makes_X6_va : GoodIn wsX6_makes (wsV RX6 64 RX6 yX6_va wsX6_va) := goodIn_app (goodIn_of _ (by decide +kernel)) ggX6_makes_X6_va
set_option maxRecDepth 20000 in
theorem ggX6_makes_X6_free : GoodIn wsX6_makes wsX6_free := goodIn_r _ [19, 20, 21, 22, 23, 8, 24, 25, 26, 27, 28, 29, 35, 36, 37, 38, 39, 40, 41, 42, 43, 44] (by decide +kernel) (by decide +kernel)
set_option maxRecDepth 20000 in
theorem gX6_makes_X6_free : GoodIn wsX6_makes (wsV RX6 80 RX6 yX6_free wsX6_free) := goodIn_app (goodIn_of _ (by decide +kernel)) ggX6_makes_X6_free
set_option maxRecDepth 20000 in
theorem ggX6_makes_X6_mo : GoodIn wsX6_makes wsX6_mo := goodIn_r _ [33, 34, 35, 36, 37, 38, 39, 40, 41, 42, 43, 44] (by decide +kernel) (by decide +kernel)
set_option maxRecDepth 20000 in
theorem gX6_makes_X6_mo : GoodIn wsX6_makes (wsV RX6 74 RX6 yX6_mo wsX6_mo) := goodIn_app (goodIn_of _ (by decide +kernel)) ggX6_makes_X6_mo
theorem dX6_makes_0 : decode cX6_makes 0 = .ok (.aload_n 0, 1) := by decide +kernel
theorem dX6_makes_1 : decode cX6_makes 1 = .ok (.iload_n 1, 1) := by decide +kernel
theorem dX6_makes_2 : decode cX6_makes 2 = .ok (.iconst 1, 1) := by decide +kernel
theorem dX6_makes_3 : decode cX6_makes 3 = .ok (.invokevirtual 77, 3) := by decide +kernel
theorem dX6_makes_6 : decode cX6_makes 6 = .ok (.istore_n 2, 1) := by decide +kernel
theorem dX6_makes_7 : decode cX6_makes 7 = .ok (.aload_n 0, 1) := by decide +kernel
theorem dX6_makes_8 : decode cX6_makes 8 = .ok (.iload_n 1, 1) := by decide +kernel
theorem dX6_makes_9 : decode cX6_makes 9 = .ok (.iconst 2, 1) := by decide +kernel
theorem dX6_makes_10 : decode cX6_makes 10 = .ok (.invokevirtual 77, 3) := by decide +kernel
theorem dX6_makes_13 : decode cX6_makes 13 = .ok (.istore_n 3, 1) := by decide +kernel
theorem dX6_makes_14 : decode cX6_makes 14 = .ok (.iload_n 2, 1) := by decide +kernel
theorem dX6_makes_15 : decode cX6_makes 15 = .ok (.iconst (-1), 1) := by decide +kernel
theorem dX6_makes_16 : decode cX6_makes 16 = .ok (.if_icmp .eq 19, 3) := by decide +kernel
theorem dX6_makes_19 : decode cX6_makes 19 = .ok (.iload_n 3, 1) := by decide +kernel
theorem dX6_makes_20 : decode cX6_makes 20 = .ok (.iconst (-1), 1) := by decide +kernel
theorem dX6_makes_21 : decode cX6_makes 21 = .ok (.if_icmp .eq 14, 3) := by decide +kernel
theorem dX6_makes_24 : decode cX6_makes 24 = .ok (.aload_n 0, 1) := by decide +kernel
theorem dX6_makes_25 : decode cX6_makes 25 = .ok (.iload_n 2, 1) := by decide +kernel
theorem dX6_makes_26 : decode cX6_makes 26 = .ok (.iconst 1, 1) := by decide +kernel
theorem dX6_makes_27 : decode cX6_makes 27 = .ok (.invokevirtual 64, 3) := by decide +kernel
theorem dX6_makes_30 : decode cX6_makes 30 = .ok (.bipush 30, 2) := by decide +kernel
theorem dX6_makes_32 : decode cX6_makes 32 = .ok (.if_icmp .ge 5, 3) := by decide +kernel
theorem dX6_makes_35 : decode cX6_makes 35 = .ok (.iconst 0, 1) := by decide +kernel
theorem dX6_makes_36 : decode cX6_makes 36 = .ok (.ireturn, 1) := by decide +kernel
theorem dX6_makes_37 : decode cX6_makes 37 = .ok (.aload_n 0, 1) := by decide +kernel
theorem dX6_makes_38 : decode cX6_makes 38 = .ok (.iload_n 1, 1) := by decide +kernel
theorem dX6_makes_39 : decode cX6_makes 39 = .ok (.iconst 0, 1) := by decide +kernel
theorem dX6_makes_40 : decode cX6_makes 40 = .ok (.invokevirtual 77, 3) := by decide +kernel
theorem dX6_makes_43 : decode cX6_makes 43 = .ok (.aload_n 0, 1) := by decide +kernel
theorem dX6_makes_44 : decode cX6_makes 44 = .ok (.invokevirtual 80, 3) := by decide +kernel
theorem dX6_makes_47 : decode cX6_makes 47 = .ok (.aload_n 0, 1) := by decide +kernel
theorem dX6_makes_48 : decode cX6_makes 48 = .ok (.iload_n 2, 1) := by decide +kernel
theorem dX6_makes_49 : decode cX6_makes 49 = .ok (.iconst 0, 1) := by decide +kernel
theorem dX6_makes_50 : decode cX6_makes 50 = .ok (.invokevirtual 64, 3) := by decide +kernel
theorem dX6_makes_53 : decode cX6_makes 53 = .ok (.aload_n 0, 1) := by decide +kernel
theorem dX6_makes_54 : decode cX6_makes 54 = .ok (.iload_n 3, 1) := by decide +kernel
theorem dX6_makes_55 : decode cX6_makes 55 = .ok (.iconst 1, 1) := by decide +kernel
theorem dX6_makes_56 : decode cX6_makes 56 = .ok (.invokevirtual 74, 3) := by decide +kernel
theorem dX6_makes_59 : decode cX6_makes 59 = .ok (.idiv, 1) := by decide +kernel
theorem dX6_makes_60 : decode cX6_makes 60 = .ok (.invokestatic 83, 3) := by decide +kernel
theorem dX6_makes_63 : decode cX6_makes 63 = .ok (.invokestatic 83, 3) := by decide +kernel
theorem dX6_makes_66 : decode cX6_makes 66 = .ok (.ireturn, 1) := by decide +kernel
set_option maxRecDepth 20000 in
theorem ggX6_holder_X6_cr : GoodIn wsX6_holder wsX6_cr := goodIn_r _ [6, 7, 8, 9, 10, 11, 12, 13, 14, 15, 16, 17] (by decide +kernel) (by decide +kernel)
set_option maxRecDepth 20000 in
theorem gX6_holder_X6_cr : GoodIn wsX6_holder (wsV RX6 77 RX6 yX6_cr wsX6_cr) := goodIn_app (goodIn_of _ (by decide +kernel)) ggX6_holder_X6_cr
theorem dX6_holder_0 : decode cX6_holder 0 = .ok (.iconst 0, 1) := by decide +kernel
theorem dX6_holder_1 : decode cX6_holder 1 = .ok (.istore_n 2, 1) := by decide +kernel
theorem dX6_holder_2 : decode cX6_holder 2 = .ok (.iload_n 2, 1) := by decide +kernel
theorem dX6_holder_3 : decode cX6_holder 3 = .ok (.aload_n 0, 1) := by decide +kernel
theorem dX6_holder_4 : decode cX6_holder 4 = .ok (.getfield 42, 3) := by decide +kernel
theorem dX6_holder_7 : decode cX6_holder 7 = .ok (.if_icmp .ge 21, 3) := by decide +kernel
theorem dX6_holder_10 : decode cX6_holder 10 = .ok (.aload_n 0, 1) := by decide +kernel
theorem dX6_holder_11 : decode cX6_holder 11 = .ok (.iload_n 2, 1) := by decide +kernel
theorem dX6_holder_12 : decode cX6_holder 12 = .ok (.iconst 2, 1) := by decide +kernel
theorem dX6_holder_13 : decode cX6_holder 13 = .ok (.invokevirtual 77, 3) := by decide +kernel
theorem dX6_holder_16 : decode cX6_holder 16 = .ok (.iload_n 1, 1) := by decide +kernel
theorem dX6_holder_17 : decode cX6_holder 17 = .ok (.if_icmp .ne 5, 3) := by decide +kernel
theorem dX6_holder_20 : decode cX6_holder 20 = .ok (.iload_n 2, 1) := by decide +kernel
theorem dX6_holder_21 : decode cX6_holder 21 = .ok (.ireturn, 1) := by decide +kernel
theorem dX6_holder_22 : decode cX6_holder 22 = .ok (.iinc 2 1, 3) := by decide +kernel
theorem dX6_holder_25 : decode cX6_holder 25 = .ok (.goto (-23), 3) := by decide +kernel
theorem dX6_holder_28 : decode cX6_holder 28 = .ok (.iconst (-1), 1) := by decide +kernel
theorem dX6_holder_29 : decode cX6_holder 29 = .ok (.ireturn, 1) := by decide +kernel
set_option maxRecDepth 20000 in
theorem ggX6_place_X6_isTeam : GoodIn wsX6_place wsX6_isTeam := goodIn_r _ [7, 8, 9, 10, 6, 11, 64, 65, 66, 67, 68, 69, 70, 71, 72, 73] (by decide +kernel) (by decide +kernel)
set_option maxRecDepth 20000 in
theorem gX6_place_X6_isTeam : GoodIn wsX6_place (wsV RX6 88 RX6 yX6_isTeam wsX6_isTeam) := goodIn_app (goodIn_of _ (by decide +kernel)) ggX6_place_X6_isTeam
set_option maxRecDepth 20000 in
theorem ggX6_place_X6_isVat : GoodIn wsX6_place wsX6_isVat := goodIn_r _ [14, 9, 10, 6, 11] (by decide +kernel) (by decide +kernel)
set_option maxRecDepth 20000 in
theorem gX6_place_X6_isVat : GoodIn wsX6_place (va_wsS RX6 60 yX6_isVat wsX6_isVat) := goodIn_app (goodIn_of _ (by decide +kernel)) ggX6_place_X6_isVat
set_option maxRecDepth 20000 in
theorem ggX6_place_X6_isPair : GoodIn wsX6_place wsX6_isPair := goodIn_r _ [18, 19, 9, 10, 6, 11, 64, 65, 66, 67, 68, 69, 70, 71, 72, 73] (by decide +kernel) (by decide +kernel)
set_option maxRecDepth 20000 in
theorem gX6_place_X6_isPair : GoodIn wsX6_place (wsV RX6 71 RX6 yX6_isPair wsX6_isPair) := goodIn_app (goodIn_of _ (by decide +kernel)) ggX6_place_X6_isPair
set_option maxRecDepth 20000 in
theorem ggX6_place_X6_fail : GoodIn wsX6_place wsX6_fail := goodIn_r _ [23, 1, 64, 65, 66, 67, 68, 69, 70, 71, 72, 73] (by decide +kernel) (by decide +kernel)
set_option maxRecDepth 20000 in
theorem gX6_place_X6_fail : GoodIn wsX6_place (wsV RX6 53 RX6 yX6_fail wsX6_fail) := goodIn_app (goodIn_of _ (by decide +kernel)) ggX6_place_X6_fail
set_option maxRecDepth 20000 in
theorem ggX6_place_X6_holder : GoodIn wsX6_place wsX6_holder := goodIn_r _ [27, 8, 28, 29, 30, 6, 31, 2, 64, 65, 66, 67, 68, 69, 70, 71, 72, 73] (by decide +kernel) (by decide +kernel)
set_option maxRecDepth 20000 in
theorem gX6_place_X6_holder : GoodIn wsX6_place (wsV RX6 91 RX6 yX6_holder wsX6_holder) := goodIn_app (goodIn_of _ (by decide +kernel)) ggX6_place_X6_holder
set_option maxRecDepth 20000 in
theorem ggX6_place_X6_makes : GoodIn wsX6_place wsX6_makes := goodIn_r _ [35, 36, 37, 38, 39, 28, 29, 30, 6, 31, 2, 40, 41, 42, 43, 44, 45, 46, 47, 48, 49, 50, 51, 52, 53, 54, 55, 56, 57, 58, 59, 60, 61, 62, 63, 64, 65, 66, 67, 68, 69, 70, 71, 72, 73] (by decide +kernel) (by decide +kernel)
set_option maxRecDepth 20000 in
theorem gX6_place_X6_makes : GoodIn wsX6_place (wsV RX6 94 RX6 yX6_makes wsX6_makes) := goodIn_app (goodIn_of _ (by decide +kernel)) ggX6_place_X6_makes
theorem dX6_place_0 : decode cX6_place 0 = .ok (.aload_n 0, 1) := by decide +kernel
theorem dX6_place_1 : decode cX6_place 1 = .ok (.iconst 0, 1) := by decide +kernel
theorem dX6_place_2 : decode cX6_place 2 = .ok (.putfield 31, 3) := by decide +kernel
theorem dX6_place_5 : decode cX6_place 5 = .ok (.aload_n 0, 1) := by decide +kernel
theorem dX6_place_6 : decode cX6_place 6 = .ok (.iload_n 1, 1) := by decide +kernel
theorem dX6_place_7 : decode cX6_place 7 = .ok (.invokevirtual 88, 3) := by decide +kernel
theorem dX6_place_10 : decode cX6_place 10 = .ok (.ifCond .eq 28, 3) := by decide +kernel
theorem dX6_place_13 : decode cX6_place 13 = .ok (.iload_n 2, 1) := by decide +kernel
theorem dX6_place_14 : decode cX6_place 14 = .ok (.iconst (-1), 1) := by decide +kernel
theorem dX6_place_15 : decode cX6_place 15 = .ok (.if_icmp .eq 10, 3) := by decide +kernel
theorem dX6_place_18 : decode cX6_place 18 = .ok (.iload_n 2, 1) := by decide +kernel
theorem dX6_place_19 : decode cX6_place 19 = .ok (.invokestatic 60, 3) := by decide +kernel
theorem dX6_place_22 : decode cX6_place 22 = .ok (.ifCond .eq 16, 3) := by decide +kernel
theorem dX6_place_25 : decode cX6_place 25 = .ok (.iload_n 3, 1) := by decide +kernel
theorem dX6_place_26 : decode cX6_place 26 = .ok (.iconst (-1), 1) := by decide +kernel
theorem dX6_place_27 : decode cX6_place 27 = .ok (.if_icmp .eq 17, 3) := by decide +kernel
theorem dX6_place_30 : decode cX6_place 30 = .ok (.aload_n 0, 1) := by decide +kernel
theorem dX6_place_31 : decode cX6_place 31 = .ok (.iload_n 3, 1) := by decide +kernel
theorem dX6_place_32 : decode cX6_place 32 = .ok (.invokevirtual 71, 3) := by decide +kernel
theorem dX6_place_35 : decode cX6_place 35 = .ok (.ifCond .ne 9, 3) := by decide +kernel
theorem dX6_place_38 : decode cX6_place 38 = .ok (.aload_n 0, 1) := by decide +kernel
theorem dX6_place_39 : decode cX6_place 39 = .ok (.iconst 1, 1) := by decide +kernel
theorem dX6_place_40 : decode cX6_place 40 = .ok (.invokevirtual 53, 3) := by decide +kernel
theorem dX6_place_43 : decode cX6_place 43 = .ok (.ireturn, 1) := by decide +kernel
theorem dX6_place_44 : decode cX6_place 44 = .ok (.iload_n 3, 1) := by decide +kernel
theorem dX6_place_45 : decode cX6_place 45 = .ok (.iconst (-1), 1) := by decide +kernel
theorem dX6_place_46 : decode cX6_place 46 = .ok (.if_icmp .eq 27, 3) := by decide +kernel
theorem dX6_place_49 : decode cX6_place 49 = .ok (.aload_n 0, 1) := by decide +kernel
theorem dX6_place_50 : decode cX6_place 50 = .ok (.iload_n 3, 1) := by decide +kernel
theorem dX6_place_51 : decode cX6_place 51 = .ok (.invokevirtual 91, 3) := by decide +kernel
theorem dX6_place_54 : decode cX6_place 54 = .ok (.iconst (-1), 1) := by decide +kernel
theorem dX6_place_55 : decode cX6_place 55 = .ok (.if_icmp .eq 18, 3) := by decide +kernel
theorem dX6_place_58 : decode cX6_place 58 = .ok (.aload_n 0, 1) := by decide +kernel
theorem dX6_place_59 : decode cX6_place 59 = .ok (.iload_n 3, 1) := by decide +kernel
theorem dX6_place_60 : decode cX6_place 60 = .ok (.invokevirtual 91, 3) := by decide +kernel
theorem dX6_place_63 : decode cX6_place 63 = .ok (.iload_n 1, 1) := by decide +kernel
theorem dX6_place_64 : decode cX6_place 64 = .ok (.if_icmp .eq 9, 3) := by decide +kernel
theorem dX6_place_67 : decode cX6_place 67 = .ok (.aload_n 0, 1) := by decide +kernel
theorem dX6_place_68 : decode cX6_place 68 = .ok (.iconst 2, 1) := by decide +kernel
theorem dX6_place_69 : decode cX6_place 69 = .ok (.invokevirtual 53, 3) := by decide +kernel
theorem dX6_place_72 : decode cX6_place 72 = .ok (.ireturn, 1) := by decide +kernel
theorem dX6_place_73 : decode cX6_place 73 = .ok (.aload_n 0, 1) := by decide +kernel
theorem dX6_place_74 : decode cX6_place 74 = .ok (.getfield 19, 3) := by decide +kernel
theorem dX6_place_77 : decode cX6_place 77 = .ok (.iconst 3, 1) := by decide +kernel
theorem dX6_place_78 : decode cX6_place 78 = .ok (.iload_n 1, 1) := by decide +kernel
theorem dX6_place_79 : decode cX6_place 79 = .ok (.imul, 1) := by decide +kernel
theorem dX6_place_80 : decode cX6_place 80 = .ok (.iconst 1, 1) := by decide +kernel
theorem dX6_place_81 : decode cX6_place 81 = .ok (.iadd, 1) := by decide +kernel
theorem dX6_place_82 : decode cX6_place 82 = .ok (.iload_n 2, 1) := by decide +kernel
theorem dX6_place_83 : decode cX6_place 83 = .ok (.iastore, 1) := by decide +kernel
theorem dX6_place_84 : decode cX6_place 84 = .ok (.aload_n 0, 1) := by decide +kernel
theorem dX6_place_85 : decode cX6_place 85 = .ok (.getfield 19, 3) := by decide +kernel
theorem dX6_place_88 : decode cX6_place 88 = .ok (.iconst 3, 1) := by decide +kernel
theorem dX6_place_89 : decode cX6_place 89 = .ok (.iload_n 1, 1) := by decide +kernel
theorem dX6_place_90 : decode cX6_place 90 = .ok (.imul, 1) := by decide +kernel
theorem dX6_place_91 : decode cX6_place 91 = .ok (.iconst 2, 1) := by decide +kernel
theorem dX6_place_92 : decode cX6_place 92 = .ok (.iadd, 1) := by decide +kernel
theorem dX6_place_93 : decode cX6_place 93 = .ok (.iload_n 3, 1) := by decide +kernel
theorem dX6_place_94 : decode cX6_place 94 = .ok (.iastore, 1) := by decide +kernel
theorem dX6_place_95 : decode cX6_place 95 = .ok (.aload_n 0, 1) := by decide +kernel
theorem dX6_place_96 : decode cX6_place 96 = .ok (.iload_n 1, 1) := by decide +kernel
theorem dX6_place_97 : decode cX6_place 97 = .ok (.invokevirtual 94, 3) := by decide +kernel
theorem dX6_place_100 : decode cX6_place 100 = .ok (.ireturn, 1) := by decide +kernel
set_option maxRecDepth 20000 in
theorem ggX6_setWater_X6_isIn : GoodIn wsX6_setWater wsX6_isIn := goodIn_r _ [6] (by decide +kernel) (by decide +kernel)
set_option maxRecDepth 20000 in
theorem gX6_setWater_X6_isIn : GoodIn wsX6_setWater (va_wsS RX6 35 yX6_isIn wsX6_isIn) := goodIn_app (goodIn_of _ (by decide +kernel)) ggX6_setWater_X6_isIn
set_option maxRecDepth 20000 in
theorem ggX6_setWater_X6_fail : GoodIn wsX6_setWater wsX6_fail := goodIn_r _ [10, 1, 11, 12, 13, 14, 15, 16, 17, 18, 19, 20] (by decide +kernel) (by decide +kernel)
set_option maxRecDepth 20000 in
theorem gX6_setWater_X6_fail : GoodIn wsX6_setWater (wsV RX6 53 RX6 yX6_fail wsX6_fail) := goodIn_app (goodIn_of _ (by decide +kernel)) ggX6_setWater_X6_fail
theorem dX6_setWater_0 : decode cX6_setWater 0 = .ok (.aload_n 0, 1) := by decide +kernel
theorem dX6_setWater_1 : decode cX6_setWater 1 = .ok (.iconst 0, 1) := by decide +kernel
theorem dX6_setWater_2 : decode cX6_setWater 2 = .ok (.putfield 31, 3) := by decide +kernel
theorem dX6_setWater_5 : decode cX6_setWater 5 = .ok (.iload_n 1, 1) := by decide +kernel
theorem dX6_setWater_6 : decode cX6_setWater 6 = .ok (.iconst 0, 1) := by decide +kernel
theorem dX6_setWater_7 : decode cX6_setWater 7 = .ok (.bipush 6, 2) := by decide +kernel
theorem dX6_setWater_9 : decode cX6_setWater 9 = .ok (.invokestatic 35, 3) := by decide +kernel
theorem dX6_setWater_12 : decode cX6_setWater 12 = .ok (.ifCond .ne 9, 3) := by decide +kernel
theorem dX6_setWater_15 : decode cX6_setWater 15 = .ok (.aload_n 0, 1) := by decide +kernel
theorem dX6_setWater_16 : decode cX6_setWater 16 = .ok (.iconst 1, 1) := by decide +kernel
theorem dX6_setWater_17 : decode cX6_setWater 17 = .ok (.invokevirtual 53, 3) := by decide +kernel
theorem dX6_setWater_20 : decode cX6_setWater 20 = .ok (.ireturn, 1) := by decide +kernel
theorem dX6_setWater_21 : decode cX6_setWater 21 = .ok (.iload_n 2, 1) := by decide +kernel
theorem dX6_setWater_22 : decode cX6_setWater 22 = .ok (.iconst 0, 1) := by decide +kernel
theorem dX6_setWater_23 : decode cX6_setWater 23 = .ok (.bipush 9, 2) := by decide +kernel
theorem dX6_setWater_25 : decode cX6_setWater 25 = .ok (.invokestatic 35, 3) := by decide +kernel
theorem dX6_setWater_28 : decode cX6_setWater 28 = .ok (.ifCond .ne 9, 3) := by decide +kernel
theorem dX6_setWater_31 : decode cX6_setWater 31 = .ok (.aload_n 0, 1) := by decide +kernel
theorem dX6_setWater_32 : decode cX6_setWater 32 = .ok (.iconst 2, 1) := by decide +kernel
theorem dX6_setWater_33 : decode cX6_setWater 33 = .ok (.invokevirtual 53, 3) := by decide +kernel
theorem dX6_setWater_36 : decode cX6_setWater 36 = .ok (.ireturn, 1) := by decide +kernel
theorem dX6_setWater_37 : decode cX6_setWater 37 = .ok (.aload_n 0, 1) := by decide +kernel
theorem dX6_setWater_38 : decode cX6_setWater 38 = .ok (.getfield 7, 3) := by decide +kernel
theorem dX6_setWater_41 : decode cX6_setWater 41 = .ok (.iload_n 1, 1) := by decide +kernel
theorem dX6_setWater_42 : decode cX6_setWater 42 = .ok (.iaload, 1) := by decide +kernel
theorem dX6_setWater_43 : decode cX6_setWater 43 = .ok (.istore_n 3, 1) := by decide +kernel
theorem dX6_setWater_44 : decode cX6_setWater 44 = .ok (.aload_n 0, 1) := by decide +kernel
theorem dX6_setWater_45 : decode cX6_setWater 45 = .ok (.getfield 7, 3) := by decide +kernel
theorem dX6_setWater_48 : decode cX6_setWater 48 = .ok (.iload_n 1, 1) := by decide +kernel
theorem dX6_setWater_49 : decode cX6_setWater 49 = .ok (.iload_n 2, 1) := by decide +kernel
theorem dX6_setWater_50 : decode cX6_setWater 50 = .ok (.iastore, 1) := by decide +kernel
theorem dX6_setWater_51 : decode cX6_setWater 51 = .ok (.iload_n 3, 1) := by decide +kernel
theorem dX6_setWater_52 : decode cX6_setWater 52 = .ok (.ireturn, 1) := by decide +kernel
set_option maxRecDepth 20000 in
theorem ggX6_about_X6_isVat : GoodIn wsX6_about wsX6_isVat := goodIn_r _ [5, 6, 7, 4, 8] (by decide +kernel) (by decide +kernel)
set_option maxRecDepth 20000 in
theorem gX6_about_X6_isVat : GoodIn wsX6_about (va_wsS RX6 60 yX6_isVat wsX6_isVat) := goodIn_app (goodIn_of _ (by decide +kernel)) ggX6_about_X6_isVat
set_option maxRecDepth 20000 in
theorem ggX6_about_X6_isIn : GoodIn wsX6_about wsX6_isIn := goodIn_r _ [8] (by decide +kernel) (by decide +kernel)
set_option maxRecDepth 20000 in
theorem gX6_about_X6_isIn : GoodIn wsX6_about (va_wsS RX6 35 yX6_isIn wsX6_isIn) := goodIn_app (goodIn_of _ (by decide +kernel)) ggX6_about_X6_isIn
set_option maxRecDepth 20000 in
theorem ggX6_about_X6_va : GoodIn wsX6_about wsX6_va := goodIn_r _ [12, 13, 18, 19, 20, 21, 22, 23, 24, 25, 26, 27] (by decide +kernel) (by decide +kernel)
set_option maxRecDepth 20000 in
theorem gX6_about_X6_va : GoodIn wsX6_about (wsV RX6 64 RX6 yX6_va wsX6_va) := goodIn_app (goodIn_of _ (by decide +kernel)) ggX6_about_X6_va
set_option maxRecDepth 20000 in
theorem ggX6_about_X6_fail : GoodIn wsX6_about wsX6_fail := goodIn_r _ [17, 1, 18, 19, 20, 21, 22, 23, 24, 25, 26, 27] (by decide +kernel) (by decide +kernel)
set_option maxRecDepth 20000 in
theorem gX6_about_X6_fail : GoodIn wsX6_about (wsV RX6 53 RX6 yX6_fail wsX6_fail) := goodIn_app (goodIn_of _ (by decide +kernel)) ggX6_about_X6_fail
theorem dX6_about_0 : decode cX6_about 0 = .ok (.aload_n 0, 1) := by decide +kernel
theorem dX6_about_1 : decode cX6_about 1 = .ok (.iconst 0, 1) := by decide +kernel
theorem dX6_about_2 : decode cX6_about 2 = .ok (.putfield 31, 3) := by decide +kernel
theorem dX6_about_5 : decode cX6_about 5 = .ok (.iload_n 1, 1) := by decide +kernel
theorem dX6_about_6 : decode cX6_about 6 = .ok (.invokestatic 60, 3) := by decide +kernel
theorem dX6_about_9 : decode cX6_about 9 = .ok (.ifCond .eq 21, 3) := by decide +kernel
theorem dX6_about_12 : decode cX6_about 12 = .ok (.iload_n 2, 1) := by decide +kernel
theorem dX6_about_13 : decode cX6_about 13 = .ok (.iconst 0, 1) := by decide +kernel
theorem dX6_about_14 : decode cX6_about 14 = .ok (.iconst 2, 1) := by decide +kernel
theorem dX6_about_15 : decode cX6_about 15 = .ok (.invokestatic 35, 3) := by decide +kernel
theorem dX6_about_18 : decode cX6_about 18 = .ok (.ifCond .eq 12, 3) := by decide +kernel
theorem dX6_about_21 : decode cX6_about 21 = .ok (.aload_n 0, 1) := by decide +kernel
theorem dX6_about_22 : decode cX6_about 22 = .ok (.iload_n 1, 1) := by decide +kernel
theorem dX6_about_23 : decode cX6_about 23 = .ok (.iload_n 2, 1) := by decide +kernel
theorem dX6_about_24 : decode cX6_about 24 = .ok (.invokevirtual 64, 3) := by decide +kernel
theorem dX6_about_27 : decode cX6_about 27 = .ok (.goto 8, 3) := by decide +kernel
theorem dX6_about_30 : decode cX6_about 30 = .ok (.aload_n 0, 1) := by decide +kernel
theorem dX6_about_31 : decode cX6_about 31 = .ok (.iconst 1, 1) := by decide +kernel
theorem dX6_about_32 : decode cX6_about 32 = .ok (.invokevirtual 53, 3) := by decide +kernel
theorem dX6_about_35 : decode cX6_about 35 = .ok (.ireturn, 1) := by decide +kernel
set_option maxRecDepth 20000 in
theorem ggX6_pairTold_X6_mo : GoodIn wsX6_pairTold wsX6_mo := goodIn_r _ [5, 6, 17, 18, 19, 20, 21, 22, 23, 24, 25, 26] (by decide +kernel) (by decide +kernel)
set_option maxRecDepth 20000 in
theorem gX6_pairTold_X6_mo : GoodIn wsX6_pairTold (wsV RX6 74 RX6 yX6_mo wsX6_mo) := goodIn_app (goodIn_of _ (by decide +kernel)) ggX6_pairTold_X6_mo
set_option maxRecDepth 20000 in
theorem ggX6_pairTold_X6_holder : GoodIn wsX6_pairTold wsX6_holder := goodIn_r _ [10, 11, 12, 13, 14, 4, 15, 16, 17, 18, 19, 20, 21, 22, 23, 24, 25, 26] (by decide +kernel) (by decide +kernel)
set_option maxRecDepth 20000 in
theorem gX6_pairTold_X6_holder : GoodIn wsX6_pairTold (wsV RX6 91 RX6 yX6_holder wsX6_holder) := goodIn_app (goodIn_of _ (by decide +kernel)) ggX6_pairTold_X6_holder
theorem dX6_pairTold_0 : decode cX6_pairTold 0 = .ok (.iload_n 2, 1) := by decide +kernel
theorem dX6_pairTold_1 : decode cX6_pairTold 1 = .ok (.iconst 3, 1) := by decide +kernel
theorem dX6_pairTold_2 : decode cX6_pairTold 2 = .ok (.if_icmp .ge 12, 3) := by decide +kernel
theorem dX6_pairTold_5 : decode cX6_pairTold 5 = .ok (.aload_n 0, 1) := by decide +kernel
theorem dX6_pairTold_6 : decode cX6_pairTold 6 = .ok (.iload_n 1, 1) := by decide +kernel
theorem dX6_pairTold_7 : decode cX6_pairTold 7 = .ok (.iload_n 2, 1) := by decide +kernel
theorem dX6_pairTold_8 : decode cX6_pairTold 8 = .ok (.invokevirtual 74, 3) := by decide +kernel
theorem dX6_pairTold_11 : decode cX6_pairTold 11 = .ok (.goto 8, 3) := by decide +kernel
theorem dX6_pairTold_14 : decode cX6_pairTold 14 = .ok (.aload_n 0, 1) := by decide +kernel
theorem dX6_pairTold_15 : decode cX6_pairTold 15 = .ok (.iload_n 1, 1) := by decide +kernel
theorem dX6_pairTold_16 : decode cX6_pairTold 16 = .ok (.invokevirtual 91, 3) := by decide +kernel
theorem dX6_pairTold_19 : decode cX6_pairTold 19 = .ok (.ireturn, 1) := by decide +kernel
set_option maxRecDepth 20000 in
theorem ggX6_mould_X6_isPair : GoodIn wsX6_mould wsX6_isPair := goodIn_r _ [6, 7, 8, 9, 5, 10, 34, 35, 36, 37, 38, 39, 40, 41, 42, 43] (by decide +kernel) (by decide +kernel)
set_option maxRecDepth 20000 in
theorem gX6_mould_X6_isPair : GoodIn wsX6_mould (wsV RX6 71 RX6 yX6_isPair wsX6_isPair) := goodIn_app (goodIn_of _ (by decide +kernel)) ggX6_mould_X6_isPair
set_option maxRecDepth 20000 in
theorem ggX6_mould_X6_isIn : GoodIn wsX6_mould wsX6_isIn := goodIn_r _ [10] (by decide +kernel) (by decide +kernel)
set_option maxRecDepth 20000 in
theorem gX6_mould_X6_isIn : GoodIn wsX6_mould (va_wsS RX6 35 yX6_isIn wsX6_isIn) := goodIn_app (goodIn_of _ (by decide +kernel)) ggX6_mould_X6_isIn
set_option maxRecDepth 20000 in
theorem ggX6_mould_X6_pairTold : GoodIn wsX6_mould wsX6_pairTold := goodIn_r _ [14, 15, 16, 17, 5, 18, 19, 20, 21, 22, 23, 24, 25, 26, 27, 28, 29, 34, 35, 36, 37, 38, 39, 40, 41, 42, 43] (by decide +kernel) (by decide +kernel)
set_option maxRecDepth 20000 in
theorem gX6_mould_X6_pairTold : GoodIn wsX6_mould (wsV RX6 97 RX6 yX6_pairTold wsX6_pairTold) := goodIn_app (goodIn_of _ (by decide +kernel)) ggX6_mould_X6_pairTold
set_option maxRecDepth 20000 in
theorem ggX6_mould_X6_fail : GoodIn wsX6_mould wsX6_fail := goodIn_r _ [33, 1, 34, 35, 36, 37, 38, 39, 40, 41, 42, 43] (by decide +kernel) (by decide +kernel)
set_option maxRecDepth 20000 in
theorem gX6_mould_X6_fail : GoodIn wsX6_mould (wsV RX6 53 RX6 yX6_fail wsX6_fail) := goodIn_app (goodIn_of _ (by decide +kernel)) ggX6_mould_X6_fail
theorem dX6_mould_0 : decode cX6_mould 0 = .ok (.aload_n 0, 1) := by decide +kernel
theorem dX6_mould_1 : decode cX6_mould 1 = .ok (.iconst 0, 1) := by decide +kernel
theorem dX6_mould_2 : decode cX6_mould 2 = .ok (.putfield 31, 3) := by decide +kernel
theorem dX6_mould_5 : decode cX6_mould 5 = .ok (.aload_n 0, 1) := by decide +kernel
theorem dX6_mould_6 : decode cX6_mould 6 = .ok (.iload_n 1, 1) := by decide +kernel
theorem dX6_mould_7 : decode cX6_mould 7 = .ok (.invokevirtual 71, 3) := by decide +kernel
theorem dX6_mould_10 : decode cX6_mould 10 = .ok (.ifCond .eq 21, 3) := by decide +kernel
theorem dX6_mould_13 : decode cX6_mould 13 = .ok (.iload_n 2, 1) := by decide +kernel
theorem dX6_mould_14 : decode cX6_mould 14 = .ok (.iconst 0, 1) := by decide +kernel
theorem dX6_mould_15 : decode cX6_mould 15 = .ok (.iconst 3, 1) := by decide +kernel
theorem dX6_mould_16 : decode cX6_mould 16 = .ok (.invokestatic 35, 3) := by decide +kernel
theorem dX6_mould_19 : decode cX6_mould 19 = .ok (.ifCond .eq 12, 3) := by decide +kernel
theorem dX6_mould_22 : decode cX6_mould 22 = .ok (.aload_n 0, 1) := by decide +kernel
theorem dX6_mould_23 : decode cX6_mould 23 = .ok (.iload_n 1, 1) := by decide +kernel
theorem dX6_mould_24 : decode cX6_mould 24 = .ok (.iload_n 2, 1) := by decide +kernel
theorem dX6_mould_25 : decode cX6_mould 25 = .ok (.invokevirtual 97, 3) := by decide +kernel
theorem dX6_mould_28 : decode cX6_mould 28 = .ok (.goto 8, 3) := by decide +kernel
theorem dX6_mould_31 : decode cX6_mould 31 = .ok (.aload_n 0, 1) := by decide +kernel
theorem dX6_mould_32 : decode cX6_mould 32 = .ok (.iconst 1, 1) := by decide +kernel
theorem dX6_mould_33 : decode cX6_mould 33 = .ok (.invokevirtual 53, 3) := by decide +kernel
theorem dX6_mould_36 : decode cX6_mould 36 = .ok (.ireturn, 1) := by decide +kernel
set_option maxRecDepth 20000 in
theorem ggX6_teamTold_X6_cr : GoodIn wsX6_teamTold wsX6_cr := goodIn_r _ [5, 6, 39, 40, 41, 42, 43, 44, 45, 46, 47, 48] (by decide +kernel) (by decide +kernel)
set_option maxRecDepth 20000 in
theorem gX6_teamTold_X6_cr : GoodIn wsX6_teamTold (wsV RX6 77 RX6 yX6_cr wsX6_cr) := goodIn_app (goodIn_of _ (by decide +kernel)) ggX6_teamTold_X6_cr
set_option maxRecDepth 20000 in
theorem ggX6_teamTold_X6_makes : GoodIn wsX6_teamTold wsX6_makes := goodIn_r _ [10, 11, 12, 13, 14, 1, 2, 3, 4, 5, 6, 15, 16, 17, 18, 19, 20, 21, 22, 23, 24, 25, 26, 27, 28, 29, 30, 31, 32, 33, 34, 35, 36, 37, 38, 39, 40, 41, 42, 43, 44, 45, 46, 47, 48] (by decide +kernel) (by decide +kernel)
set_option maxRecDepth 20000 in
theorem gX6_teamTold_X6_makes : GoodIn wsX6_teamTold (wsV RX6 94 RX6 yX6_makes wsX6_makes) := goodIn_app (goodIn_of _ (by decide +kernel)) ggX6_teamTold_X6_makes
theorem dX6_teamTold_0 : decode cX6_teamTold 0 = .ok (.iload_n 2, 1) := by decide +kernel
theorem dX6_teamTold_1 : decode cX6_teamTold 1 = .ok (.iconst 3, 1) := by decide +kernel
theorem dX6_teamTold_2 : decode cX6_teamTold 2 = .ok (.if_icmp .ge 12, 3) := by decide +kernel
theorem dX6_teamTold_5 : decode cX6_teamTold 5 = .ok (.aload_n 0, 1) := by decide +kernel
theorem dX6_teamTold_6 : decode cX6_teamTold 6 = .ok (.iload_n 1, 1) := by decide +kernel
theorem dX6_teamTold_7 : decode cX6_teamTold 7 = .ok (.iload_n 2, 1) := by decide +kernel
theorem dX6_teamTold_8 : decode cX6_teamTold 8 = .ok (.invokevirtual 77, 3) := by decide +kernel
theorem dX6_teamTold_11 : decode cX6_teamTold 11 = .ok (.goto 8, 3) := by decide +kernel
theorem dX6_teamTold_14 : decode cX6_teamTold 14 = .ok (.aload_n 0, 1) := by decide +kernel
theorem dX6_teamTold_15 : decode cX6_teamTold 15 = .ok (.iload_n 1, 1) := by decide +kernel
theorem dX6_teamTold_16 : decode cX6_teamTold 16 = .ok (.invokevirtual 94, 3) := by decide +kernel
theorem dX6_teamTold_19 : decode cX6_teamTold 19 = .ok (.ireturn, 1) := by decide +kernel
set_option maxRecDepth 20000 in
theorem ggX6_told_X6_isTeam : GoodIn wsX6_told wsX6_isTeam := goodIn_r _ [6, 7, 8, 9, 5, 10, 56, 57, 58, 59, 60, 61, 62, 63, 64, 65] (by decide +kernel) (by decide +kernel)
set_option maxRecDepth 20000 in
theorem gX6_told_X6_isTeam : GoodIn wsX6_told (wsV RX6 88 RX6 yX6_isTeam wsX6_isTeam) := goodIn_app (goodIn_of _ (by decide +kernel)) ggX6_told_X6_isTeam
set_option maxRecDepth 20000 in
theorem ggX6_told_X6_isIn : GoodIn wsX6_told wsX6_isIn := goodIn_r _ [10] (by decide +kernel) (by decide +kernel)
set_option maxRecDepth 20000 in
theorem gX6_told_X6_isIn : GoodIn wsX6_told (va_wsS RX6 35 yX6_isIn wsX6_isIn) := goodIn_app (goodIn_of _ (by decide +kernel)) ggX6_told_X6_isIn
set_option maxRecDepth 20000 in
theorem ggX6_told_X6_teamTold : GoodIn wsX6_told wsX6_teamTold := goodIn_r _ [14, 15, 16, 17, 5, 18, 19, 20, 21, 22, 23, 24, 25, 26, 27, 28, 29, 30, 31, 32, 33, 34, 35, 36, 37, 38, 39, 40, 41, 42, 43, 44, 45, 46, 47, 48, 49, 50, 51, 56, 57, 58, 59, 60, 61, 62, 63, 64, 65] (by decide +kernel) (by decide +kernel)
set_option maxRecDepth 20000 in
theorem gX6_told_X6_teamTold : GoodIn wsX6_told (wsV RX6 100 RX6 yX6_teamTold wsX6_teamTold) := goodIn_app (goodIn_of _ (by decide +kernel)) ggX6_told_X6_teamTold
set_option maxRecDepth 20000 in
theorem ggX6_told_X6_fail : GoodIn wsX6_told wsX6_fail := goodIn_r _ [55, 1, 56, 57, 58, 59, 60, 61, 62, 63, 64, 65] (by decide +kernel) (by decide +kernel)
set_option maxRecDepth 20000 in
theorem gX6_told_X6_fail : GoodIn wsX6_told (wsV RX6 53 RX6 yX6_fail wsX6_fail) := goodIn_app (goodIn_of _ (by decide +kernel)) ggX6_told_X6_fail
theorem dX6_told_0 : decode cX6_told 0 = .ok (.aload_n 0, 1) := by decide +kernel
theorem dX6_told_1 : decode cX6_told 1 = .ok (.iconst 0, 1) := by decide +kernel
theorem dX6_told_2 : decode cX6_told 2 = .ok (.putfield 31, 3) := by decide +kernel
theorem dX6_told_5 : decode cX6_told 5 = .ok (.aload_n 0, 1) := by decide +kernel
theorem dX6_told_6 : decode cX6_told 6 = .ok (.iload_n 1, 1) := by decide +kernel
theorem dX6_told_7 : decode cX6_told 7 = .ok (.invokevirtual 88, 3) := by decide +kernel
theorem dX6_told_10 : decode cX6_told 10 = .ok (.ifCond .eq 21, 3) := by decide +kernel
theorem dX6_told_13 : decode cX6_told 13 = .ok (.iload_n 2, 1) := by decide +kernel
theorem dX6_told_14 : decode cX6_told 14 = .ok (.iconst 0, 1) := by decide +kernel
theorem dX6_told_15 : decode cX6_told 15 = .ok (.iconst 3, 1) := by decide +kernel
theorem dX6_told_16 : decode cX6_told 16 = .ok (.invokestatic 35, 3) := by decide +kernel
theorem dX6_told_19 : decode cX6_told 19 = .ok (.ifCond .eq 12, 3) := by decide +kernel
theorem dX6_told_22 : decode cX6_told 22 = .ok (.aload_n 0, 1) := by decide +kernel
theorem dX6_told_23 : decode cX6_told 23 = .ok (.iload_n 1, 1) := by decide +kernel
theorem dX6_told_24 : decode cX6_told 24 = .ok (.iload_n 2, 1) := by decide +kernel
theorem dX6_told_25 : decode cX6_told 25 = .ok (.invokevirtual 100, 3) := by decide +kernel
theorem dX6_told_28 : decode cX6_told 28 = .ok (.goto 8, 3) := by decide +kernel
theorem dX6_told_31 : decode cX6_told 31 = .ok (.aload_n 0, 1) := by decide +kernel
theorem dX6_told_32 : decode cX6_told 32 = .ok (.iconst 1, 1) := by decide +kernel
theorem dX6_told_33 : decode cX6_told 33 = .ok (.invokevirtual 53, 3) := by decide +kernel
theorem dX6_told_36 : decode cX6_told 36 = .ok (.ireturn, 1) := by decide +kernel
set_option maxRecDepth 20000 in
theorem ggX6_post_X6_isIn : GoodIn wsX6_post wsX6_isIn := goodIn_r _ [6] (by decide +kernel) (by decide +kernel)
set_option maxRecDepth 20000 in
theorem gX6_post_X6_isIn : GoodIn wsX6_post (va_wsS RX6 35 yX6_isIn wsX6_isIn) := goodIn_app (goodIn_of _ (by decide +kernel)) ggX6_post_X6_isIn
set_option maxRecDepth 20000 in
theorem ggX6_post_X6_ps : GoodIn wsX6_post wsX6_ps := goodIn_r _ [10, 11, 16, 17, 18, 19, 20, 21, 22, 23, 24, 25] (by decide +kernel) (by decide +kernel)
set_option maxRecDepth 20000 in
theorem gX6_post_X6_ps : GoodIn wsX6_post (wsV RX6 45 RX6 yX6_ps wsX6_ps) := goodIn_app (goodIn_of _ (by decide +kernel)) ggX6_post_X6_ps
set_option maxRecDepth 20000 in
theorem ggX6_post_X6_fail : GoodIn wsX6_post wsX6_fail := goodIn_r _ [15, 1, 16, 17, 18, 19, 20, 21, 22, 23, 24, 25] (by decide +kernel) (by decide +kernel)
